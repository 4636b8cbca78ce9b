theorem dS_can_0 : decode prog_30_method_3_code 0 = .ok (.iload_n 0, 1) := by decide +kernel
theorem dS_can_1 : decode prog_30_method_3_code 1 = .ok (.sipush 255, 3) := by decide +kernel
theorem dS_can_4 : decode prog_30_method_3_code 4 = .ok (.if_icmp .gt 7, 3) := by decide +kernel
theorem dS_can_7 : decode prog_30_method_3_code 7 = .ok (.iconst 1, 1) := by decide +kernel
theorem dS_can_8 : decode prog_30_method_3_code 8 = .ok (.goto 4, 3) := by decide +kernel
theorem dS_can_11 : decode prog_30_method_3_code 11 = .ok (.iconst 0, 1) := by decide +kernel
theorem dS_can_12 : decode prog_30_method_3_code 12 = .ok (.ireturn, 1) := by decide +kernel
theorem dS_siz_0 : decode prog_23_method_13_code 0 = .ok (.iconst 1, 1) := by decide +kernel
theorem dS_siz_1 : decode prog_23_method_13_code 1 = .ok (.istore_n 1, 1) := by decide +kernel
theorem dS_siz_2 : decode prog_23_method_13_code 2 = .ok (.iload_n 0, 1) := by decide +kernel
theorem dS_siz_3 : decode prog_23_method_13_code 3 = .ok (.ifCond .lt 8, 3) := by decide +kernel
theorem dS_siz_6 : decode prog_23_method_13_code 6 = .ok (.iconst 0, 1) := by decide +kernel
theorem dS_siz_7 : decode prog_23_method_13_code 7 = .ok (.istore_n 1, 1) := by decide +kernel
theorem dS_siz_8 : decode prog_23_method_13_code 8 = .ok (.iload_n 0, 1) := by decide +kernel
theorem dS_siz_9 : decode prog_23_method_13_code 9 = .ok (.ineg, 1) := by decide +kernel
theorem dS_siz_10 : decode prog_23_method_13_code 10 = .ok (.istore_n 0, 1) := by decide +kernel
theorem dS_siz_11 : decode prog_23_method_13_code 11 = .ok (.bipush (-10), 2) := by decide +kernel
theorem dS_siz_13 : decode prog_23_method_13_code 13 = .ok (.istore_n 2, 1) := by decide +kernel
theorem dS_siz_14 : decode prog_23_method_13_code 14 = .ok (.iconst 1, 1) := by decide +kernel
theorem dS_siz_15 : decode prog_23_method_13_code 15 = .ok (.istore_n 3, 1) := by decide +kernel
theorem dS_siz_16 : decode prog_23_method_13_code 16 = .ok (.iload_n 3, 1) := by decide +kernel
theorem dS_siz_17 : decode prog_23_method_13_code 17 = .ok (.bipush 10, 2) := by decide +kernel
theorem dS_siz_19 : decode prog_23_method_13_code 19 = .ok (.if_icmp .ge 23, 3) := by decide +kernel
theorem dS_siz_22 : decode prog_23_method_13_code 22 = .ok (.iload_n 0, 1) := by decide +kernel
theorem dS_siz_23 : decode prog_23_method_13_code 23 = .ok (.iload_n 2, 1) := by decide +kernel
theorem dS_siz_24 : decode prog_23_method_13_code 24 = .ok (.if_icmp .le 7, 3) := by decide +kernel
theorem dS_siz_27 : decode prog_23_method_13_code 27 = .ok (.iload_n 3, 1) := by decide +kernel
theorem dS_siz_28 : decode prog_23_method_13_code 28 = .ok (.iload_n 1, 1) := by decide +kernel
theorem dS_siz_29 : decode prog_23_method_13_code 29 = .ok (.iadd, 1) := by decide +kernel
theorem dS_siz_30 : decode prog_23_method_13_code 30 = .ok (.ireturn, 1) := by decide +kernel
theorem dS_siz_31 : decode prog_23_method_13_code 31 = .ok (.bipush 10, 2) := by decide +kernel
theorem dS_siz_33 : decode prog_23_method_13_code 33 = .ok (.iload_n 2, 1) := by decide +kernel
theorem dS_siz_34 : decode prog_23_method_13_code 34 = .ok (.imul, 1) := by decide +kernel
theorem dS_siz_35 : decode prog_23_method_13_code 35 = .ok (.istore_n 2, 1) := by decide +kernel
theorem dS_siz_36 : decode prog_23_method_13_code 36 = .ok (.iinc 3 1, 3) := by decide +kernel
theorem dS_siz_39 : decode prog_23_method_13_code 39 = .ok (.goto (-23), 3) := by decide +kernel
theorem dS_siz_42 : decode prog_23_method_13_code 42 = .ok (.bipush 10, 2) := by decide +kernel
theorem dS_siz_44 : decode prog_23_method_13_code 44 = .ok (.iload_n 1, 1) := by decide +kernel
theorem dS_siz_45 : decode prog_23_method_13_code 45 = .ok (.iadd, 1) := by decide +kernel
theorem dS_siz_46 : decode prog_23_method_13_code 46 = .ok (.ireturn, 1) := by decide +kernel
theorem dS_gch_0 : decode prog_23_method_12_code 0 = .ok (.iload_n 1, 1) := by decide +kernel
theorem dS_gch_1 : decode prog_23_method_12_code 1 = .ok (.istore 5, 2) := by decide +kernel
theorem dS_gch_3 : decode prog_23_method_12_code 3 = .ok (.iload_n 0, 1) := by decide +kernel
theorem dS_gch_4 : decode prog_23_method_12_code 4 = .ok (.ifCond .ge 7, 3) := by decide +kernel
theorem dS_gch_7 : decode prog_23_method_12_code 7 = .ok (.iconst 1, 1) := by decide +kernel
theorem dS_gch_8 : decode prog_23_method_12_code 8 = .ok (.goto 4, 3) := by decide +kernel
theorem dS_gch_11 : decode prog_23_method_12_code 11 = .ok (.iconst 0, 1) := by decide +kernel
theorem dS_gch_12 : decode prog_23_method_12_code 12 = .ok (.istore 6, 2) := by decide +kernel
theorem dS_gch_14 : decode prog_23_method_12_code 14 = .ok (.iload 6, 2) := by decide +kernel
theorem dS_gch_16 : decode prog_23_method_12_code 16 = .ok (.ifCond .ne 6, 3) := by decide +kernel
theorem dS_gch_19 : decode prog_23_method_12_code 19 = .ok (.iload_n 0, 1) := by decide +kernel
theorem dS_gch_20 : decode prog_23_method_12_code 20 = .ok (.ineg, 1) := by decide +kernel
theorem dS_gch_21 : decode prog_23_method_12_code 21 = .ok (.istore_n 0, 1) := by decide +kernel
theorem dS_gch_22 : decode prog_23_method_12_code 22 = .ok (.iload_n 0, 1) := by decide +kernel
theorem dS_gch_23 : decode prog_23_method_12_code 23 = .ok (.bipush (-100), 2) := by decide +kernel
theorem dS_gch_25 : decode prog_23_method_12_code 25 = .ok (.if_icmp .gt 47, 3) := by decide +kernel
theorem dS_gch_28 : decode prog_23_method_12_code 28 = .ok (.iload_n 0, 1) := by decide +kernel
theorem dS_gch_29 : decode prog_23_method_12_code 29 = .ok (.bipush 100, 2) := by decide +kernel
theorem dS_gch_31 : decode prog_23_method_12_code 31 = .ok (.idiv, 1) := by decide +kernel
theorem dS_gch_32 : decode prog_23_method_12_code 32 = .ok (.istore_n 3, 1) := by decide +kernel
theorem dS_gch_33 : decode prog_23_method_12_code 33 = .ok (.iload_n 3, 1) := by decide +kernel
theorem dS_gch_34 : decode prog_23_method_12_code 34 = .ok (.bipush 100, 2) := by decide +kernel
theorem dS_gch_36 : decode prog_23_method_12_code 36 = .ok (.imul, 1) := by decide +kernel
theorem dS_gch_37 : decode prog_23_method_12_code 37 = .ok (.iload_n 0, 1) := by decide +kernel
theorem dS_gch_38 : decode prog_23_method_12_code 38 = .ok (.isub, 1) := by decide +kernel
theorem dS_gch_39 : decode prog_23_method_12_code 39 = .ok (.istore 4, 2) := by decide +kernel
theorem dS_gch_41 : decode prog_23_method_12_code 41 = .ok (.iload_n 3, 1) := by decide +kernel
theorem dS_gch_42 : decode prog_23_method_12_code 42 = .ok (.istore_n 0, 1) := by decide +kernel
theorem dS_gch_43 : decode prog_23_method_12_code 43 = .ok (.aload_n 2, 1) := by decide +kernel
theorem dS_gch_44 : decode prog_23_method_12_code 44 = .ok (.iinc 5 (-1), 3) := by decide +kernel
theorem dS_gch_47 : decode prog_23_method_12_code 47 = .ok (.iload 5, 2) := by decide +kernel
theorem dS_gch_49 : decode prog_23_method_12_code 49 = .ok (.getstatic 83, 3) := by decide +kernel
theorem dS_gch_52 : decode prog_23_method_12_code 52 = .ok (.iload 4, 2) := by decide +kernel
theorem dS_gch_54 : decode prog_23_method_12_code 54 = .ok (.baload, 1) := by decide +kernel
theorem dS_gch_55 : decode prog_23_method_12_code 55 = .ok (.bastore, 1) := by decide +kernel
theorem dS_gch_56 : decode prog_23_method_12_code 56 = .ok (.aload_n 2, 1) := by decide +kernel
theorem dS_gch_57 : decode prog_23_method_12_code 57 = .ok (.iinc 5 (-1), 3) := by decide +kernel
theorem dS_gch_60 : decode prog_23_method_12_code 60 = .ok (.iload 5, 2) := by decide +kernel
theorem dS_gch_62 : decode prog_23_method_12_code 62 = .ok (.getstatic 87, 3) := by decide +kernel
theorem dS_gch_65 : decode prog_23_method_12_code 65 = .ok (.iload 4, 2) := by decide +kernel
theorem dS_gch_67 : decode prog_23_method_12_code 67 = .ok (.baload, 1) := by decide +kernel
theorem dS_gch_68 : decode prog_23_method_12_code 68 = .ok (.bastore, 1) := by decide +kernel
theorem dS_gch_69 : decode prog_23_method_12_code 69 = .ok (.goto (-47), 3) := by decide +kernel
theorem dS_gch_72 : decode prog_23_method_12_code 72 = .ok (.aload_n 2, 1) := by decide +kernel
theorem dS_gch_73 : decode prog_23_method_12_code 73 = .ok (.iinc 5 (-1), 3) := by decide +kernel
theorem dS_gch_76 : decode prog_23_method_12_code 76 = .ok (.iload 5, 2) := by decide +kernel
theorem dS_gch_78 : decode prog_23_method_12_code 78 = .ok (.getstatic 83, 3) := by decide +kernel
theorem dS_gch_81 : decode prog_23_method_12_code 81 = .ok (.iload_n 0, 1) := by decide +kernel
theorem dS_gch_82 : decode prog_23_method_12_code 82 = .ok (.ineg, 1) := by decide +kernel
theorem dS_gch_83 : decode prog_23_method_12_code 83 = .ok (.baload, 1) := by decide +kernel
theorem dS_gch_84 : decode prog_23_method_12_code 84 = .ok (.bastore, 1) := by decide +kernel
theorem dS_gch_85 : decode prog_23_method_12_code 85 = .ok (.iload_n 0, 1) := by decide +kernel
theorem dS_gch_86 : decode prog_23_method_12_code 86 = .ok (.bipush (-9), 2) := by decide +kernel
theorem dS_gch_88 : decode prog_23_method_12_code 88 = .ok (.if_icmp .ge 16, 3) := by decide +kernel
theorem dS_gch_91 : decode prog_23_method_12_code 91 = .ok (.aload_n 2, 1) := by decide +kernel
theorem dS_gch_92 : decode prog_23_method_12_code 92 = .ok (.iinc 5 (-1), 3) := by decide +kernel
theorem dS_gch_95 : decode prog_23_method_12_code 95 = .ok (.iload 5, 2) := by decide +kernel
theorem dS_gch_97 : decode prog_23_method_12_code 97 = .ok (.getstatic 87, 3) := by decide +kernel
theorem dS_gch_100 : decode prog_23_method_12_code 100 = .ok (.iload_n 0, 1) := by decide +kernel
theorem dS_gch_101 : decode prog_23_method_12_code 101 = .ok (.ineg, 1) := by decide +kernel
theorem dS_gch_102 : decode prog_23_method_12_code 102 = .ok (.baload, 1) := by decide +kernel
theorem dS_gch_103 : decode prog_23_method_12_code 103 = .ok (.bastore, 1) := by decide +kernel
theorem dS_gch_104 : decode prog_23_method_12_code 104 = .ok (.iload 6, 2) := by decide +kernel
theorem dS_gch_106 : decode prog_23_method_12_code 106 = .ok (.ifCond .eq 12, 3) := by decide +kernel
theorem dS_gch_109 : decode prog_23_method_12_code 109 = .ok (.aload_n 2, 1) := by decide +kernel
theorem dS_gch_110 : decode prog_23_method_12_code 110 = .ok (.iinc 5 (-1), 3) := by decide +kernel
theorem dS_gch_113 : decode prog_23_method_12_code 113 = .ok (.iload 5, 2) := by decide +kernel
theorem dS_gch_115 : decode prog_23_method_12_code 115 = .ok (.bipush 45, 2) := by decide +kernel
theorem dS_gch_117 : decode prog_23_method_12_code 117 = .ok (.bastore, 1) := by decide +kernel
theorem dS_gch_118 : decode prog_23_method_12_code 118 = .ok (.iload 5, 2) := by decide +kernel
theorem dS_gch_120 : decode prog_23_method_12_code 120 = .ok (.ireturn, 1) := by decide +kernel
theorem dS_lat_0 : decode prog_12_method_68_code 0 = .ok (.getstatic 18, 3) := by decide +kernel
theorem dS_lat_3 : decode prog_12_method_68_code 3 = .ok (.ifCond .eq 14, 3) := by decide +kernel
theorem dS_lat_6 : decode prog_12_method_68_code 6 = .ok (.aload_n 0, 1) := by decide +kernel
theorem dS_lat_7 : decode prog_12_method_68_code 7 = .ok (.getfield 22, 3) := by decide +kernel
theorem dS_lat_10 : decode prog_12_method_68_code 10 = .ok (.ifCond .ne 7, 3) := by decide +kernel
theorem dS_lat_13 : decode prog_12_method_68_code 13 = .ok (.iconst 1, 1) := by decide +kernel
theorem dS_lat_14 : decode prog_12_method_68_code 14 = .ok (.goto 4, 3) := by decide +kernel
theorem dS_lat_17 : decode prog_12_method_68_code 17 = .ok (.iconst 0, 1) := by decide +kernel
theorem dS_lat_18 : decode prog_12_method_68_code 18 = .ok (.ireturn, 1) := by decide +kernel
theorem dS_nle_0 : decode prog_39_method_27_code 0 = .ok (.iload_n 0, 1) := by decide +kernel
theorem dS_nle_1 : decode prog_39_method_27_code 1 = .ok (.iload_n 1, 1) := by decide +kernel
theorem dS_nle_2 : decode prog_39_method_27_code 2 = .ok (.iload_n 2, 1) := by decide +kernel
theorem dS_nle_3 : decode prog_39_method_27_code 3 = .ok (.invokestatic 194, 3) := by decide +kernel
theorem dS_nle_6 : decode prog_39_method_27_code 6 = .ok (.iadd, 1) := by decide +kernel
theorem dS_nle_7 : decode prog_39_method_27_code 7 = .ok (.istore_n 3, 1) := by decide +kernel
theorem dS_nle_8 : decode prog_39_method_27_code 8 = .ok (.iconst 0, 1) := by decide +kernel
theorem dS_nle_9 : decode prog_39_method_27_code 9 = .ok (.iload_n 3, 1) := by decide +kernel
theorem dS_nle_10 : decode prog_39_method_27_code 10 = .ok (.if_icmp .ge 11, 3) := by decide +kernel
theorem dS_nle_13 : decode prog_39_method_27_code 13 = .ok (.iload_n 3, 1) := by decide +kernel
theorem dS_nle_14 : decode prog_39_method_27_code 14 = .ok (.ldc 200, 2) := by decide +kernel
theorem dS_nle_16 : decode prog_39_method_27_code 16 = .ok (.if_icmp .gt 5, 3) := by decide +kernel
theorem dS_nle_19 : decode prog_39_method_27_code 19 = .ok (.iload_n 3, 1) := by decide +kernel
theorem dS_nle_20 : decode prog_39_method_27_code 20 = .ok (.ireturn, 1) := by decide +kernel
theorem dS_nle_21 : decode prog_39_method_27_code 21 = .ok (.iload_n 0, 1) := by decide +kernel
theorem dS_nle_22 : decode prog_39_method_27_code 22 = .ok (.iload_n 1, 1) := by decide +kernel
theorem dS_nle_23 : decode prog_39_method_27_code 23 = .ok (.invokestatic 201, 3) := by decide +kernel
theorem dS_nle_26 : decode prog_39_method_27_code 26 = .ok (.ireturn, 1) := by decide +kernel
theorem dS_nca_0 : decode prog_12_method_10_code 0 = .ok (.aload_n 0, 1) := by decide +kernel
theorem dS_nca_1 : decode prog_12_method_10_code 1 = .ok (.getfield 15, 3) := by decide +kernel
theorem dS_nca_4 : decode prog_12_method_10_code 4 = .ok (.arraylength, 1) := by decide +kernel
theorem dS_nca_5 : decode prog_12_method_10_code 5 = .ok (.istore_n 2, 1) := by decide +kernel
theorem dS_nca_6 : decode prog_12_method_10_code 6 = .ok (.iload_n 1, 1) := by decide +kernel
theorem dS_nca_7 : decode prog_12_method_10_code 7 = .ok (.aload_n 0, 1) := by decide +kernel
theorem dS_nca_8 : decode prog_12_method_10_code 8 = .ok (.getfield 22, 3) := by decide +kernel
theorem dS_nca_11 : decode prog_12_method_10_code 11 = .ok (.ishl, 1) := by decide +kernel
theorem dS_nca_12 : decode prog_12_method_10_code 12 = .ok (.istore_n 3, 1) := by decide +kernel
theorem dS_nca_13 : decode prog_12_method_10_code 13 = .ok (.iload_n 3, 1) := by decide +kernel
theorem dS_nca_14 : decode prog_12_method_10_code 14 = .ok (.iload_n 2, 1) := by decide +kernel
theorem dS_nca_15 : decode prog_12_method_10_code 15 = .ok (.isub, 1) := by decide +kernel
theorem dS_nca_16 : decode prog_12_method_10_code 16 = .ok (.istore 4, 2) := by decide +kernel
theorem dS_nca_18 : decode prog_12_method_10_code 18 = .ok (.iload_n 2, 1) := by decide +kernel
theorem dS_nca_19 : decode prog_12_method_10_code 19 = .ok (.iload 4, 2) := by decide +kernel
theorem dS_nca_21 : decode prog_12_method_10_code 21 = .ok (.iload_n 2, 1) := by decide +kernel
theorem dS_nca_22 : decode prog_12_method_10_code 22 = .ok (.iconst 2, 1) := by decide +kernel
theorem dS_nca_23 : decode prog_12_method_10_code 23 = .ok (.aload_n 0, 1) := by decide +kernel
theorem dS_nca_24 : decode prog_12_method_10_code 24 = .ok (.getfield 22, 3) := by decide +kernel
theorem dS_nca_27 : decode prog_12_method_10_code 27 = .ok (.ishl, 1) := by decide +kernel
theorem dS_nca_28 : decode prog_12_method_10_code 28 = .ok (.iadd, 1) := by decide +kernel
theorem dS_nca_29 : decode prog_12_method_10_code 29 = .ok (.invokestatic 114, 3) := by decide +kernel
theorem dS_nca_32 : decode prog_12_method_10_code 32 = .ok (.istore 5, 2) := by decide +kernel
theorem dS_nca_34 : decode prog_12_method_10_code 34 = .ok (.iload 5, 2) := by decide +kernel
theorem dS_nca_36 : decode prog_12_method_10_code 36 = .ok (.ldc 39, 2) := by decide +kernel
theorem dS_nca_38 : decode prog_12_method_10_code 38 = .ok (.if_icmp .ne 13, 3) := by decide +kernel
theorem dS_nca_41 : decode prog_12_method_10_code 41 = .ok (.new 120, 3) := by decide +kernel
theorem dS_nca_44 : decode prog_12_method_10_code 44 = .ok (.dup, 1) := by decide +kernel
theorem dS_nca_45 : decode prog_12_method_10_code 45 = .ok (.ldc 122, 2) := by decide +kernel
theorem dS_nca_47 : decode prog_12_method_10_code 47 = .ok (.invokespecial 124, 3) := by decide +kernel
theorem dS_nca_50 : decode prog_12_method_10_code 50 = .ok (.athrow, 1) := by decide +kernel
theorem dS_nca_51 : decode prog_12_method_10_code 51 = .ok (.iload 5, 2) := by decide +kernel
theorem dS_nca_53 : decode prog_12_method_10_code 53 = .ok (.aload_n 0, 1) := by decide +kernel
theorem dS_nca_54 : decode prog_12_method_10_code 54 = .ok (.getfield 22, 3) := by decide +kernel
theorem dS_nca_57 : decode prog_12_method_10_code 57 = .ok (.ishr, 1) := by decide +kernel
theorem dS_nca_58 : decode prog_12_method_10_code 58 = .ok (.ireturn, 1) := by decide +kernel
theorem dS_cop_0 : decode prog_37_method_121_code 0 = .ok (.iload_n 1, 1) := by decide +kernel
theorem dS_cop_1 : decode prog_37_method_121_code 1 = .ok (.aload_n 0, 1) := by decide +kernel
theorem dS_cop_2 : decode prog_37_method_121_code 2 = .ok (.arraylength, 1) := by decide +kernel
theorem dS_cop_3 : decode prog_37_method_121_code 3 = .ok (.if_icmp .ne 11, 3) := by decide +kernel
theorem dS_cop_6 : decode prog_37_method_121_code 6 = .ok (.aload_n 0, 1) := by decide +kernel
theorem dS_cop_7 : decode prog_37_method_121_code 7 = .ok (.invokevirtual 310, 3) := by decide +kernel
theorem dS_cop_10 : decode prog_37_method_121_code 10 = .ok (.checkcast 311, 3) := by decide +kernel
theorem dS_cop_13 : decode prog_37_method_121_code 13 = .ok (.areturn, 1) := by decide +kernel
theorem dS_cop_14 : decode prog_37_method_121_code 14 = .ok (.iload_n 1, 1) := by decide +kernel
theorem dS_cop_15 : decode prog_37_method_121_code 15 = .ok (.newarray .byte, 2) := by decide +kernel
theorem dS_cop_17 : decode prog_37_method_121_code 17 = .ok (.astore_n 2, 1) := by decide +kernel
theorem dS_cop_18 : decode prog_37_method_121_code 18 = .ok (.aload_n 0, 1) := by decide +kernel
theorem dS_cop_19 : decode prog_37_method_121_code 19 = .ok (.iconst 0, 1) := by decide +kernel
theorem dS_cop_20 : decode prog_37_method_121_code 20 = .ok (.aload_n 2, 1) := by decide +kernel
theorem dS_cop_21 : decode prog_37_method_121_code 21 = .ok (.iconst 0, 1) := by decide +kernel
theorem dS_cop_22 : decode prog_37_method_121_code 22 = .ok (.aload_n 0, 1) := by decide +kernel
theorem dS_cop_23 : decode prog_37_method_121_code 23 = .ok (.arraylength, 1) := by decide +kernel
theorem dS_cop_24 : decode prog_37_method_121_code 24 = .ok (.iload_n 1, 1) := by decide +kernel
theorem dS_cop_25 : decode prog_37_method_121_code 25 = .ok (.invokestatic 304, 3) := by decide +kernel
theorem dS_cop_28 : decode prog_37_method_121_code 28 = .ok (.invokestatic 150, 3) := by decide +kernel
theorem dS_cop_31 : decode prog_37_method_121_code 31 = .ok (.aload_n 2, 1) := by decide +kernel
theorem dS_cop_32 : decode prog_37_method_121_code 32 = .ok (.areturn, 1) := by decide +kernel
theorem dS_ens_0 : decode prog_12_method_9_code 0 = .ok (.aload_n 0, 1) := by decide +kernel
theorem dS_ens_1 : decode prog_12_method_9_code 1 = .ok (.getfield 15, 3) := by decide +kernel
theorem dS_ens_4 : decode prog_12_method_9_code 4 = .ok (.arraylength, 1) := by decide +kernel
theorem dS_ens_5 : decode prog_12_method_9_code 5 = .ok (.aload_n 0, 1) := by decide +kernel
theorem dS_ens_6 : decode prog_12_method_9_code 6 = .ok (.getfield 22, 3) := by decide +kernel
theorem dS_ens_9 : decode prog_12_method_9_code 9 = .ok (.ishr, 1) := by decide +kernel
theorem dS_ens_10 : decode prog_12_method_9_code 10 = .ok (.istore_n 2, 1) := by decide +kernel
theorem dS_ens_11 : decode prog_12_method_9_code 11 = .ok (.iload_n 1, 1) := by decide +kernel
theorem dS_ens_12 : decode prog_12_method_9_code 12 = .ok (.iload_n 2, 1) := by decide +kernel
theorem dS_ens_13 : decode prog_12_method_9_code 13 = .ok (.isub, 1) := by decide +kernel
theorem dS_ens_14 : decode prog_12_method_9_code 14 = .ok (.ifCond .le 24, 3) := by decide +kernel
theorem dS_ens_17 : decode prog_12_method_9_code 17 = .ok (.aload_n 0, 1) := by decide +kernel
theorem dS_ens_18 : decode prog_12_method_9_code 18 = .ok (.aload_n 0, 1) := by decide +kernel
theorem dS_ens_19 : decode prog_12_method_9_code 19 = .ok (.getfield 15, 3) := by decide +kernel
theorem dS_ens_22 : decode prog_12_method_9_code 22 = .ok (.aload_n 0, 1) := by decide +kernel
theorem dS_ens_23 : decode prog_12_method_9_code 23 = .ok (.iload_n 1, 1) := by decide +kernel
theorem dS_ens_24 : decode prog_12_method_9_code 24 = .ok (.invokevirtual 104, 3) := by decide +kernel
theorem dS_ens_27 : decode prog_12_method_9_code 27 = .ok (.aload_n 0, 1) := by decide +kernel
theorem dS_ens_28 : decode prog_12_method_9_code 28 = .ok (.getfield 22, 3) := by decide +kernel
theorem dS_ens_31 : decode prog_12_method_9_code 31 = .ok (.ishl, 1) := by decide +kernel
theorem dS_ens_32 : decode prog_12_method_9_code 32 = .ok (.invokestatic 108, 3) := by decide +kernel
theorem dS_ens_35 : decode prog_12_method_9_code 35 = .ok (.putfield 15, 3) := by decide +kernel
theorem dS_ens_38 : decode prog_12_method_9_code 38 = .ok (.return_, 1) := by decide +kernel
theorem dS_apc_0 : decode prog_12_method_31_code 0 = .ok (.aload_n 0, 1) := by decide +kernel
theorem dS_apc_1 : decode prog_12_method_31_code 1 = .ok (.aload_n 0, 1) := by decide +kernel
theorem dS_apc_2 : decode prog_12_method_31_code 2 = .ok (.getfield 79, 3) := by decide +kernel
theorem dS_apc_5 : decode prog_12_method_31_code 5 = .ok (.iconst 1, 1) := by decide +kernel
theorem dS_apc_6 : decode prog_12_method_31_code 6 = .ok (.iadd, 1) := by decide +kernel
theorem dS_apc_7 : decode prog_12_method_31_code 7 = .ok (.invokevirtual 100, 3) := by decide +kernel
theorem dS_apc_10 : decode prog_12_method_31_code 10 = .ok (.aload_n 0, 1) := by decide +kernel
theorem dS_apc_11 : decode prog_12_method_31_code 11 = .ok (.invokevirtual 83, 3) := by decide +kernel
theorem dS_apc_14 : decode prog_12_method_31_code 14 = .ok (.ifCond .eq 31, 3) := by decide +kernel
theorem dS_apc_17 : decode prog_12_method_31_code 17 = .ok (.iload_n 1, 1) := by decide +kernel
theorem dS_apc_18 : decode prog_12_method_31_code 18 = .ok (.invokestatic 191, 3) := by decide +kernel
theorem dS_apc_21 : decode prog_12_method_31_code 21 = .ok (.ifCond .eq 24, 3) := by decide +kernel
theorem dS_apc_24 : decode prog_12_method_31_code 24 = .ok (.aload_n 0, 1) := by decide +kernel
theorem dS_apc_25 : decode prog_12_method_31_code 25 = .ok (.getfield 15, 3) := by decide +kernel
theorem dS_apc_28 : decode prog_12_method_31_code 28 = .ok (.aload_n 0, 1) := by decide +kernel
theorem dS_apc_29 : decode prog_12_method_31_code 29 = .ok (.dup, 1) := by decide +kernel
theorem dS_apc_30 : decode prog_12_method_31_code 30 = .ok (.getfield 79, 3) := by decide +kernel
theorem dS_apc_33 : decode prog_12_method_31_code 33 = .ok (.dup_x1, 1) := by decide +kernel
theorem dS_apc_34 : decode prog_12_method_31_code 34 = .ok (.iconst 1, 1) := by decide +kernel
theorem dS_apc_35 : decode prog_12_method_31_code 35 = .ok (.iadd, 1) := by decide +kernel
theorem dS_apc_36 : decode prog_12_method_31_code 36 = .ok (.putfield 79, 3) := by decide +kernel
theorem dS_apc_39 : decode prog_12_method_31_code 39 = .ok (.iload_n 1, 1) := by decide +kernel
theorem dS_apc_40 : decode prog_12_method_31_code 40 = .ok (.i2b, 1) := by decide +kernel
theorem dS_apc_41 : decode prog_12_method_31_code 41 = .ok (.bastore, 1) := by decide +kernel
theorem dS_apc_42 : decode prog_12_method_31_code 42 = .ok (.goto 33, 3) := by decide +kernel
theorem dS_apc_45 : decode prog_12_method_31_code 45 = .ok (.aload_n 0, 1) := by decide +kernel
theorem dS_apc_46 : decode prog_12_method_31_code 46 = .ok (.invokevirtual 83, 3) := by decide +kernel
theorem dS_apc_49 : decode prog_12_method_31_code 49 = .ok (.ifCond .eq 7, 3) := by decide +kernel
theorem dS_apc_52 : decode prog_12_method_31_code 52 = .ok (.aload_n 0, 1) := by decide +kernel
theorem dS_apc_53 : decode prog_12_method_31_code 53 = .ok (.invokevirtual 195, 3) := by decide +kernel
theorem dS_apc_56 : decode prog_12_method_31_code 56 = .ok (.aload_n 0, 1) := by decide +kernel
theorem dS_apc_57 : decode prog_12_method_31_code 57 = .ok (.getfield 15, 3) := by decide +kernel
theorem dS_apc_60 : decode prog_12_method_31_code 60 = .ok (.aload_n 0, 1) := by decide +kernel
theorem dS_apc_61 : decode prog_12_method_31_code 61 = .ok (.dup, 1) := by decide +kernel
theorem dS_apc_62 : decode prog_12_method_31_code 62 = .ok (.getfield 79, 3) := by decide +kernel
theorem dS_apc_65 : decode prog_12_method_31_code 65 = .ok (.dup_x1, 1) := by decide +kernel
theorem dS_apc_66 : decode prog_12_method_31_code 66 = .ok (.iconst 1, 1) := by decide +kernel
theorem dS_apc_67 : decode prog_12_method_31_code 67 = .ok (.iadd, 1) := by decide +kernel
theorem dS_apc_68 : decode prog_12_method_31_code 68 = .ok (.putfield 79, 3) := by decide +kernel
theorem dS_apc_71 : decode prog_12_method_31_code 71 = .ok (.iload_n 1, 1) := by decide +kernel
theorem dS_apc_72 : decode prog_12_method_31_code 72 = .ok (.invokestatic 197, 3) := by decide +kernel
theorem dS_apc_75 : decode prog_12_method_31_code 75 = .ok (.aload_n 0, 1) := by decide +kernel
theorem dS_apc_76 : decode prog_12_method_31_code 76 = .ok (.areturn, 1) := by decide +kernel
theorem dS_api_0 : decode prog_12_method_32_code 0 = .ok (.aload_n 0, 1) := by decide +kernel
theorem dS_api_1 : decode prog_12_method_32_code 1 = .ok (.getfield 79, 3) := by decide +kernel
theorem dS_api_4 : decode prog_12_method_32_code 4 = .ok (.istore_n 2, 1) := by decide +kernel
theorem dS_api_5 : decode prog_12_method_32_code 5 = .ok (.iload_n 2, 1) := by decide +kernel
theorem dS_api_6 : decode prog_12_method_32_code 6 = .ok (.iload_n 1, 1) := by decide +kernel
theorem dS_api_7 : decode prog_12_method_32_code 7 = .ok (.invokestatic 245, 3) := by decide +kernel
theorem dS_api_10 : decode prog_12_method_32_code 10 = .ok (.iadd, 1) := by decide +kernel
theorem dS_api_11 : decode prog_12_method_32_code 11 = .ok (.istore_n 3, 1) := by decide +kernel
theorem dS_api_12 : decode prog_12_method_32_code 12 = .ok (.aload_n 0, 1) := by decide +kernel
theorem dS_api_13 : decode prog_12_method_32_code 13 = .ok (.iload_n 3, 1) := by decide +kernel
theorem dS_api_14 : decode prog_12_method_32_code 14 = .ok (.invokevirtual 100, 3) := by decide +kernel
theorem dS_api_17 : decode prog_12_method_32_code 17 = .ok (.aload_n 0, 1) := by decide +kernel
theorem dS_api_18 : decode prog_12_method_32_code 18 = .ok (.invokevirtual 83, 3) := by decide +kernel
theorem dS_api_21 : decode prog_12_method_32_code 21 = .ok (.ifCond .eq 16, 3) := by decide +kernel
theorem dS_api_24 : decode prog_12_method_32_code 24 = .ok (.iload_n 1, 1) := by decide +kernel
theorem dS_api_25 : decode prog_12_method_32_code 25 = .ok (.iload_n 3, 1) := by decide +kernel
theorem dS_api_26 : decode prog_12_method_32_code 26 = .ok (.aload_n 0, 1) := by decide +kernel
theorem dS_api_27 : decode prog_12_method_32_code 27 = .ok (.getfield 15, 3) := by decide +kernel
theorem dS_api_30 : decode prog_12_method_32_code 30 = .ok (.invokestatic 248, 3) := by decide +kernel
theorem dS_api_33 : decode prog_12_method_32_code 33 = .ok (.pop, 1) := by decide +kernel
theorem dS_api_34 : decode prog_12_method_32_code 34 = .ok (.goto 14, 3) := by decide +kernel
theorem dS_api_37 : decode prog_12_method_32_code 37 = .ok (.iload_n 1, 1) := by decide +kernel
theorem dS_api_38 : decode prog_12_method_32_code 38 = .ok (.iload_n 2, 1) := by decide +kernel
theorem dS_api_39 : decode prog_12_method_32_code 39 = .ok (.iload_n 3, 1) := by decide +kernel
theorem dS_api_40 : decode prog_12_method_32_code 40 = .ok (.aload_n 0, 1) := by decide +kernel
theorem dS_api_41 : decode prog_12_method_32_code 41 = .ok (.getfield 15, 3) := by decide +kernel
theorem dS_api_44 : decode prog_12_method_32_code 44 = .ok (.invokestatic 251, 3) := by decide +kernel
theorem dS_api_47 : decode prog_12_method_32_code 47 = .ok (.pop, 1) := by decide +kernel
theorem dS_api_48 : decode prog_12_method_32_code 48 = .ok (.aload_n 0, 1) := by decide +kernel
theorem dS_api_49 : decode prog_12_method_32_code 49 = .ok (.iload_n 3, 1) := by decide +kernel
theorem dS_api_50 : decode prog_12_method_32_code 50 = .ok (.putfield 79, 3) := by decide +kernel
theorem dS_api_53 : decode prog_12_method_32_code 53 = .ok (.aload_n 0, 1) := by decide +kernel
theorem dS_api_54 : decode prog_12_method_32_code 54 = .ok (.areturn, 1) := by decide +kernel
theorem dS_sle_0 : decode prog_12_method_13_code 0 = .ok (.iload_n 1, 1) := by decide +kernel
theorem dS_sle_1 : decode prog_12_method_13_code 1 = .ok (.ifCond .ge 12, 3) := by decide +kernel
theorem dS_sle_4 : decode prog_12_method_13_code 4 = .ok (.new 129, 3) := by decide +kernel
theorem dS_sle_7 : decode prog_12_method_13_code 7 = .ok (.dup, 1) := by decide +kernel
theorem dS_sle_8 : decode prog_12_method_13_code 8 = .ok (.iload_n 1, 1) := by decide +kernel
theorem dS_sle_9 : decode prog_12_method_13_code 9 = .ok (.invokespecial 131, 3) := by decide +kernel
theorem dS_sle_12 : decode prog_12_method_13_code 12 = .ok (.athrow, 1) := by decide +kernel
theorem dS_sle_13 : decode prog_12_method_13_code 13 = .ok (.aload_n 0, 1) := by decide +kernel
theorem dS_sle_14 : decode prog_12_method_13_code 14 = .ok (.iload_n 1, 1) := by decide +kernel
theorem dS_sle_15 : decode prog_12_method_13_code 15 = .ok (.invokevirtual 100, 3) := by decide +kernel
theorem dS_sle_18 : decode prog_12_method_13_code 18 = .ok (.aload_n 0, 1) := by decide +kernel
theorem dS_sle_19 : decode prog_12_method_13_code 19 = .ok (.getfield 79, 3) := by decide +kernel
theorem dS_sle_22 : decode prog_12_method_13_code 22 = .ok (.iload_n 1, 1) := by decide +kernel
theorem dS_sle_23 : decode prog_12_method_13_code 23 = .ok (.if_icmp .ge 40, 3) := by decide +kernel
theorem dS_sle_26 : decode prog_12_method_13_code 26 = .ok (.aload_n 0, 1) := by decide +kernel
theorem dS_sle_27 : decode prog_12_method_13_code 27 = .ok (.invokevirtual 83, 3) := by decide +kernel
theorem dS_sle_30 : decode prog_12_method_13_code 30 = .ok (.ifCond .eq 18, 3) := by decide +kernel
theorem dS_sle_33 : decode prog_12_method_13_code 33 = .ok (.aload_n 0, 1) := by decide +kernel
theorem dS_sle_34 : decode prog_12_method_13_code 34 = .ok (.getfield 15, 3) := by decide +kernel
theorem dS_sle_37 : decode prog_12_method_13_code 37 = .ok (.aload_n 0, 1) := by decide +kernel
theorem dS_sle_38 : decode prog_12_method_13_code 38 = .ok (.getfield 79, 3) := by decide +kernel
theorem dS_sle_41 : decode prog_12_method_13_code 41 = .ok (.iload_n 1, 1) := by decide +kernel
theorem dS_sle_42 : decode prog_12_method_13_code 42 = .ok (.invokestatic 133, 3) := by decide +kernel
theorem dS_sle_45 : decode prog_12_method_13_code 45 = .ok (.goto 31, 3) := by decide +kernel
theorem dS_sle_48 : decode prog_12_method_13_code 48 = .ok (.aload_n 0, 1) := by decide +kernel
theorem dS_sle_49 : decode prog_12_method_13_code 49 = .ok (.getfield 15, 3) := by decide +kernel
theorem dS_sle_52 : decode prog_12_method_13_code 52 = .ok (.aload_n 0, 1) := by decide +kernel
theorem dS_sle_53 : decode prog_12_method_13_code 53 = .ok (.getfield 79, 3) := by decide +kernel
theorem dS_sle_56 : decode prog_12_method_13_code 56 = .ok (.iload_n 1, 1) := by decide +kernel
theorem dS_sle_57 : decode prog_12_method_13_code 57 = .ok (.invokestatic 137, 3) := by decide +kernel
theorem dS_sle_60 : decode prog_12_method_13_code 60 = .ok (.goto 16, 3) := by decide +kernel
theorem dS_sle_63 : decode prog_12_method_13_code 63 = .ok (.aload_n 0, 1) := by decide +kernel
theorem dS_sle_64 : decode prog_12_method_13_code 64 = .ok (.getfield 79, 3) := by decide +kernel
theorem dS_sle_67 : decode prog_12_method_13_code 67 = .ok (.iload_n 1, 1) := by decide +kernel
theorem dS_sle_68 : decode prog_12_method_13_code 68 = .ok (.if_icmp .le 8, 3) := by decide +kernel
theorem dS_sle_71 : decode prog_12_method_13_code 71 = .ok (.aload_n 0, 1) := by decide +kernel
theorem dS_sle_72 : decode prog_12_method_13_code 72 = .ok (.iconst 1, 1) := by decide +kernel
theorem dS_sle_73 : decode prog_12_method_13_code 73 = .ok (.putfield 73, 3) := by decide +kernel
theorem dS_sle_76 : decode prog_12_method_13_code 76 = .ok (.aload_n 0, 1) := by decide +kernel
theorem dS_sle_77 : decode prog_12_method_13_code 77 = .ok (.iload_n 1, 1) := by decide +kernel
theorem dS_sle_78 : decode prog_12_method_13_code 78 = .ok (.putfield 79, 3) := by decide +kernel
theorem dS_sle_81 : decode prog_12_method_13_code 81 = .ok (.return_, 1) := by decide +kernel
theorem dS_len_0 : decode prog_12_method_6_code 0 = .ok (.aload_n 0, 1) := by decide +kernel
theorem dS_len_1 : decode prog_12_method_6_code 1 = .ok (.getfield 79, 3) := by decide +kernel
theorem dS_len_4 : decode prog_12_method_6_code 4 = .ok (.ireturn, 1) := by decide +kernel
theorem dS_cha_0 : decode prog_12_method_14_code 0 = .ok (.aload_n 0, 1) := by decide +kernel
theorem dS_cha_1 : decode prog_12_method_14_code 1 = .ok (.getfield 22, 3) := by decide +kernel
theorem dS_cha_4 : decode prog_12_method_14_code 4 = .ok (.istore_n 2, 1) := by decide +kernel
theorem dS_cha_5 : decode prog_12_method_14_code 5 = .ok (.aload_n 0, 1) := by decide +kernel
theorem dS_cha_6 : decode prog_12_method_14_code 6 = .ok (.getfield 15, 3) := by decide +kernel
theorem dS_cha_9 : decode prog_12_method_14_code 9 = .ok (.astore_n 3, 1) := by decide +kernel
theorem dS_cha_10 : decode prog_12_method_14_code 10 = .ok (.aload_n 0, 1) := by decide +kernel
theorem dS_cha_11 : decode prog_12_method_14_code 11 = .ok (.getfield 79, 3) := by decide +kernel
theorem dS_cha_14 : decode prog_12_method_14_code 14 = .ok (.aload_n 3, 1) := by decide +kernel
theorem dS_cha_15 : decode prog_12_method_14_code 15 = .ok (.arraylength, 1) := by decide +kernel
theorem dS_cha_16 : decode prog_12_method_14_code 16 = .ok (.iload_n 2, 1) := by decide +kernel
theorem dS_cha_17 : decode prog_12_method_14_code 17 = .ok (.ishr, 1) := by decide +kernel
theorem dS_cha_18 : decode prog_12_method_14_code 18 = .ok (.invokestatic 138, 3) := by decide +kernel
theorem dS_cha_21 : decode prog_12_method_14_code 21 = .ok (.istore 4, 2) := by decide +kernel
theorem dS_cha_23 : decode prog_12_method_14_code 23 = .ok (.iload_n 1, 1) := by decide +kernel
theorem dS_cha_24 : decode prog_12_method_14_code 24 = .ok (.iload 4, 2) := by decide +kernel
theorem dS_cha_26 : decode prog_12_method_14_code 26 = .ok (.invokestatic 144, 3) := by decide +kernel
theorem dS_cha_29 : decode prog_12_method_14_code 29 = .ok (.iload_n 2, 1) := by decide +kernel
theorem dS_cha_30 : decode prog_12_method_14_code 30 = .ok (.ifCond .ne 12, 3) := by decide +kernel
theorem dS_cha_33 : decode prog_12_method_14_code 33 = .ok (.aload_n 3, 1) := by decide +kernel
theorem dS_cha_34 : decode prog_12_method_14_code 34 = .ok (.iload_n 1, 1) := by decide +kernel
theorem dS_cha_35 : decode prog_12_method_14_code 35 = .ok (.baload, 1) := by decide +kernel
theorem dS_cha_36 : decode prog_12_method_14_code 36 = .ok (.sipush 255, 3) := by decide +kernel
theorem dS_cha_39 : decode prog_12_method_14_code 39 = .ok (.iand, 1) := by decide +kernel
theorem dS_cha_40 : decode prog_12_method_14_code 40 = .ok (.i2c, 1) := by decide +kernel
theorem dS_cha_41 : decode prog_12_method_14_code 41 = .ok (.ireturn, 1) := by decide +kernel
theorem dS_cha_42 : decode prog_12_method_14_code 42 = .ok (.aload_n 3, 1) := by decide +kernel
theorem dS_cha_43 : decode prog_12_method_14_code 43 = .ok (.iload_n 1, 1) := by decide +kernel
theorem dS_cha_44 : decode prog_12_method_14_code 44 = .ok (.invokestatic 148, 3) := by decide +kernel
theorem dS_cha_47 : decode prog_12_method_14_code 47 = .ok (.ireturn, 1) := by decide +kernel
theorem dS_bpc_0 : decode prog_28_method_14_code 0 = .ok (.aload_n 0, 1) := by decide +kernel
theorem dS_bpc_1 : decode prog_28_method_14_code 1 = .ok (.iload_n 1, 1) := by decide +kernel
theorem dS_bpc_2 : decode prog_28_method_14_code 2 = .ok (.invokespecial 50, 3) := by decide +kernel
theorem dS_bpc_5 : decode prog_28_method_14_code 5 = .ok (.pop, 1) := by decide +kernel
theorem dS_bpc_6 : decode prog_28_method_14_code 6 = .ok (.aload_n 0, 1) := by decide +kernel
theorem dS_bpc_7 : decode prog_28_method_14_code 7 = .ok (.areturn, 1) := by decide +kernel
theorem dS_bpi_0 : decode prog_28_method_15_code 0 = .ok (.aload_n 0, 1) := by decide +kernel
theorem dS_bpi_1 : decode prog_28_method_15_code 1 = .ok (.iload_n 1, 1) := by decide +kernel
theorem dS_bpi_2 : decode prog_28_method_15_code 2 = .ok (.invokespecial 53, 3) := by decide +kernel
theorem dS_bpi_5 : decode prog_28_method_15_code 5 = .ok (.pop, 1) := by decide +kernel
theorem dS_bpi_6 : decode prog_28_method_15_code 6 = .ok (.aload_n 0, 1) := by decide +kernel
theorem dS_bpi_7 : decode prog_28_method_15_code 7 = .ok (.areturn, 1) := by decide +kernel
theorem dS_bsl_0 : decode prog_28_method_89_code 0 = .ok (.aload_n 0, 1) := by decide +kernel
theorem dS_bsl_1 : decode prog_28_method_89_code 1 = .ok (.iload_n 1, 1) := by decide +kernel
theorem dS_bsl_2 : decode prog_28_method_89_code 2 = .ok (.invokespecial 333, 3) := by decide +kernel
theorem dS_bsl_5 : decode prog_28_method_89_code 5 = .ok (.return_, 1) := by decide +kernel
theorem dS_ble_0 : decode prog_28_method_93_code 0 = .ok (.aload_n 0, 1) := by decide +kernel
theorem dS_ble_1 : decode prog_28_method_93_code 1 = .ok (.invokespecial 343, 3) := by decide +kernel
theorem dS_ble_4 : decode prog_28_method_93_code 4 = .ok (.ireturn, 1) := by decide +kernel
theorem dS_bch_0 : decode prog_28_method_88_code 0 = .ok (.aload_n 0, 1) := by decide +kernel
theorem dS_bch_1 : decode prog_28_method_88_code 1 = .ok (.iload_n 1, 1) := by decide +kernel
theorem dS_bch_2 : decode prog_28_method_88_code 2 = .ok (.invokespecial 329, 3) := by decide +kernel
theorem dS_bch_5 : decode prog_28_method_88_code 5 = .ok (.ireturn, 1) := by decide +kernel
theorem dS_ini_0 : decode prog_12_method_2_code 0 = .ok (.aload_n 0, 1) := by decide +kernel
theorem dS_ini_1 : decode prog_12_method_2_code 1 = .ok (.invokespecial 3, 3) := by decide +kernel
theorem dS_ini_4 : decode prog_12_method_2_code 4 = .ok (.getstatic 18, 3) := by decide +kernel
theorem dS_ini_7 : decode prog_12_method_2_code 7 = .ok (.ifCond .eq 18, 3) := by decide +kernel
theorem dS_ini_10 : decode prog_12_method_2_code 10 = .ok (.aload_n 0, 1) := by decide +kernel
theorem dS_ini_11 : decode prog_12_method_2_code 11 = .ok (.iload_n 1, 1) := by decide +kernel
theorem dS_ini_12 : decode prog_12_method_2_code 12 = .ok (.newarray .byte, 2) := by decide +kernel
theorem dS_ini_14 : decode prog_12_method_2_code 14 = .ok (.putfield 15, 3) := by decide +kernel
theorem dS_ini_17 : decode prog_12_method_2_code 17 = .ok (.aload_n 0, 1) := by decide +kernel
theorem dS_ini_18 : decode prog_12_method_2_code 18 = .ok (.iconst 0, 1) := by decide +kernel
theorem dS_ini_19 : decode prog_12_method_2_code 19 = .ok (.putfield 22, 3) := by decide +kernel
theorem dS_ini_22 : decode prog_12_method_2_code 22 = .ok (.goto 16, 3) := by decide +kernel
theorem dS_ini_25 : decode prog_12_method_2_code 25 = .ok (.aload_n 0, 1) := by decide +kernel
theorem dS_ini_26 : decode prog_12_method_2_code 26 = .ok (.iload_n 1, 1) := by decide +kernel
theorem dS_ini_27 : decode prog_12_method_2_code 27 = .ok (.invokestatic 26, 3) := by decide +kernel
theorem dS_ini_30 : decode prog_12_method_2_code 30 = .ok (.putfield 15, 3) := by decide +kernel
theorem dS_ini_33 : decode prog_12_method_2_code 33 = .ok (.aload_n 0, 1) := by decide +kernel
theorem dS_ini_34 : decode prog_12_method_2_code 34 = .ok (.iconst 1, 1) := by decide +kernel
theorem dS_ini_35 : decode prog_12_method_2_code 35 = .ok (.putfield 22, 3) := by decide +kernel
theorem dS_ini_38 : decode prog_12_method_2_code 38 = .ok (.return_, 1) := by decide +kernel
theorem dS_bin_0 : decode prog_28_method_1_code 0 = .ok (.aload_n 0, 1) := by decide +kernel
theorem dS_bin_1 : decode prog_28_method_1_code 1 = .ok (.bipush 16, 2) := by decide +kernel
theorem dS_bin_3 : decode prog_28_method_1_code 3 = .ok (.invokespecial 1, 3) := by decide +kernel
theorem dS_bin_6 : decode prog_28_method_1_code 6 = .ok (.return_, 1) := by decide +kernel
