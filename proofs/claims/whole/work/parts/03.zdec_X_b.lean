theorem dX6_init_0 : decode cX6_init 0 = .ok (.aload_n 0, 1) := by decide +kernel
theorem dX6_init_1 : decode cX6_init 1 = .ok (.invokespecial 3, 3) := by decide +kernel
theorem dX6_init_4 : decode cX6_init 4 = .ok (.aload_n 0, 1) := by decide +kernel
theorem dX6_init_5 : decode cX6_init 5 = .ok (.new 9, 3) := by decide +kernel
theorem dX6_init_8 : decode cX6_init 8 = .ok (.dup, 1) := by decide +kernel
theorem dX6_init_9 : decode cX6_init 9 = .ok (.invokespecial 11, 3) := by decide +kernel
theorem dX6_init_12 : decode cX6_init 12 = .ok (.putfield 12, 3) := by decide +kernel
theorem dX6_init_15 : decode cX6_init 15 = .ok (.aload_n 0, 1) := by decide +kernel
theorem dX6_init_16 : decode cX6_init 16 = .ok (.bipush 10, 2) := by decide +kernel
theorem dX6_init_18 : decode cX6_init 18 = .ok (.newarray .int, 2) := by decide +kernel
theorem dX6_init_20 : decode cX6_init 20 = .ok (.putfield 18, 3) := by decide +kernel
theorem dX6_init_23 : decode cX6_init 23 = .ok (.aload_n 0, 1) := by decide +kernel
theorem dX6_init_24 : decode cX6_init 24 = .ok (.bipush 10, 2) := by decide +kernel
theorem dX6_init_26 : decode cX6_init 26 = .ok (.newarray .int, 2) := by decide +kernel
theorem dX6_init_28 : decode cX6_init 28 = .ok (.putfield 22, 3) := by decide +kernel
theorem dX6_init_31 : decode cX6_init 31 = .ok (.aload_n 0, 1) := by decide +kernel
theorem dX6_init_32 : decode cX6_init 32 = .ok (.bipush 10, 2) := by decide +kernel
theorem dX6_init_34 : decode cX6_init 34 = .ok (.newarray .int, 2) := by decide +kernel
theorem dX6_init_36 : decode cX6_init 36 = .ok (.putfield 25, 3) := by decide +kernel
theorem dX6_init_39 : decode cX6_init 39 = .ok (.aload_n 0, 1) := by decide +kernel
theorem dX6_init_40 : decode cX6_init 40 = .ok (.iconst 5, 1) := by decide +kernel
theorem dX6_init_41 : decode cX6_init 41 = .ok (.anewarray 28, 3) := by decide +kernel
theorem dX6_init_44 : decode cX6_init 44 = .ok (.putfield 30, 3) := by decide +kernel
theorem dX6_init_47 : decode cX6_init 47 = .ok (.iconst 0, 1) := by decide +kernel
theorem dX6_init_48 : decode cX6_init 48 = .ok (.istore_n 1, 1) := by decide +kernel
theorem dX6_init_49 : decode cX6_init 49 = .ok (.iload_n 1, 1) := by decide +kernel
theorem dX6_init_50 : decode cX6_init 50 = .ok (.iconst 5, 1) := by decide +kernel
theorem dX6_init_51 : decode cX6_init 51 = .ok (.if_icmp .ge 22, 3) := by decide +kernel
theorem dX6_init_54 : decode cX6_init 54 = .ok (.aload_n 0, 1) := by decide +kernel
theorem dX6_init_55 : decode cX6_init 55 = .ok (.getfield 30, 3) := by decide +kernel
theorem dX6_init_58 : decode cX6_init 58 = .ok (.iload_n 1, 1) := by decide +kernel
theorem dX6_init_59 : decode cX6_init 59 = .ok (.new 28, 3) := by decide +kernel
theorem dX6_init_62 : decode cX6_init 62 = .ok (.dup, 1) := by decide +kernel
theorem dX6_init_63 : decode cX6_init 63 = .ok (.invokespecial 34, 3) := by decide +kernel
theorem dX6_init_66 : decode cX6_init 66 = .ok (.aastore, 1) := by decide +kernel
theorem dX6_init_67 : decode cX6_init 67 = .ok (.iinc 1 1, 3) := by decide +kernel
theorem dX6_init_70 : decode cX6_init 70 = .ok (.goto (-21), 3) := by decide +kernel
theorem dX6_init_73 : decode cX6_init 73 = .ok (.return_, 1) := by decide +kernel
theorem dX6_hasSubscriber_0 : decode cX6_hasSubscriber 0 = .ok (.iload_n 1, 1) := by decide +kernel
theorem dX6_hasSubscriber_1 : decode cX6_hasSubscriber 1 = .ok (.ifCond .lt 15, 3) := by decide +kernel
theorem dX6_hasSubscriber_4 : decode cX6_hasSubscriber 4 = .ok (.iload_n 1, 1) := by decide +kernel
theorem dX6_hasSubscriber_5 : decode cX6_hasSubscriber 5 = .ok (.aload_n 0, 1) := by decide +kernel
theorem dX6_hasSubscriber_6 : decode cX6_hasSubscriber 6 = .ok (.getfield 35, 3) := by decide +kernel
theorem dX6_hasSubscriber_9 : decode cX6_hasSubscriber 9 = .ok (.if_icmp .ge 7, 3) := by decide +kernel
theorem dX6_hasSubscriber_12 : decode cX6_hasSubscriber 12 = .ok (.iconst 1, 1) := by decide +kernel
theorem dX6_hasSubscriber_13 : decode cX6_hasSubscriber 13 = .ok (.goto 4, 3) := by decide +kernel
theorem dX6_hasSubscriber_16 : decode cX6_hasSubscriber 16 = .ok (.iconst 0, 1) := by decide +kernel
theorem dX6_hasSubscriber_17 : decode cX6_hasSubscriber 17 = .ok (.ireturn, 1) := by decide +kernel
theorem dX6_homeOf_0 : decode cX6_homeOf 0 = .ok (.aload_n 0, 1) := by decide +kernel
theorem dX6_homeOf_1 : decode cX6_homeOf 1 = .ok (.iload_n 1, 1) := by decide +kernel
theorem dX6_homeOf_2 : decode cX6_homeOf 2 = .ok (.invokevirtual 39, 3) := by decide +kernel
theorem dX6_homeOf_5 : decode cX6_homeOf 5 = .ok (.ifCond .eq 12, 3) := by decide +kernel
theorem dX6_homeOf_8 : decode cX6_homeOf 8 = .ok (.aload_n 0, 1) := by decide +kernel
theorem dX6_homeOf_9 : decode cX6_homeOf 9 = .ok (.getfield 18, 3) := by decide +kernel
theorem dX6_homeOf_12 : decode cX6_homeOf 12 = .ok (.iload_n 1, 1) := by decide +kernel
theorem dX6_homeOf_13 : decode cX6_homeOf 13 = .ok (.iaload, 1) := by decide +kernel
theorem dX6_homeOf_14 : decode cX6_homeOf 14 = .ok (.goto 4, 3) := by decide +kernel
theorem dX6_homeOf_17 : decode cX6_homeOf 17 = .ok (.iconst (-1), 1) := by decide +kernel
theorem dX6_homeOf_18 : decode cX6_homeOf 18 = .ok (.ireturn, 1) := by decide +kernel
theorem dX6_subscriberProblem_0 : decode cX6_subscriberProblem 0 = .ok (.aload_n 0, 1) := by decide +kernel
theorem dX6_subscriberProblem_1 : decode cX6_subscriberProblem 1 = .ok (.getfield 12, 3) := by decide +kernel
theorem dX6_subscriberProblem_4 : decode cX6_subscriberProblem 4 = .ok (.iload_n 1, 1) := by decide +kernel
theorem dX6_subscriberProblem_5 : decode cX6_subscriberProblem 5 = .ok (.invokevirtual 43, 3) := by decide +kernel
theorem dX6_subscriberProblem_8 : decode cX6_subscriberProblem 8 = .ok (.ifCond .ne 5, 3) := by decide +kernel
theorem dX6_subscriberProblem_11 : decode cX6_subscriberProblem 11 = .ok (.iconst 1, 1) := by decide +kernel
theorem dX6_subscriberProblem_12 : decode cX6_subscriberProblem 12 = .ok (.ireturn, 1) := by decide +kernel
theorem dX6_subscriberProblem_13 : decode cX6_subscriberProblem 13 = .ok (.iload_n 2, 1) := by decide +kernel
theorem dX6_subscriberProblem_14 : decode cX6_subscriberProblem 14 = .ok (.ifCond .lt 8, 3) := by decide +kernel
theorem dX6_subscriberProblem_17 : decode cX6_subscriberProblem 17 = .ok (.iload_n 2, 1) := by decide +kernel
theorem dX6_subscriberProblem_18 : decode cX6_subscriberProblem 18 = .ok (.iconst 2, 1) := by decide +kernel
theorem dX6_subscriberProblem_19 : decode cX6_subscriberProblem 19 = .ok (.if_icmp .le 5, 3) := by decide +kernel
theorem dX6_subscriberProblem_22 : decode cX6_subscriberProblem 22 = .ok (.iconst 2, 1) := by decide +kernel
theorem dX6_subscriberProblem_23 : decode cX6_subscriberProblem 23 = .ok (.ireturn, 1) := by decide +kernel
theorem dX6_subscriberProblem_24 : decode cX6_subscriberProblem 24 = .ok (.aload_n 0, 1) := by decide +kernel
theorem dX6_subscriberProblem_25 : decode cX6_subscriberProblem 25 = .ok (.getfield 35, 3) := by decide +kernel
theorem dX6_subscriberProblem_28 : decode cX6_subscriberProblem 28 = .ok (.bipush 10, 2) := by decide +kernel
theorem dX6_subscriberProblem_30 : decode cX6_subscriberProblem 30 = .ok (.if_icmp .ge 7, 3) := by decide +kernel
theorem dX6_subscriberProblem_33 : decode cX6_subscriberProblem 33 = .ok (.iconst 0, 1) := by decide +kernel
theorem dX6_subscriberProblem_34 : decode cX6_subscriberProblem 34 = .ok (.goto 4, 3) := by decide +kernel
theorem dX6_subscriberProblem_37 : decode cX6_subscriberProblem 37 = .ok (.iconst 3, 1) := by decide +kernel
theorem dX6_subscriberProblem_38 : decode cX6_subscriberProblem 38 = .ok (.ireturn, 1) := by decide +kernel
theorem dX6_hangUpProblem_0 : decode cX6_hangUpProblem 0 = .ok (.aload_n 0, 1) := by decide +kernel
theorem dX6_hangUpProblem_1 : decode cX6_hangUpProblem 1 = .ok (.iload_n 1, 1) := by decide +kernel
theorem dX6_hangUpProblem_2 : decode cX6_hangUpProblem 2 = .ok (.invokevirtual 39, 3) := by decide +kernel
theorem dX6_hangUpProblem_5 : decode cX6_hangUpProblem 5 = .ok (.ifCond .ne 5, 3) := by decide +kernel
theorem dX6_hangUpProblem_8 : decode cX6_hangUpProblem 8 = .ok (.iconst 1, 1) := by decide +kernel
theorem dX6_hangUpProblem_9 : decode cX6_hangUpProblem 9 = .ok (.ireturn, 1) := by decide +kernel
theorem dX6_hangUpProblem_10 : decode cX6_hangUpProblem 10 = .ok (.aload_n 0, 1) := by decide +kernel
theorem dX6_hangUpProblem_11 : decode cX6_hangUpProblem 11 = .ok (.iload_n 1, 1) := by decide +kernel
theorem dX6_hangUpProblem_12 : decode cX6_hangUpProblem 12 = .ok (.invokevirtual 46, 3) := by decide +kernel
theorem dX6_hangUpProblem_15 : decode cX6_hangUpProblem 15 = .ok (.iconst (-1), 1) := by decide +kernel
theorem dX6_hangUpProblem_16 : decode cX6_hangUpProblem 16 = .ok (.if_icmp .eq 7, 3) := by decide +kernel
theorem dX6_hangUpProblem_19 : decode cX6_hangUpProblem 19 = .ok (.iconst 0, 1) := by decide +kernel
theorem dX6_hangUpProblem_20 : decode cX6_hangUpProblem 20 = .ok (.goto 4, 3) := by decide +kernel
theorem dX6_hangUpProblem_23 : decode cX6_hangUpProblem 23 = .ok (.iconst 3, 1) := by decide +kernel
theorem dX6_hangUpProblem_24 : decode cX6_hangUpProblem 24 = .ok (.ireturn, 1) := by decide +kernel
theorem dX6_attachSubscriber_0 : decode cX6_attachSubscriber 0 = .ok (.aload_n 0, 1) := by decide +kernel
theorem dX6_attachSubscriber_1 : decode cX6_attachSubscriber 1 = .ok (.getfield 35, 3) := by decide +kernel
theorem dX6_attachSubscriber_4 : decode cX6_attachSubscriber 4 = .ok (.istore_n 3, 1) := by decide +kernel
theorem dX6_attachSubscriber_5 : decode cX6_attachSubscriber 5 = .ok (.iload_n 3, 1) := by decide +kernel
theorem dX6_attachSubscriber_6 : decode cX6_attachSubscriber 6 = .ok (.bipush 10, 2) := by decide +kernel
theorem dX6_attachSubscriber_8 : decode cX6_attachSubscriber 8 = .ok (.if_icmp .lt 5, 3) := by decide +kernel
theorem dX6_attachSubscriber_11 : decode cX6_attachSubscriber 11 = .ok (.iconst (-1), 1) := by decide +kernel
theorem dX6_attachSubscriber_12 : decode cX6_attachSubscriber 12 = .ok (.ireturn, 1) := by decide +kernel
theorem dX6_attachSubscriber_13 : decode cX6_attachSubscriber 13 = .ok (.aload_n 0, 1) := by decide +kernel
theorem dX6_attachSubscriber_14 : decode cX6_attachSubscriber 14 = .ok (.getfield 18, 3) := by decide +kernel
theorem dX6_attachSubscriber_17 : decode cX6_attachSubscriber 17 = .ok (.iload_n 3, 1) := by decide +kernel
theorem dX6_attachSubscriber_18 : decode cX6_attachSubscriber 18 = .ok (.iload_n 1, 1) := by decide +kernel
theorem dX6_attachSubscriber_19 : decode cX6_attachSubscriber 19 = .ok (.iastore, 1) := by decide +kernel
theorem dX6_attachSubscriber_20 : decode cX6_attachSubscriber 20 = .ok (.aload_n 0, 1) := by decide +kernel
theorem dX6_attachSubscriber_21 : decode cX6_attachSubscriber 21 = .ok (.getfield 22, 3) := by decide +kernel
theorem dX6_attachSubscriber_24 : decode cX6_attachSubscriber 24 = .ok (.iload_n 3, 1) := by decide +kernel
theorem dX6_attachSubscriber_25 : decode cX6_attachSubscriber 25 = .ok (.iload_n 2, 1) := by decide +kernel
theorem dX6_attachSubscriber_26 : decode cX6_attachSubscriber 26 = .ok (.iastore, 1) := by decide +kernel
theorem dX6_attachSubscriber_27 : decode cX6_attachSubscriber 27 = .ok (.aload_n 0, 1) := by decide +kernel
theorem dX6_attachSubscriber_28 : decode cX6_attachSubscriber 28 = .ok (.dup, 1) := by decide +kernel
theorem dX6_attachSubscriber_29 : decode cX6_attachSubscriber 29 = .ok (.getfield 35, 3) := by decide +kernel
theorem dX6_attachSubscriber_32 : decode cX6_attachSubscriber 32 = .ok (.iconst 1, 1) := by decide +kernel
theorem dX6_attachSubscriber_33 : decode cX6_attachSubscriber 33 = .ok (.iadd, 1) := by decide +kernel
theorem dX6_attachSubscriber_34 : decode cX6_attachSubscriber 34 = .ok (.putfield 35, 3) := by decide +kernel
theorem dX6_attachSubscriber_37 : decode cX6_attachSubscriber 37 = .ok (.iload_n 3, 1) := by decide +kernel
theorem dX6_attachSubscriber_38 : decode cX6_attachSubscriber 38 = .ok (.ireturn, 1) := by decide +kernel
theorem dX6_callIndexOf_0 : decode cX6_callIndexOf 0 = .ok (.iconst 0, 1) := by decide +kernel
theorem dX6_callIndexOf_1 : decode cX6_callIndexOf 1 = .ok (.istore_n 2, 1) := by decide +kernel
theorem dX6_callIndexOf_2 : decode cX6_callIndexOf 2 = .ok (.iload_n 2, 1) := by decide +kernel
theorem dX6_callIndexOf_3 : decode cX6_callIndexOf 3 = .ok (.aload_n 0, 1) := by decide +kernel
theorem dX6_callIndexOf_4 : decode cX6_callIndexOf 4 = .ok (.getfield 50, 3) := by decide +kernel
theorem dX6_callIndexOf_7 : decode cX6_callIndexOf 7 = .ok (.if_icmp .ge 24, 3) := by decide +kernel
theorem dX6_callIndexOf_10 : decode cX6_callIndexOf 10 = .ok (.aload_n 0, 1) := by decide +kernel
theorem dX6_callIndexOf_11 : decode cX6_callIndexOf 11 = .ok (.getfield 30, 3) := by decide +kernel
theorem dX6_callIndexOf_14 : decode cX6_callIndexOf 14 = .ok (.iload_n 2, 1) := by decide +kernel
theorem dX6_callIndexOf_15 : decode cX6_callIndexOf 15 = .ok (.aaload, 1) := by decide +kernel
theorem dX6_callIndexOf_16 : decode cX6_callIndexOf 16 = .ok (.iload_n 1, 1) := by decide +kernel
theorem dX6_callIndexOf_17 : decode cX6_callIndexOf 17 = .ok (.invokevirtual 53, 3) := by decide +kernel
theorem dX6_callIndexOf_20 : decode cX6_callIndexOf 20 = .ok (.ifCond .eq 5, 3) := by decide +kernel
theorem dX6_callIndexOf_23 : decode cX6_callIndexOf 23 = .ok (.iload_n 2, 1) := by decide +kernel
theorem dX6_callIndexOf_24 : decode cX6_callIndexOf 24 = .ok (.ireturn, 1) := by decide +kernel
theorem dX6_callIndexOf_25 : decode cX6_callIndexOf 25 = .ok (.iinc 2 1, 3) := by decide +kernel
theorem dX6_callIndexOf_28 : decode cX6_callIndexOf 28 = .ok (.goto (-26), 3) := by decide +kernel
theorem dX6_callIndexOf_31 : decode cX6_callIndexOf 31 = .ok (.iconst (-1), 1) := by decide +kernel
theorem dX6_callIndexOf_32 : decode cX6_callIndexOf 32 = .ok (.ireturn, 1) := by decide +kernel
theorem dX6_userIndexOf_0 : decode cX6_userIndexOf 0 = .ok (.iconst 0, 1) := by decide +kernel
theorem dX6_userIndexOf_1 : decode cX6_userIndexOf 1 = .ok (.istore_n 2, 1) := by decide +kernel
theorem dX6_userIndexOf_2 : decode cX6_userIndexOf 2 = .ok (.iload_n 2, 1) := by decide +kernel
theorem dX6_userIndexOf_3 : decode cX6_userIndexOf 3 = .ok (.aload_n 0, 1) := by decide +kernel
theorem dX6_userIndexOf_4 : decode cX6_userIndexOf 4 = .ok (.getfield 50, 3) := by decide +kernel
theorem dX6_userIndexOf_7 : decode cX6_userIndexOf 7 = .ok (.if_icmp .ge 27, 3) := by decide +kernel
theorem dX6_userIndexOf_10 : decode cX6_userIndexOf 10 = .ok (.aload_n 0, 1) := by decide +kernel
theorem dX6_userIndexOf_11 : decode cX6_userIndexOf 11 = .ok (.getfield 30, 3) := by decide +kernel
theorem dX6_userIndexOf_14 : decode cX6_userIndexOf 14 = .ok (.iload_n 2, 1) := by decide +kernel
theorem dX6_userIndexOf_15 : decode cX6_userIndexOf 15 = .ok (.aaload, 1) := by decide +kernel
theorem dX6_userIndexOf_16 : decode cX6_userIndexOf 16 = .ok (.invokevirtual 56, 3) := by decide +kernel
theorem dX6_userIndexOf_19 : decode cX6_userIndexOf 19 = .ok (.iload_n 1, 1) := by decide +kernel
theorem dX6_userIndexOf_20 : decode cX6_userIndexOf 20 = .ok (.invokestatic 60, 3) := by decide +kernel
theorem dX6_userIndexOf_23 : decode cX6_userIndexOf 23 = .ok (.ifCond .eq 5, 3) := by decide +kernel
theorem dX6_userIndexOf_26 : decode cX6_userIndexOf 26 = .ok (.iload_n 2, 1) := by decide +kernel
theorem dX6_userIndexOf_27 : decode cX6_userIndexOf 27 = .ok (.ireturn, 1) := by decide +kernel
theorem dX6_userIndexOf_28 : decode cX6_userIndexOf 28 = .ok (.iinc 2 1, 3) := by decide +kernel
theorem dX6_userIndexOf_31 : decode cX6_userIndexOf 31 = .ok (.goto (-29), 3) := by decide +kernel
theorem dX6_userIndexOf_34 : decode cX6_userIndexOf 34 = .ok (.iconst (-1), 1) := by decide +kernel
theorem dX6_userIndexOf_35 : decode cX6_userIndexOf 35 = .ok (.ireturn, 1) := by decide +kernel
theorem dX6_usedTrunks_0 : decode cX6_usedTrunks 0 = .ok (.iconst 0, 1) := by decide +kernel
theorem dX6_usedTrunks_1 : decode cX6_usedTrunks 1 = .ok (.istore_n 1, 1) := by decide +kernel
theorem dX6_usedTrunks_2 : decode cX6_usedTrunks 2 = .ok (.iconst 0, 1) := by decide +kernel
theorem dX6_usedTrunks_3 : decode cX6_usedTrunks 3 = .ok (.istore_n 2, 1) := by decide +kernel
theorem dX6_usedTrunks_4 : decode cX6_usedTrunks 4 = .ok (.iload_n 2, 1) := by decide +kernel
theorem dX6_usedTrunks_5 : decode cX6_usedTrunks 5 = .ok (.aload_n 0, 1) := by decide +kernel
theorem dX6_usedTrunks_6 : decode cX6_usedTrunks 6 = .ok (.getfield 50, 3) := by decide +kernel
theorem dX6_usedTrunks_9 : decode cX6_usedTrunks 9 = .ok (.if_icmp .ge 21, 3) := by decide +kernel
theorem dX6_usedTrunks_12 : decode cX6_usedTrunks 12 = .ok (.iload_n 1, 1) := by decide +kernel
theorem dX6_usedTrunks_13 : decode cX6_usedTrunks 13 = .ok (.aload_n 0, 1) := by decide +kernel
theorem dX6_usedTrunks_14 : decode cX6_usedTrunks 14 = .ok (.getfield 30, 3) := by decide +kernel
theorem dX6_usedTrunks_17 : decode cX6_usedTrunks 17 = .ok (.iload_n 2, 1) := by decide +kernel
theorem dX6_usedTrunks_18 : decode cX6_usedTrunks 18 = .ok (.aaload, 1) := by decide +kernel
theorem dX6_usedTrunks_19 : decode cX6_usedTrunks 19 = .ok (.invokevirtual 56, 3) := by decide +kernel
theorem dX6_usedTrunks_22 : decode cX6_usedTrunks 22 = .ok (.ior, 1) := by decide +kernel
theorem dX6_usedTrunks_23 : decode cX6_usedTrunks 23 = .ok (.istore_n 1, 1) := by decide +kernel
theorem dX6_usedTrunks_24 : decode cX6_usedTrunks 24 = .ok (.iinc 2 1, 3) := by decide +kernel
theorem dX6_usedTrunks_27 : decode cX6_usedTrunks 27 = .ok (.goto (-23), 3) := by decide +kernel
theorem dX6_usedTrunks_30 : decode cX6_usedTrunks 30 = .ok (.iload_n 1, 1) := by decide +kernel
theorem dX6_usedTrunks_31 : decode cX6_usedTrunks 31 = .ok (.ireturn, 1) := by decide +kernel
theorem dX6_freeTrunks_0 : decode cX6_freeTrunks 0 = .ok (.aload_n 0, 1) := by decide +kernel
theorem dX6_freeTrunks_1 : decode cX6_freeTrunks 1 = .ok (.getfield 12, 3) := by decide +kernel
theorem dX6_freeTrunks_4 : decode cX6_freeTrunks 4 = .ok (.invokevirtual 64, 3) := by decide +kernel
theorem dX6_freeTrunks_7 : decode cX6_freeTrunks 7 = .ok (.aload_n 0, 1) := by decide +kernel
theorem dX6_freeTrunks_8 : decode cX6_freeTrunks 8 = .ok (.getfield 12, 3) := by decide +kernel
theorem dX6_freeTrunks_11 : decode cX6_freeTrunks 11 = .ok (.getfield 67, 3) := by decide +kernel
theorem dX6_freeTrunks_14 : decode cX6_freeTrunks 14 = .ok (.iconst (-1), 1) := by decide +kernel
theorem dX6_freeTrunks_15 : decode cX6_freeTrunks 15 = .ok (.ixor, 1) := by decide +kernel
theorem dX6_freeTrunks_16 : decode cX6_freeTrunks 16 = .ok (.iand, 1) := by decide +kernel
theorem dX6_freeTrunks_17 : decode cX6_freeTrunks 17 = .ok (.aload_n 0, 1) := by decide +kernel
theorem dX6_freeTrunks_18 : decode cX6_freeTrunks 18 = .ok (.invokevirtual 70, 3) := by decide +kernel
theorem dX6_freeTrunks_21 : decode cX6_freeTrunks 21 = .ok (.iconst (-1), 1) := by decide +kernel
theorem dX6_freeTrunks_22 : decode cX6_freeTrunks 22 = .ok (.ixor, 1) := by decide +kernel
theorem dX6_freeTrunks_23 : decode cX6_freeTrunks 23 = .ok (.iand, 1) := by decide +kernel
theorem dX6_freeTrunks_24 : decode cX6_freeTrunks 24 = .ok (.ireturn, 1) := by decide +kernel
theorem dX6_beginCall_0 : decode cX6_beginCall 0 = .ok (.aload_n 0, 1) := by decide +kernel
theorem dX6_beginCall_1 : decode cX6_beginCall 1 = .ok (.getfield 50, 3) := by decide +kernel
theorem dX6_beginCall_4 : decode cX6_beginCall 4 = .ok (.iconst 5, 1) := by decide +kernel
theorem dX6_beginCall_5 : decode cX6_beginCall 5 = .ok (.if_icmp .lt 5, 3) := by decide +kernel
theorem dX6_beginCall_8 : decode cX6_beginCall 8 = .ok (.iconst (-1), 1) := by decide +kernel
theorem dX6_beginCall_9 : decode cX6_beginCall 9 = .ok (.ireturn, 1) := by decide +kernel
theorem dX6_beginCall_10 : decode cX6_beginCall 10 = .ok (.aload_n 0, 1) := by decide +kernel
theorem dX6_beginCall_11 : decode cX6_beginCall 11 = .ok (.getfield 30, 3) := by decide +kernel
theorem dX6_beginCall_14 : decode cX6_beginCall 14 = .ok (.aload_n 0, 1) := by decide +kernel
theorem dX6_beginCall_15 : decode cX6_beginCall 15 = .ok (.getfield 50, 3) := by decide +kernel
theorem dX6_beginCall_18 : decode cX6_beginCall 18 = .ok (.aaload, 1) := by decide +kernel
theorem dX6_beginCall_19 : decode cX6_beginCall 19 = .ok (.astore 4, 2) := by decide +kernel
theorem dX6_beginCall_21 : decode cX6_beginCall 21 = .ok (.aload 4, 2) := by decide +kernel
theorem dX6_beginCall_23 : decode cX6_beginCall 23 = .ok (.iload_n 1, 1) := by decide +kernel
theorem dX6_beginCall_24 : decode cX6_beginCall 24 = .ok (.putfield 73, 3) := by decide +kernel
theorem dX6_beginCall_27 : decode cX6_beginCall 27 = .ok (.aload 4, 2) := by decide +kernel
theorem dX6_beginCall_29 : decode cX6_beginCall 29 = .ok (.iload_n 2, 1) := by decide +kernel
theorem dX6_beginCall_30 : decode cX6_beginCall 30 = .ok (.putfield 76, 3) := by decide +kernel
theorem dX6_beginCall_33 : decode cX6_beginCall 33 = .ok (.aload 4, 2) := by decide +kernel
theorem dX6_beginCall_35 : decode cX6_beginCall 35 = .ok (.iconst 0, 1) := by decide +kernel
theorem dX6_beginCall_36 : decode cX6_beginCall 36 = .ok (.putfield 79, 3) := by decide +kernel
theorem dX6_beginCall_39 : decode cX6_beginCall 39 = .ok (.aload 4, 2) := by decide +kernel
theorem dX6_beginCall_41 : decode cX6_beginCall 41 = .ok (.aload_n 3, 1) := by decide +kernel
theorem dX6_beginCall_42 : decode cX6_beginCall 42 = .ok (.invokevirtual 82, 3) := by decide +kernel
theorem dX6_beginCall_45 : decode cX6_beginCall 45 = .ok (.aload_n 0, 1) := by decide +kernel
theorem dX6_beginCall_46 : decode cX6_beginCall 46 = .ok (.dup, 1) := by decide +kernel
theorem dX6_beginCall_47 : decode cX6_beginCall 47 = .ok (.getfield 50, 3) := by decide +kernel
theorem dX6_beginCall_50 : decode cX6_beginCall 50 = .ok (.iconst 1, 1) := by decide +kernel
theorem dX6_beginCall_51 : decode cX6_beginCall 51 = .ok (.iadd, 1) := by decide +kernel
theorem dX6_beginCall_52 : decode cX6_beginCall 52 = .ok (.putfield 50, 3) := by decide +kernel
theorem dX6_beginCall_55 : decode cX6_beginCall 55 = .ok (.aload 4, 2) := by decide +kernel
theorem dX6_beginCall_57 : decode cX6_beginCall 57 = .ok (.getfield 86, 3) := by decide +kernel
theorem dX6_beginCall_60 : decode cX6_beginCall 60 = .ok (.ireturn, 1) := by decide +kernel
theorem dX6_chargeOf_0 : decode cX6_chargeOf 0 = .ok (.aload_n 0, 1) := by decide +kernel
theorem dX6_chargeOf_1 : decode cX6_chargeOf 1 = .ok (.aload_n 1, 1) := by decide +kernel
theorem dX6_chargeOf_2 : decode cX6_chargeOf 2 = .ok (.getfield 73, 3) := by decide +kernel
theorem dX6_chargeOf_5 : decode cX6_chargeOf 5 = .ok (.invokevirtual 39, 3) := by decide +kernel
theorem dX6_chargeOf_8 : decode cX6_chargeOf 8 = .ok (.ifCond .eq 15, 3) := by decide +kernel
theorem dX6_chargeOf_11 : decode cX6_chargeOf 11 = .ok (.aload_n 0, 1) := by decide +kernel
theorem dX6_chargeOf_12 : decode cX6_chargeOf 12 = .ok (.getfield 22, 3) := by decide +kernel
theorem dX6_chargeOf_15 : decode cX6_chargeOf 15 = .ok (.aload_n 1, 1) := by decide +kernel
theorem dX6_chargeOf_16 : decode cX6_chargeOf 16 = .ok (.getfield 73, 3) := by decide +kernel
theorem dX6_chargeOf_19 : decode cX6_chargeOf 19 = .ok (.iaload, 1) := by decide +kernel
theorem dX6_chargeOf_20 : decode cX6_chargeOf 20 = .ok (.goto 4, 3) := by decide +kernel
theorem dX6_chargeOf_23 : decode cX6_chargeOf 23 = .ok (.iconst 0, 1) := by decide +kernel
theorem dX6_chargeOf_24 : decode cX6_chargeOf 24 = .ok (.istore_n 2, 1) := by decide +kernel
theorem dX6_chargeOf_25 : decode cX6_chargeOf 25 = .ok (.iload_n 2, 1) := by decide +kernel
theorem dX6_chargeOf_26 : decode cX6_chargeOf 26 = .ok (.ifCond .ne 6, 3) := by decide +kernel
theorem dX6_chargeOf_29 : decode cX6_chargeOf 29 = .ok (.bipush 25, 2) := by decide +kernel
theorem dX6_chargeOf_31 : decode cX6_chargeOf 31 = .ok (.ireturn, 1) := by decide +kernel
theorem dX6_chargeOf_32 : decode cX6_chargeOf 32 = .ok (.aload_n 1, 1) := by decide +kernel
theorem dX6_chargeOf_33 : decode cX6_chargeOf 33 = .ok (.getfield 79, 3) := by decide +kernel
theorem dX6_chargeOf_36 : decode cX6_chargeOf 36 = .ok (.aload_n 1, 1) := by decide +kernel
theorem dX6_chargeOf_37 : decode cX6_chargeOf 37 = .ok (.getfield 86, 3) := by decide +kernel
theorem dX6_chargeOf_40 : decode cX6_chargeOf 40 = .ok (.iconst 1, 1) := by decide +kernel
theorem dX6_chargeOf_41 : decode cX6_chargeOf 41 = .ok (.iadd, 1) := by decide +kernel
theorem dX6_chargeOf_42 : decode cX6_chargeOf 42 = .ok (.imul, 1) := by decide +kernel
theorem dX6_chargeOf_43 : decode cX6_chargeOf 43 = .ok (.istore_n 3, 1) := by decide +kernel
theorem dX6_chargeOf_44 : decode cX6_chargeOf 44 = .ok (.iload_n 2, 1) := by decide +kernel
theorem dX6_chargeOf_45 : decode cX6_chargeOf 45 = .ok (.iconst 1, 1) := by decide +kernel
theorem dX6_chargeOf_46 : decode cX6_chargeOf 46 = .ok (.if_icmp .ne 7, 3) := by decide +kernel
theorem dX6_chargeOf_49 : decode cX6_chargeOf 49 = .ok (.iload_n 3, 1) := by decide +kernel
theorem dX6_chargeOf_50 : decode cX6_chargeOf 50 = .ok (.goto 8, 3) := by decide +kernel
theorem dX6_chargeOf_53 : decode cX6_chargeOf 53 = .ok (.iload_n 3, 1) := by decide +kernel
theorem dX6_chargeOf_54 : decode cX6_chargeOf 54 = .ok (.iconst 1, 1) := by decide +kernel
theorem dX6_chargeOf_55 : decode cX6_chargeOf 55 = .ok (.iadd, 1) := by decide +kernel
theorem dX6_chargeOf_56 : decode cX6_chargeOf 56 = .ok (.iconst 2, 1) := by decide +kernel
theorem dX6_chargeOf_57 : decode cX6_chargeOf 57 = .ok (.idiv, 1) := by decide +kernel
theorem dX6_chargeOf_58 : decode cX6_chargeOf 58 = .ok (.ireturn, 1) := by decide +kernel
theorem dX6_endCall_0 : decode cX6_endCall 0 = .ok (.iload_n 1, 1) := by decide +kernel
theorem dX6_endCall_1 : decode cX6_endCall 1 = .ok (.ifCond .lt 11, 3) := by decide +kernel
theorem dX6_endCall_4 : decode cX6_endCall 4 = .ok (.iload_n 1, 1) := by decide +kernel
theorem dX6_endCall_5 : decode cX6_endCall 5 = .ok (.aload_n 0, 1) := by decide +kernel
theorem dX6_endCall_6 : decode cX6_endCall 6 = .ok (.getfield 50, 3) := by decide +kernel
theorem dX6_endCall_9 : decode cX6_endCall 9 = .ok (.if_icmp .lt 5, 3) := by decide +kernel
theorem dX6_endCall_12 : decode cX6_endCall 12 = .ok (.iconst 0, 1) := by decide +kernel
theorem dX6_endCall_13 : decode cX6_endCall 13 = .ok (.ireturn, 1) := by decide +kernel
theorem dX6_endCall_14 : decode cX6_endCall 14 = .ok (.aload_n 0, 1) := by decide +kernel
theorem dX6_endCall_15 : decode cX6_endCall 15 = .ok (.aload_n 0, 1) := by decide +kernel
theorem dX6_endCall_16 : decode cX6_endCall 16 = .ok (.getfield 30, 3) := by decide +kernel
theorem dX6_endCall_19 : decode cX6_endCall 19 = .ok (.iload_n 1, 1) := by decide +kernel
theorem dX6_endCall_20 : decode cX6_endCall 20 = .ok (.aaload, 1) := by decide +kernel
theorem dX6_endCall_21 : decode cX6_endCall 21 = .ok (.invokevirtual 89, 3) := by decide +kernel
theorem dX6_endCall_24 : decode cX6_endCall 24 = .ok (.istore_n 2, 1) := by decide +kernel
theorem dX6_endCall_25 : decode cX6_endCall 25 = .ok (.aload_n 0, 1) := by decide +kernel
theorem dX6_endCall_26 : decode cX6_endCall 26 = .ok (.getfield 30, 3) := by decide +kernel
theorem dX6_endCall_29 : decode cX6_endCall 29 = .ok (.iload_n 1, 1) := by decide +kernel
theorem dX6_endCall_30 : decode cX6_endCall 30 = .ok (.aaload, 1) := by decide +kernel
theorem dX6_endCall_31 : decode cX6_endCall 31 = .ok (.getfield 73, 3) := by decide +kernel
theorem dX6_endCall_34 : decode cX6_endCall 34 = .ok (.istore_n 3, 1) := by decide +kernel
theorem dX6_endCall_35 : decode cX6_endCall 35 = .ok (.aload_n 0, 1) := by decide +kernel
theorem dX6_endCall_36 : decode cX6_endCall 36 = .ok (.iload_n 3, 1) := by decide +kernel
theorem dX6_endCall_37 : decode cX6_endCall 37 = .ok (.invokevirtual 39, 3) := by decide +kernel
theorem dX6_endCall_40 : decode cX6_endCall 40 = .ok (.ifCond .eq 13, 3) := by decide +kernel
theorem dX6_endCall_43 : decode cX6_endCall 43 = .ok (.aload_n 0, 1) := by decide +kernel
theorem dX6_endCall_44 : decode cX6_endCall 44 = .ok (.getfield 25, 3) := by decide +kernel
theorem dX6_endCall_47 : decode cX6_endCall 47 = .ok (.iload_n 3, 1) := by decide +kernel
theorem dX6_endCall_48 : decode cX6_endCall 48 = .ok (.dup2, 1) := by decide +kernel
theorem dX6_endCall_49 : decode cX6_endCall 49 = .ok (.iaload, 1) := by decide +kernel
theorem dX6_endCall_50 : decode cX6_endCall 50 = .ok (.iload_n 2, 1) := by decide +kernel
theorem dX6_endCall_51 : decode cX6_endCall 51 = .ok (.iadd, 1) := by decide +kernel
theorem dX6_endCall_52 : decode cX6_endCall 52 = .ok (.iastore, 1) := by decide +kernel
theorem dX6_endCall_53 : decode cX6_endCall 53 = .ok (.aload_n 0, 1) := by decide +kernel
theorem dX6_endCall_54 : decode cX6_endCall 54 = .ok (.dup, 1) := by decide +kernel
theorem dX6_endCall_55 : decode cX6_endCall 55 = .ok (.getfield 93, 3) := by decide +kernel
theorem dX6_endCall_58 : decode cX6_endCall 58 = .ok (.iload_n 2, 1) := by decide +kernel
theorem dX6_endCall_59 : decode cX6_endCall 59 = .ok (.i2l, 1) := by decide +kernel
theorem dX6_endCall_60 : decode cX6_endCall 60 = .ok (.ladd, 1) := by decide +kernel
theorem dX6_endCall_61 : decode cX6_endCall 61 = .ok (.putfield 93, 3) := by decide +kernel
theorem dX6_endCall_64 : decode cX6_endCall 64 = .ok (.aload_n 0, 1) := by decide +kernel
theorem dX6_endCall_65 : decode cX6_endCall 65 = .ok (.dup, 1) := by decide +kernel
theorem dX6_endCall_66 : decode cX6_endCall 66 = .ok (.getfield 97, 3) := by decide +kernel
theorem dX6_endCall_69 : decode cX6_endCall 69 = .ok (.iconst 1, 1) := by decide +kernel
theorem dX6_endCall_70 : decode cX6_endCall 70 = .ok (.iadd, 1) := by decide +kernel
theorem dX6_endCall_71 : decode cX6_endCall 71 = .ok (.putfield 97, 3) := by decide +kernel
theorem dX6_endCall_74 : decode cX6_endCall 74 = .ok (.aload_n 0, 1) := by decide +kernel
theorem dX6_endCall_75 : decode cX6_endCall 75 = .ok (.dup, 1) := by decide +kernel
theorem dX6_endCall_76 : decode cX6_endCall 76 = .ok (.getfield 50, 3) := by decide +kernel
theorem dX6_endCall_79 : decode cX6_endCall 79 = .ok (.iconst 1, 1) := by decide +kernel
theorem dX6_endCall_80 : decode cX6_endCall 80 = .ok (.isub, 1) := by decide +kernel
theorem dX6_endCall_81 : decode cX6_endCall 81 = .ok (.putfield 50, 3) := by decide +kernel
theorem dX6_endCall_84 : decode cX6_endCall 84 = .ok (.iload_n 1, 1) := by decide +kernel
theorem dX6_endCall_85 : decode cX6_endCall 85 = .ok (.istore 4, 2) := by decide +kernel
theorem dX6_endCall_87 : decode cX6_endCall 87 = .ok (.iload 4, 2) := by decide +kernel
theorem dX6_endCall_89 : decode cX6_endCall 89 = .ok (.aload_n 0, 1) := by decide +kernel
theorem dX6_endCall_90 : decode cX6_endCall 90 = .ok (.getfield 50, 3) := by decide +kernel
theorem dX6_endCall_93 : decode cX6_endCall 93 = .ok (.if_icmp .ge 28, 3) := by decide +kernel
theorem dX6_endCall_96 : decode cX6_endCall 96 = .ok (.aload_n 0, 1) := by decide +kernel
theorem dX6_endCall_97 : decode cX6_endCall 97 = .ok (.getfield 30, 3) := by decide +kernel
theorem dX6_endCall_100 : decode cX6_endCall 100 = .ok (.iload 4, 2) := by decide +kernel
theorem dX6_endCall_102 : decode cX6_endCall 102 = .ok (.aaload, 1) := by decide +kernel
theorem dX6_endCall_103 : decode cX6_endCall 103 = .ok (.aload_n 0, 1) := by decide +kernel
theorem dX6_endCall_104 : decode cX6_endCall 104 = .ok (.getfield 30, 3) := by decide +kernel
theorem dX6_endCall_107 : decode cX6_endCall 107 = .ok (.iload 4, 2) := by decide +kernel
theorem dX6_endCall_109 : decode cX6_endCall 109 = .ok (.iconst 1, 1) := by decide +kernel
theorem dX6_endCall_110 : decode cX6_endCall 110 = .ok (.iadd, 1) := by decide +kernel
theorem dX6_endCall_111 : decode cX6_endCall 111 = .ok (.aaload, 1) := by decide +kernel
theorem dX6_endCall_112 : decode cX6_endCall 112 = .ok (.invokevirtual 100, 3) := by decide +kernel
theorem dX6_endCall_115 : decode cX6_endCall 115 = .ok (.iinc 4 1, 3) := by decide +kernel
theorem dX6_endCall_118 : decode cX6_endCall 118 = .ok (.goto (-31), 3) := by decide +kernel
theorem dX6_endCall_121 : decode cX6_endCall 121 = .ok (.iload_n 2, 1) := by decide +kernel
theorem dX6_endCall_122 : decode cX6_endCall 122 = .ok (.ireturn, 1) := by decide +kernel
theorem dX6_addMinutes_0 : decode cX6_addMinutes 0 = .ok (.iconst 0, 1) := by decide +kernel
theorem dX6_addMinutes_1 : decode cX6_addMinutes 1 = .ok (.istore_n 2, 1) := by decide +kernel
theorem dX6_addMinutes_2 : decode cX6_addMinutes 2 = .ok (.iload_n 2, 1) := by decide +kernel
theorem dX6_addMinutes_3 : decode cX6_addMinutes 3 = .ok (.aload_n 0, 1) := by decide +kernel
theorem dX6_addMinutes_4 : decode cX6_addMinutes 4 = .ok (.getfield 50, 3) := by decide +kernel
theorem dX6_addMinutes_7 : decode cX6_addMinutes 7 = .ok (.if_icmp .ge 59, 3) := by decide +kernel
theorem dX6_addMinutes_10 : decode cX6_addMinutes 10 = .ok (.aload_n 0, 1) := by decide +kernel
theorem dX6_addMinutes_11 : decode cX6_addMinutes 11 = .ok (.getfield 30, 3) := by decide +kernel
theorem dX6_addMinutes_14 : decode cX6_addMinutes 14 = .ok (.iload_n 2, 1) := by decide +kernel
theorem dX6_addMinutes_15 : decode cX6_addMinutes 15 = .ok (.aaload, 1) := by decide +kernel
theorem dX6_addMinutes_16 : decode cX6_addMinutes 16 = .ok (.astore_n 3, 1) := by decide +kernel
theorem dX6_addMinutes_17 : decode cX6_addMinutes 17 = .ok (.aload_n 3, 1) := by decide +kernel
theorem dX6_addMinutes_18 : decode cX6_addMinutes 18 = .ok (.dup, 1) := by decide +kernel
theorem dX6_addMinutes_19 : decode cX6_addMinutes 19 = .ok (.getfield 79, 3) := by decide +kernel
theorem dX6_addMinutes_22 : decode cX6_addMinutes 22 = .ok (.iload_n 1, 1) := by decide +kernel
theorem dX6_addMinutes_23 : decode cX6_addMinutes 23 = .ok (.iadd, 1) := by decide +kernel
theorem dX6_addMinutes_24 : decode cX6_addMinutes 24 = .ok (.putfield 79, 3) := by decide +kernel
theorem dX6_addMinutes_27 : decode cX6_addMinutes 27 = .ok (.iconst 0, 1) := by decide +kernel
theorem dX6_addMinutes_28 : decode cX6_addMinutes 28 = .ok (.istore 4, 2) := by decide +kernel
theorem dX6_addMinutes_30 : decode cX6_addMinutes 30 = .ok (.iload 4, 2) := by decide +kernel
theorem dX6_addMinutes_32 : decode cX6_addMinutes 32 = .ok (.aload_n 3, 1) := by decide +kernel
theorem dX6_addMinutes_33 : decode cX6_addMinutes 33 = .ok (.getfield 104, 3) := by decide +kernel
theorem dX6_addMinutes_36 : decode cX6_addMinutes 36 = .ok (.if_icmp .ge 24, 3) := by decide +kernel
theorem dX6_addMinutes_39 : decode cX6_addMinutes 39 = .ok (.aload_n 0, 1) := by decide +kernel
theorem dX6_addMinutes_40 : decode cX6_addMinutes 40 = .ok (.getfield 12, 3) := by decide +kernel
theorem dX6_addMinutes_43 : decode cX6_addMinutes 43 = .ok (.aload_n 3, 1) := by decide +kernel
theorem dX6_addMinutes_44 : decode cX6_addMinutes 44 = .ok (.getfield 107, 3) := by decide +kernel
theorem dX6_addMinutes_47 : decode cX6_addMinutes 47 = .ok (.iload 4, 2) := by decide +kernel
theorem dX6_addMinutes_49 : decode cX6_addMinutes 49 = .ok (.iaload, 1) := by decide +kernel
theorem dX6_addMinutes_50 : decode cX6_addMinutes 50 = .ok (.iload_n 1, 1) := by decide +kernel
theorem dX6_addMinutes_51 : decode cX6_addMinutes 51 = .ok (.invokevirtual 110, 3) := by decide +kernel
theorem dX6_addMinutes_54 : decode cX6_addMinutes 54 = .ok (.iinc 4 1, 3) := by decide +kernel
theorem dX6_addMinutes_57 : decode cX6_addMinutes 57 = .ok (.goto (-27), 3) := by decide +kernel
theorem dX6_addMinutes_60 : decode cX6_addMinutes 60 = .ok (.iinc 2 1, 3) := by decide +kernel
theorem dX6_addMinutes_63 : decode cX6_addMinutes 63 = .ok (.goto (-61), 3) := by decide +kernel
theorem dX6_addMinutes_66 : decode cX6_addMinutes 66 = .ok (.aload_n 0, 1) := by decide +kernel
theorem dX6_addMinutes_67 : decode cX6_addMinutes 67 = .ok (.getfield 50, 3) := by decide +kernel
theorem dX6_addMinutes_70 : decode cX6_addMinutes 70 = .ok (.ireturn, 1) := by decide +kernel
theorem dX6_sumOfBills_0 : decode cX6_sumOfBills 0 = .ok (.lconst 0, 1) := by decide +kernel
theorem dX6_sumOfBills_1 : decode cX6_sumOfBills 1 = .ok (.lstore_n 1, 1) := by decide +kernel
theorem dX6_sumOfBills_2 : decode cX6_sumOfBills 2 = .ok (.iconst 0, 1) := by decide +kernel
theorem dX6_sumOfBills_3 : decode cX6_sumOfBills 3 = .ok (.istore_n 3, 1) := by decide +kernel
theorem dX6_sumOfBills_4 : decode cX6_sumOfBills 4 = .ok (.iload_n 3, 1) := by decide +kernel
theorem dX6_sumOfBills_5 : decode cX6_sumOfBills 5 = .ok (.aload_n 0, 1) := by decide +kernel
theorem dX6_sumOfBills_6 : decode cX6_sumOfBills 6 = .ok (.getfield 35, 3) := by decide +kernel
theorem dX6_sumOfBills_9 : decode cX6_sumOfBills 9 = .ok (.if_icmp .ge 19, 3) := by decide +kernel
theorem dX6_sumOfBills_12 : decode cX6_sumOfBills 12 = .ok (.lload_n 1, 1) := by decide +kernel
theorem dX6_sumOfBills_13 : decode cX6_sumOfBills 13 = .ok (.aload_n 0, 1) := by decide +kernel
theorem dX6_sumOfBills_14 : decode cX6_sumOfBills 14 = .ok (.getfield 25, 3) := by decide +kernel
theorem dX6_sumOfBills_17 : decode cX6_sumOfBills 17 = .ok (.iload_n 3, 1) := by decide +kernel
theorem dX6_sumOfBills_18 : decode cX6_sumOfBills 18 = .ok (.iaload, 1) := by decide +kernel
theorem dX6_sumOfBills_19 : decode cX6_sumOfBills 19 = .ok (.i2l, 1) := by decide +kernel
theorem dX6_sumOfBills_20 : decode cX6_sumOfBills 20 = .ok (.ladd, 1) := by decide +kernel
theorem dX6_sumOfBills_21 : decode cX6_sumOfBills 21 = .ok (.lstore_n 1, 1) := by decide +kernel
theorem dX6_sumOfBills_22 : decode cX6_sumOfBills 22 = .ok (.iinc 3 1, 3) := by decide +kernel
theorem dX6_sumOfBills_25 : decode cX6_sumOfBills 25 = .ok (.goto (-21), 3) := by decide +kernel
theorem dX6_sumOfBills_28 : decode cX6_sumOfBills 28 = .ok (.lload_n 1, 1) := by decide +kernel
theorem dX6_sumOfBills_29 : decode cX6_sumOfBills 29 = .ok (.lreturn, 1) := by decide +kernel
theorem dX6_rankOf_0 : decode cX6_rankOf 0 = .ok (.aload_n 0, 1) := by decide +kernel
theorem dX6_rankOf_1 : decode cX6_rankOf 1 = .ok (.iload_n 1, 1) := by decide +kernel
theorem dX6_rankOf_2 : decode cX6_rankOf 2 = .ok (.invokevirtual 39, 3) := by decide +kernel
theorem dX6_rankOf_5 : decode cX6_rankOf 5 = .ok (.ifCond .ne 5, 3) := by decide +kernel
theorem dX6_rankOf_8 : decode cX6_rankOf 8 = .ok (.iconst (-1), 1) := by decide +kernel
theorem dX6_rankOf_9 : decode cX6_rankOf 9 = .ok (.ireturn, 1) := by decide +kernel
theorem dX6_rankOf_10 : decode cX6_rankOf 10 = .ok (.iconst 0, 1) := by decide +kernel
theorem dX6_rankOf_11 : decode cX6_rankOf 11 = .ok (.istore_n 2, 1) := by decide +kernel
theorem dX6_rankOf_12 : decode cX6_rankOf 12 = .ok (.iconst 0, 1) := by decide +kernel
theorem dX6_rankOf_13 : decode cX6_rankOf 13 = .ok (.istore_n 3, 1) := by decide +kernel
theorem dX6_rankOf_14 : decode cX6_rankOf 14 = .ok (.iload_n 3, 1) := by decide +kernel
theorem dX6_rankOf_15 : decode cX6_rankOf 15 = .ok (.aload_n 0, 1) := by decide +kernel
theorem dX6_rankOf_16 : decode cX6_rankOf 16 = .ok (.getfield 35, 3) := by decide +kernel
theorem dX6_rankOf_19 : decode cX6_rankOf 19 = .ok (.if_icmp .ge 59, 3) := by decide +kernel
theorem dX6_rankOf_22 : decode cX6_rankOf 22 = .ok (.aload_n 0, 1) := by decide +kernel
theorem dX6_rankOf_23 : decode cX6_rankOf 23 = .ok (.getfield 25, 3) := by decide +kernel
theorem dX6_rankOf_26 : decode cX6_rankOf 26 = .ok (.iload_n 3, 1) := by decide +kernel
theorem dX6_rankOf_27 : decode cX6_rankOf 27 = .ok (.iaload, 1) := by decide +kernel
theorem dX6_rankOf_28 : decode cX6_rankOf 28 = .ok (.aload_n 0, 1) := by decide +kernel
theorem dX6_rankOf_29 : decode cX6_rankOf 29 = .ok (.getfield 25, 3) := by decide +kernel
theorem dX6_rankOf_32 : decode cX6_rankOf 32 = .ok (.iload_n 1, 1) := by decide +kernel
theorem dX6_rankOf_33 : decode cX6_rankOf 33 = .ok (.iaload, 1) := by decide +kernel
theorem dX6_rankOf_34 : decode cX6_rankOf 34 = .ok (.if_icmp .ne 7, 3) := by decide +kernel
theorem dX6_rankOf_37 : decode cX6_rankOf 37 = .ok (.iconst 1, 1) := by decide +kernel
theorem dX6_rankOf_38 : decode cX6_rankOf 38 = .ok (.goto 4, 3) := by decide +kernel
theorem dX6_rankOf_41 : decode cX6_rankOf 41 = .ok (.iconst 0, 1) := by decide +kernel
theorem dX6_rankOf_42 : decode cX6_rankOf 42 = .ok (.istore 4, 2) := by decide +kernel
theorem dX6_rankOf_44 : decode cX6_rankOf 44 = .ok (.aload_n 0, 1) := by decide +kernel
theorem dX6_rankOf_45 : decode cX6_rankOf 45 = .ok (.getfield 25, 3) := by decide +kernel
theorem dX6_rankOf_48 : decode cX6_rankOf 48 = .ok (.iload_n 3, 1) := by decide +kernel
theorem dX6_rankOf_49 : decode cX6_rankOf 49 = .ok (.iaload, 1) := by decide +kernel
theorem dX6_rankOf_50 : decode cX6_rankOf 50 = .ok (.aload_n 0, 1) := by decide +kernel
theorem dX6_rankOf_51 : decode cX6_rankOf 51 = .ok (.getfield 25, 3) := by decide +kernel
theorem dX6_rankOf_54 : decode cX6_rankOf 54 = .ok (.iload_n 1, 1) := by decide +kernel
theorem dX6_rankOf_55 : decode cX6_rankOf 55 = .ok (.iaload, 1) := by decide +kernel
theorem dX6_rankOf_56 : decode cX6_rankOf 56 = .ok (.if_icmp .gt 13, 3) := by decide +kernel
theorem dX6_rankOf_59 : decode cX6_rankOf 59 = .ok (.iload 4, 2) := by decide +kernel
theorem dX6_rankOf_61 : decode cX6_rankOf 61 = .ok (.ifCond .eq 11, 3) := by decide +kernel
theorem dX6_rankOf_64 : decode cX6_rankOf 64 = .ok (.iload_n 3, 1) := by decide +kernel
theorem dX6_rankOf_65 : decode cX6_rankOf 65 = .ok (.iload_n 1, 1) := by decide +kernel
theorem dX6_rankOf_66 : decode cX6_rankOf 66 = .ok (.if_icmp .ge 6, 3) := by decide +kernel
theorem dX6_rankOf_69 : decode cX6_rankOf 69 = .ok (.iinc 2 1, 3) := by decide +kernel
theorem dX6_rankOf_72 : decode cX6_rankOf 72 = .ok (.iinc 3 1, 3) := by decide +kernel
theorem dX6_rankOf_75 : decode cX6_rankOf 75 = .ok (.goto (-61), 3) := by decide +kernel
theorem dX6_rankOf_78 : decode cX6_rankOf 78 = .ok (.iload_n 2, 1) := by decide +kernel
theorem dX6_rankOf_79 : decode cX6_rankOf 79 = .ok (.ireturn, 1) := by decide +kernel
theorem dX6_sharesNoTrunk_0 : decode cX6_sharesNoTrunk 0 = .ok (.aload_n 0, 1) := by decide +kernel
theorem dX6_sharesNoTrunk_1 : decode cX6_sharesNoTrunk 1 = .ok (.getfield 12, 3) := by decide +kernel
theorem dX6_sharesNoTrunk_4 : decode cX6_sharesNoTrunk 4 = .ok (.getfield 67, 3) := by decide +kernel
theorem dX6_sharesNoTrunk_7 : decode cX6_sharesNoTrunk 7 = .ok (.istore_n 1, 1) := by decide +kernel
theorem dX6_sharesNoTrunk_8 : decode cX6_sharesNoTrunk 8 = .ok (.iconst 0, 1) := by decide +kernel
theorem dX6_sharesNoTrunk_9 : decode cX6_sharesNoTrunk 9 = .ok (.istore_n 2, 1) := by decide +kernel
theorem dX6_sharesNoTrunk_10 : decode cX6_sharesNoTrunk 10 = .ok (.iload_n 2, 1) := by decide +kernel
theorem dX6_sharesNoTrunk_11 : decode cX6_sharesNoTrunk 11 = .ok (.aload_n 0, 1) := by decide +kernel
theorem dX6_sharesNoTrunk_12 : decode cX6_sharesNoTrunk 12 = .ok (.getfield 50, 3) := by decide +kernel
theorem dX6_sharesNoTrunk_15 : decode cX6_sharesNoTrunk 15 = .ok (.if_icmp .ge 31, 3) := by decide +kernel
theorem dX6_sharesNoTrunk_18 : decode cX6_sharesNoTrunk 18 = .ok (.aload_n 0, 1) := by decide +kernel
theorem dX6_sharesNoTrunk_19 : decode cX6_sharesNoTrunk 19 = .ok (.getfield 30, 3) := by decide +kernel
theorem dX6_sharesNoTrunk_22 : decode cX6_sharesNoTrunk 22 = .ok (.iload_n 2, 1) := by decide +kernel
theorem dX6_sharesNoTrunk_23 : decode cX6_sharesNoTrunk 23 = .ok (.aaload, 1) := by decide +kernel
theorem dX6_sharesNoTrunk_24 : decode cX6_sharesNoTrunk 24 = .ok (.invokevirtual 56, 3) := by decide +kernel
theorem dX6_sharesNoTrunk_27 : decode cX6_sharesNoTrunk 27 = .ok (.istore_n 3, 1) := by decide +kernel
theorem dX6_sharesNoTrunk_28 : decode cX6_sharesNoTrunk 28 = .ok (.iload_n 1, 1) := by decide +kernel
theorem dX6_sharesNoTrunk_29 : decode cX6_sharesNoTrunk 29 = .ok (.iload_n 3, 1) := by decide +kernel
theorem dX6_sharesNoTrunk_30 : decode cX6_sharesNoTrunk 30 = .ok (.iand, 1) := by decide +kernel
theorem dX6_sharesNoTrunk_31 : decode cX6_sharesNoTrunk 31 = .ok (.ifCond .eq 5, 3) := by decide +kernel
theorem dX6_sharesNoTrunk_34 : decode cX6_sharesNoTrunk 34 = .ok (.iconst 0, 1) := by decide +kernel
theorem dX6_sharesNoTrunk_35 : decode cX6_sharesNoTrunk 35 = .ok (.ireturn, 1) := by decide +kernel
theorem dX6_sharesNoTrunk_36 : decode cX6_sharesNoTrunk 36 = .ok (.iload_n 1, 1) := by decide +kernel
theorem dX6_sharesNoTrunk_37 : decode cX6_sharesNoTrunk 37 = .ok (.iload_n 3, 1) := by decide +kernel
theorem dX6_sharesNoTrunk_38 : decode cX6_sharesNoTrunk 38 = .ok (.ior, 1) := by decide +kernel
theorem dX6_sharesNoTrunk_39 : decode cX6_sharesNoTrunk 39 = .ok (.istore_n 1, 1) := by decide +kernel
theorem dX6_sharesNoTrunk_40 : decode cX6_sharesNoTrunk 40 = .ok (.iinc 2 1, 3) := by decide +kernel
theorem dX6_sharesNoTrunk_43 : decode cX6_sharesNoTrunk 43 = .ok (.goto (-33), 3) := by decide +kernel
theorem dX6_sharesNoTrunk_46 : decode cX6_sharesNoTrunk 46 = .ok (.iconst 1, 1) := by decide +kernel
theorem dX6_sharesNoTrunk_47 : decode cX6_sharesNoTrunk 47 = .ok (.ireturn, 1) := by decide +kernel
theorem dX6_copyFrom_0 : decode cX6_copyFrom 0 = .ok (.aload_n 0, 1) := by decide +kernel
theorem dX6_copyFrom_1 : decode cX6_copyFrom 1 = .ok (.getfield 12, 3) := by decide +kernel
theorem dX6_copyFrom_4 : decode cX6_copyFrom 4 = .ok (.aload_n 1, 1) := by decide +kernel
theorem dX6_copyFrom_5 : decode cX6_copyFrom 5 = .ok (.getfield 12, 3) := by decide +kernel
theorem dX6_copyFrom_8 : decode cX6_copyFrom 8 = .ok (.invokevirtual 114, 3) := by decide +kernel
theorem dX6_copyFrom_11 : decode cX6_copyFrom 11 = .ok (.aload_n 0, 1) := by decide +kernel
theorem dX6_copyFrom_12 : decode cX6_copyFrom 12 = .ok (.aload_n 1, 1) := by decide +kernel
theorem dX6_copyFrom_13 : decode cX6_copyFrom 13 = .ok (.getfield 35, 3) := by decide +kernel
theorem dX6_copyFrom_16 : decode cX6_copyFrom 16 = .ok (.putfield 35, 3) := by decide +kernel
theorem dX6_copyFrom_19 : decode cX6_copyFrom 19 = .ok (.aload_n 1, 1) := by decide +kernel
theorem dX6_copyFrom_20 : decode cX6_copyFrom 20 = .ok (.getfield 18, 3) := by decide +kernel
theorem dX6_copyFrom_23 : decode cX6_copyFrom 23 = .ok (.aload_n 0, 1) := by decide +kernel
theorem dX6_copyFrom_24 : decode cX6_copyFrom 24 = .ok (.getfield 18, 3) := by decide +kernel
theorem dX6_copyFrom_27 : decode cX6_copyFrom 27 = .ok (.invokestatic 117, 3) := by decide +kernel
theorem dX6_copyFrom_30 : decode cX6_copyFrom 30 = .ok (.aload_n 1, 1) := by decide +kernel
theorem dX6_copyFrom_31 : decode cX6_copyFrom 31 = .ok (.getfield 22, 3) := by decide +kernel
theorem dX6_copyFrom_34 : decode cX6_copyFrom 34 = .ok (.aload_n 0, 1) := by decide +kernel
theorem dX6_copyFrom_35 : decode cX6_copyFrom 35 = .ok (.getfield 22, 3) := by decide +kernel
theorem dX6_copyFrom_38 : decode cX6_copyFrom 38 = .ok (.invokestatic 117, 3) := by decide +kernel
theorem dX6_copyFrom_41 : decode cX6_copyFrom 41 = .ok (.aload_n 1, 1) := by decide +kernel
theorem dX6_copyFrom_42 : decode cX6_copyFrom 42 = .ok (.getfield 25, 3) := by decide +kernel
theorem dX6_copyFrom_45 : decode cX6_copyFrom 45 = .ok (.aload_n 0, 1) := by decide +kernel
theorem dX6_copyFrom_46 : decode cX6_copyFrom 46 = .ok (.getfield 25, 3) := by decide +kernel
theorem dX6_copyFrom_49 : decode cX6_copyFrom 49 = .ok (.invokestatic 117, 3) := by decide +kernel
theorem dX6_copyFrom_52 : decode cX6_copyFrom 52 = .ok (.aload_n 0, 1) := by decide +kernel
theorem dX6_copyFrom_53 : decode cX6_copyFrom 53 = .ok (.aload_n 1, 1) := by decide +kernel
theorem dX6_copyFrom_54 : decode cX6_copyFrom 54 = .ok (.getfield 50, 3) := by decide +kernel
theorem dX6_copyFrom_57 : decode cX6_copyFrom 57 = .ok (.putfield 50, 3) := by decide +kernel
theorem dX6_copyFrom_60 : decode cX6_copyFrom 60 = .ok (.iconst 0, 1) := by decide +kernel
theorem dX6_copyFrom_61 : decode cX6_copyFrom 61 = .ok (.istore_n 2, 1) := by decide +kernel
theorem dX6_copyFrom_62 : decode cX6_copyFrom 62 = .ok (.iload_n 2, 1) := by decide +kernel
theorem dX6_copyFrom_63 : decode cX6_copyFrom 63 = .ok (.iconst 5, 1) := by decide +kernel
theorem dX6_copyFrom_64 : decode cX6_copyFrom 64 = .ok (.if_icmp .ge 24, 3) := by decide +kernel
theorem dX6_copyFrom_67 : decode cX6_copyFrom 67 = .ok (.aload_n 0, 1) := by decide +kernel
theorem dX6_copyFrom_68 : decode cX6_copyFrom 68 = .ok (.getfield 30, 3) := by decide +kernel
theorem dX6_copyFrom_71 : decode cX6_copyFrom 71 = .ok (.iload_n 2, 1) := by decide +kernel
theorem dX6_copyFrom_72 : decode cX6_copyFrom 72 = .ok (.aaload, 1) := by decide +kernel
theorem dX6_copyFrom_73 : decode cX6_copyFrom 73 = .ok (.aload_n 1, 1) := by decide +kernel
theorem dX6_copyFrom_74 : decode cX6_copyFrom 74 = .ok (.getfield 30, 3) := by decide +kernel
theorem dX6_copyFrom_77 : decode cX6_copyFrom 77 = .ok (.iload_n 2, 1) := by decide +kernel
theorem dX6_copyFrom_78 : decode cX6_copyFrom 78 = .ok (.aaload, 1) := by decide +kernel
theorem dX6_copyFrom_79 : decode cX6_copyFrom 79 = .ok (.invokevirtual 100, 3) := by decide +kernel
theorem dX6_copyFrom_82 : decode cX6_copyFrom 82 = .ok (.iinc 2 1, 3) := by decide +kernel
theorem dX6_copyFrom_85 : decode cX6_copyFrom 85 = .ok (.goto (-23), 3) := by decide +kernel
theorem dX6_copyFrom_88 : decode cX6_copyFrom 88 = .ok (.aload_n 0, 1) := by decide +kernel
theorem dX6_copyFrom_89 : decode cX6_copyFrom 89 = .ok (.aload_n 1, 1) := by decide +kernel
theorem dX6_copyFrom_90 : decode cX6_copyFrom 90 = .ok (.getfield 93, 3) := by decide +kernel
theorem dX6_copyFrom_93 : decode cX6_copyFrom 93 = .ok (.putfield 93, 3) := by decide +kernel
theorem dX6_copyFrom_96 : decode cX6_copyFrom 96 = .ok (.aload_n 0, 1) := by decide +kernel
theorem dX6_copyFrom_97 : decode cX6_copyFrom 97 = .ok (.aload_n 1, 1) := by decide +kernel
theorem dX6_copyFrom_98 : decode cX6_copyFrom 98 = .ok (.getfield 97, 3) := by decide +kernel
theorem dX6_copyFrom_101 : decode cX6_copyFrom 101 = .ok (.putfield 97, 3) := by decide +kernel
theorem dX6_copyFrom_104 : decode cX6_copyFrom 104 = .ok (.return_, 1) := by decide +kernel
theorem dX7_init_0 : decode cX7_init 0 = .ok (.aload_n 0, 1) := by decide +kernel
theorem dX7_init_1 : decode cX7_init 1 = .ok (.invokespecial 1, 3) := by decide +kernel
theorem dX7_init_4 : decode cX7_init 4 = .ok (.aload_n 0, 1) := by decide +kernel
theorem dX7_init_5 : decode cX7_init 5 = .ok (.new 7, 3) := by decide +kernel
theorem dX7_init_8 : decode cX7_init 8 = .ok (.dup, 1) := by decide +kernel
theorem dX7_init_9 : decode cX7_init 9 = .ok (.invokespecial 9, 3) := by decide +kernel
theorem dX7_init_12 : decode cX7_init 12 = .ok (.putfield 10, 3) := by decide +kernel
theorem dX7_init_15 : decode cX7_init 15 = .ok (.aload_n 0, 1) := by decide +kernel
theorem dX7_init_16 : decode cX7_init 16 = .ok (.new 7, 3) := by decide +kernel
theorem dX7_init_19 : decode cX7_init 19 = .ok (.dup, 1) := by decide +kernel
theorem dX7_init_20 : decode cX7_init 20 = .ok (.invokespecial 9, 3) := by decide +kernel
theorem dX7_init_23 : decode cX7_init 23 = .ok (.putfield 16, 3) := by decide +kernel
theorem dX7_init_26 : decode cX7_init 26 = .ok (.aload_n 0, 1) := by decide +kernel
theorem dX7_init_27 : decode cX7_init 27 = .ok (.new 7, 3) := by decide +kernel
theorem dX7_init_30 : decode cX7_init 30 = .ok (.dup, 1) := by decide +kernel
theorem dX7_init_31 : decode cX7_init 31 = .ok (.invokespecial 9, 3) := by decide +kernel
theorem dX7_init_34 : decode cX7_init 34 = .ok (.putfield 19, 3) := by decide +kernel
theorem dX7_init_37 : decode cX7_init 37 = .ok (.aload_n 0, 1) := by decide +kernel
theorem dX7_init_38 : decode cX7_init 38 = .ok (.new 22, 3) := by decide +kernel
theorem dX7_init_41 : decode cX7_init 41 = .ok (.dup, 1) := by decide +kernel
theorem dX7_init_42 : decode cX7_init 42 = .ok (.invokespecial 24, 3) := by decide +kernel
theorem dX7_init_45 : decode cX7_init 45 = .ok (.putfield 25, 3) := by decide +kernel
theorem dX7_init_48 : decode cX7_init 48 = .ok (.aload_n 0, 1) := by decide +kernel
theorem dX7_init_49 : decode cX7_init 49 = .ok (.new 29, 3) := by decide +kernel
theorem dX7_init_52 : decode cX7_init 52 = .ok (.dup, 1) := by decide +kernel
theorem dX7_init_53 : decode cX7_init 53 = .ok (.invokespecial 31, 3) := by decide +kernel
theorem dX7_init_56 : decode cX7_init 56 = .ok (.putfield 32, 3) := by decide +kernel
theorem dX7_init_59 : decode cX7_init 59 = .ok (.aload_n 0, 1) := by decide +kernel
theorem dX7_init_60 : decode cX7_init 60 = .ok (.new 36, 3) := by decide +kernel
theorem dX7_init_63 : decode cX7_init 63 = .ok (.dup, 1) := by decide +kernel
theorem dX7_init_64 : decode cX7_init 64 = .ok (.invokespecial 38, 3) := by decide +kernel
theorem dX7_init_67 : decode cX7_init 67 = .ok (.putfield 39, 3) := by decide +kernel
theorem dX7_init_70 : decode cX7_init 70 = .ok (.aload_n 0, 1) := by decide +kernel
theorem dX7_init_71 : decode cX7_init 71 = .ok (.new 43, 3) := by decide +kernel
theorem dX7_init_74 : decode cX7_init 74 = .ok (.dup, 1) := by decide +kernel
theorem dX7_init_75 : decode cX7_init 75 = .ok (.invokespecial 45, 3) := by decide +kernel
theorem dX7_init_78 : decode cX7_init 78 = .ok (.putfield 46, 3) := by decide +kernel
theorem dX7_init_81 : decode cX7_init 81 = .ok (.aload_n 0, 1) := by decide +kernel
theorem dX7_init_82 : decode cX7_init 82 = .ok (.new 50, 3) := by decide +kernel
theorem dX7_init_85 : decode cX7_init 85 = .ok (.dup, 1) := by decide +kernel
theorem dX7_init_86 : decode cX7_init 86 = .ok (.invokespecial 52, 3) := by decide +kernel
theorem dX7_init_89 : decode cX7_init 89 = .ok (.putfield 53, 3) := by decide +kernel
theorem dX7_init_92 : decode cX7_init 92 = .ok (.aload_n 0, 1) := by decide +kernel
theorem dX7_init_93 : decode cX7_init 93 = .ok (.iconst 0, 1) := by decide +kernel
theorem dX7_init_94 : decode cX7_init 94 = .ok (.putfield 57, 3) := by decide +kernel
theorem dX7_init_97 : decode cX7_init 97 = .ok (.aload_n 0, 1) := by decide +kernel
theorem dX7_init_98 : decode cX7_init 98 = .ok (.iconst (-1), 1) := by decide +kernel
theorem dX7_init_99 : decode cX7_init 99 = .ok (.putfield 61, 3) := by decide +kernel
theorem dX7_init_102 : decode cX7_init 102 = .ok (.aload_n 0, 1) := by decide +kernel
theorem dX7_init_103 : decode cX7_init 103 = .ok (.iconst (-1), 1) := by decide +kernel
theorem dX7_init_104 : decode cX7_init 104 = .ok (.putfield 65, 3) := by decide +kernel
theorem dX7_init_107 : decode cX7_init 107 = .ok (.return_, 1) := by decide +kernel
theorem dX7_addSwitch_0 : decode cX7_addSwitch 0 = .ok (.aload_n 0, 1) := by decide +kernel
theorem dX7_addSwitch_1 : decode cX7_addSwitch 1 = .ok (.iconst 0, 1) := by decide +kernel
theorem dX7_addSwitch_2 : decode cX7_addSwitch 2 = .ok (.iconst 0, 1) := by decide +kernel
theorem dX7_addSwitch_3 : decode cX7_addSwitch 3 = .ok (.iconst 0, 1) := by decide +kernel
theorem dX7_addSwitch_4 : decode cX7_addSwitch 4 = .ok (.iconst 0, 1) := by decide +kernel
theorem dX7_addSwitch_5 : decode cX7_addSwitch 5 = .ok (.invokevirtual 68, 3) := by decide +kernel
theorem dX7_addSwitch_8 : decode cX7_addSwitch 8 = .ok (.ireturn, 1) := by decide +kernel
theorem dX7_addTrunk_0 : decode cX7_addTrunk 0 = .ok (.aload_n 0, 1) := by decide +kernel
theorem dX7_addTrunk_1 : decode cX7_addTrunk 1 = .ok (.iconst 1, 1) := by decide +kernel
theorem dX7_addTrunk_2 : decode cX7_addTrunk 2 = .ok (.iload_n 1, 1) := by decide +kernel
theorem dX7_addTrunk_3 : decode cX7_addTrunk 3 = .ok (.iload_n 2, 1) := by decide +kernel
theorem dX7_addTrunk_4 : decode cX7_addTrunk 4 = .ok (.iload_n 3, 1) := by decide +kernel
theorem dX7_addTrunk_5 : decode cX7_addTrunk 5 = .ok (.invokevirtual 68, 3) := by decide +kernel
theorem dX7_addTrunk_8 : decode cX7_addTrunk 8 = .ok (.ireturn, 1) := by decide +kernel
theorem dX7_addSubscriber_0 : decode cX7_addSubscriber 0 = .ok (.aload_n 0, 1) := by decide +kernel
theorem dX7_addSubscriber_1 : decode cX7_addSubscriber 1 = .ok (.iconst 2, 1) := by decide +kernel
theorem dX7_addSubscriber_2 : decode cX7_addSubscriber 2 = .ok (.iload_n 1, 1) := by decide +kernel
theorem dX7_addSubscriber_3 : decode cX7_addSubscriber 3 = .ok (.iload_n 2, 1) := by decide +kernel
theorem dX7_addSubscriber_4 : decode cX7_addSubscriber 4 = .ok (.iconst 0, 1) := by decide +kernel
theorem dX7_addSubscriber_5 : decode cX7_addSubscriber 5 = .ok (.invokevirtual 68, 3) := by decide +kernel
theorem dX7_addSubscriber_8 : decode cX7_addSubscriber 8 = .ok (.ireturn, 1) := by decide +kernel
theorem dX7_cut_0 : decode cX7_cut 0 = .ok (.aload_n 0, 1) := by decide +kernel
theorem dX7_cut_1 : decode cX7_cut 1 = .ok (.iconst 5, 1) := by decide +kernel
theorem dX7_cut_2 : decode cX7_cut 2 = .ok (.iload_n 1, 1) := by decide +kernel
theorem dX7_cut_3 : decode cX7_cut 3 = .ok (.iconst 0, 1) := by decide +kernel
theorem dX7_cut_4 : decode cX7_cut 4 = .ok (.iconst 0, 1) := by decide +kernel
theorem dX7_cut_5 : decode cX7_cut 5 = .ok (.invokevirtual 68, 3) := by decide +kernel
theorem dX7_cut_8 : decode cX7_cut 8 = .ok (.iconst 1, 1) := by decide +kernel
theorem dX7_cut_9 : decode cX7_cut 9 = .ok (.if_icmp .ne 7, 3) := by decide +kernel
theorem dX7_cut_12 : decode cX7_cut 12 = .ok (.iconst 1, 1) := by decide +kernel
theorem dX7_cut_13 : decode cX7_cut 13 = .ok (.goto 4, 3) := by decide +kernel
theorem dX7_cut_16 : decode cX7_cut 16 = .ok (.iconst 0, 1) := by decide +kernel
theorem dX7_cut_17 : decode cX7_cut 17 = .ok (.ireturn, 1) := by decide +kernel
theorem dX7_mend_0 : decode cX7_mend 0 = .ok (.aload_n 0, 1) := by decide +kernel
theorem dX7_mend_1 : decode cX7_mend 1 = .ok (.bipush 6, 2) := by decide +kernel
theorem dX7_mend_3 : decode cX7_mend 3 = .ok (.iload_n 1, 1) := by decide +kernel
theorem dX7_mend_4 : decode cX7_mend 4 = .ok (.iconst 0, 1) := by decide +kernel
theorem dX7_mend_5 : decode cX7_mend 5 = .ok (.iconst 0, 1) := by decide +kernel
theorem dX7_mend_6 : decode cX7_mend 6 = .ok (.invokevirtual 68, 3) := by decide +kernel
theorem dX7_mend_9 : decode cX7_mend 9 = .ok (.ireturn, 1) := by decide +kernel
theorem dX7_call_0 : decode cX7_call 0 = .ok (.aload_n 0, 1) := by decide +kernel
theorem dX7_call_1 : decode cX7_call 1 = .ok (.iconst 3, 1) := by decide +kernel
theorem dX7_call_2 : decode cX7_call 2 = .ok (.iload_n 1, 1) := by decide +kernel
theorem dX7_call_3 : decode cX7_call 3 = .ok (.iload_n 2, 1) := by decide +kernel
theorem dX7_call_4 : decode cX7_call 4 = .ok (.iconst 0, 1) := by decide +kernel
theorem dX7_call_5 : decode cX7_call 5 = .ok (.invokevirtual 68, 3) := by decide +kernel
theorem dX7_call_8 : decode cX7_call 8 = .ok (.ireturn, 1) := by decide +kernel
theorem dX7_hangUp_0 : decode cX7_hangUp 0 = .ok (.aload_n 0, 1) := by decide +kernel
theorem dX7_hangUp_1 : decode cX7_hangUp 1 = .ok (.iconst 4, 1) := by decide +kernel
theorem dX7_hangUp_2 : decode cX7_hangUp 2 = .ok (.iload_n 1, 1) := by decide +kernel
theorem dX7_hangUp_3 : decode cX7_hangUp 3 = .ok (.iconst 0, 1) := by decide +kernel
theorem dX7_hangUp_4 : decode cX7_hangUp 4 = .ok (.iconst 0, 1) := by decide +kernel
theorem dX7_hangUp_5 : decode cX7_hangUp 5 = .ok (.invokevirtual 68, 3) := by decide +kernel
theorem dX7_hangUp_8 : decode cX7_hangUp 8 = .ok (.ireturn, 1) := by decide +kernel
theorem dX7_pass_0 : decode cX7_pass 0 = .ok (.aload_n 0, 1) := by decide +kernel
theorem dX7_pass_1 : decode cX7_pass 1 = .ok (.bipush 7, 2) := by decide +kernel
theorem dX7_pass_3 : decode cX7_pass 3 = .ok (.iload_n 1, 1) := by decide +kernel
theorem dX7_pass_4 : decode cX7_pass 4 = .ok (.iconst 0, 1) := by decide +kernel
theorem dX7_pass_5 : decode cX7_pass 5 = .ok (.iconst 0, 1) := by decide +kernel
theorem dX7_pass_6 : decode cX7_pass 6 = .ok (.invokevirtual 68, 3) := by decide +kernel
theorem dX7_pass_9 : decode cX7_pass 9 = .ok (.ireturn, 1) := by decide +kernel
theorem dX7_change_0 : decode cX7_change 0 = .ok (.aload_n 0, 1) := by decide +kernel
theorem dX7_change_1 : decode cX7_change 1 = .ok (.iload_n 1, 1) := by decide +kernel
theorem dX7_change_2 : decode cX7_change 2 = .ok (.iload_n 2, 1) := by decide +kernel
theorem dX7_change_3 : decode cX7_change 3 = .ok (.iload_n 3, 1) := by decide +kernel
theorem dX7_change_4 : decode cX7_change 4 = .ok (.iload 4, 2) := by decide +kernel
theorem dX7_change_6 : decode cX7_change 6 = .ok (.invokevirtual 72, 3) := by decide +kernel
theorem dX7_change_9 : decode cX7_change 9 = .ok (.invokestatic 75, 3) := by decide +kernel
theorem dX7_change_12 : decode cX7_change 12 = .ok (.aload_n 0, 1) := by decide +kernel
theorem dX7_change_13 : decode cX7_change 13 = .ok (.getfield 25, 3) := by decide +kernel
theorem dX7_change_16 : decode cX7_change 16 = .ok (.aload_n 0, 1) := by decide +kernel
theorem dX7_change_17 : decode cX7_change 17 = .ok (.getfield 10, 3) := by decide +kernel
theorem dX7_change_20 : decode cX7_change 20 = .ok (.invokevirtual 79, 3) := by decide +kernel
theorem dX7_change_23 : decode cX7_change 23 = .ok (.aload_n 0, 1) := by decide +kernel
theorem dX7_change_24 : decode cX7_change 24 = .ok (.iload_n 1, 1) := by decide +kernel
theorem dX7_change_25 : decode cX7_change 25 = .ok (.iload_n 2, 1) := by decide +kernel
theorem dX7_change_26 : decode cX7_change 26 = .ok (.iload_n 3, 1) := by decide +kernel
theorem dX7_change_27 : decode cX7_change 27 = .ok (.iload 4, 2) := by decide +kernel
theorem dX7_change_29 : decode cX7_change 29 = .ok (.invokevirtual 83, 3) := by decide +kernel
theorem dX7_change_32 : decode cX7_change 32 = .ok (.ireturn, 1) := by decide +kernel
theorem dX7_refuse_0 : decode cX7_refuse 0 = .ok (.iload_n 0, 1) := by decide +kernel
theorem dX7_refuse_1 : decode cX7_refuse 1 = .ok (.tableswitch 71 1 4 #[31, 41, 51, 61], 31) := by decide +kernel
theorem dX7_refuse_32 : decode cX7_refuse 32 = .ok (.new 86, 3) := by decide +kernel
theorem dX7_refuse_35 : decode cX7_refuse 35 = .ok (.dup, 1) := by decide +kernel
theorem dX7_refuse_36 : decode cX7_refuse 36 = .ok (.ldc 88, 2) := by decide +kernel
theorem dX7_refuse_38 : decode cX7_refuse 38 = .ok (.invokespecial 90, 3) := by decide +kernel
theorem dX7_refuse_41 : decode cX7_refuse 41 = .ok (.athrow, 1) := by decide +kernel
theorem dX7_refuse_42 : decode cX7_refuse 42 = .ok (.new 93, 3) := by decide +kernel
theorem dX7_refuse_45 : decode cX7_refuse 45 = .ok (.dup, 1) := by decide +kernel
theorem dX7_refuse_46 : decode cX7_refuse 46 = .ok (.ldc 95, 2) := by decide +kernel
theorem dX7_refuse_48 : decode cX7_refuse 48 = .ok (.invokespecial 97, 3) := by decide +kernel
theorem dX7_refuse_51 : decode cX7_refuse 51 = .ok (.athrow, 1) := by decide +kernel
theorem dX7_refuse_52 : decode cX7_refuse 52 = .ok (.new 98, 3) := by decide +kernel
theorem dX7_refuse_55 : decode cX7_refuse 55 = .ok (.dup, 1) := by decide +kernel
theorem dX7_refuse_56 : decode cX7_refuse 56 = .ok (.ldc 100, 2) := by decide +kernel
theorem dX7_refuse_58 : decode cX7_refuse 58 = .ok (.invokespecial 102, 3) := by decide +kernel
theorem dX7_refuse_61 : decode cX7_refuse 61 = .ok (.athrow, 1) := by decide +kernel
theorem dX7_refuse_62 : decode cX7_refuse 62 = .ok (.new 103, 3) := by decide +kernel
theorem dX7_refuse_65 : decode cX7_refuse 65 = .ok (.dup, 1) := by decide +kernel
theorem dX7_refuse_66 : decode cX7_refuse 66 = .ok (.ldc 105, 2) := by decide +kernel
theorem dX7_refuse_68 : decode cX7_refuse 68 = .ok (.invokespecial 107, 3) := by decide +kernel
theorem dX7_refuse_71 : decode cX7_refuse 71 = .ok (.athrow, 1) := by decide +kernel
theorem dX7_refuse_72 : decode cX7_refuse 72 = .ok (.return_, 1) := by decide +kernel
theorem dX7_problemOf_0 : decode cX7_problemOf 0 = .ok (.iload_n 1, 1) := by decide +kernel
theorem dX7_problemOf_1 : decode cX7_problemOf 1 = .ok (.tableswitch 142 0 7 #[47, 58, 73, 83, 90, 99, 112, 125], 47) := by decide +kernel
theorem dX7_problemOf_48 : decode cX7_problemOf 48 = .ok (.aload_n 0, 1) := by decide +kernel
theorem dX7_problemOf_49 : decode cX7_problemOf 49 = .ok (.getfield 10, 3) := by decide +kernel
theorem dX7_problemOf_52 : decode cX7_problemOf 52 = .ok (.getfield 108, 3) := by decide +kernel
theorem dX7_problemOf_55 : decode cX7_problemOf 55 = .ok (.invokevirtual 112, 3) := by decide +kernel
theorem dX7_problemOf_58 : decode cX7_problemOf 58 = .ok (.ireturn, 1) := by decide +kernel
theorem dX7_problemOf_59 : decode cX7_problemOf 59 = .ok (.aload_n 0, 1) := by decide +kernel
theorem dX7_problemOf_60 : decode cX7_problemOf 60 = .ok (.getfield 10, 3) := by decide +kernel
theorem dX7_problemOf_63 : decode cX7_problemOf 63 = .ok (.getfield 108, 3) := by decide +kernel
theorem dX7_problemOf_66 : decode cX7_problemOf 66 = .ok (.iload_n 2, 1) := by decide +kernel
theorem dX7_problemOf_67 : decode cX7_problemOf 67 = .ok (.iload_n 3, 1) := by decide +kernel
theorem dX7_problemOf_68 : decode cX7_problemOf 68 = .ok (.iload 4, 2) := by decide +kernel
theorem dX7_problemOf_70 : decode cX7_problemOf 70 = .ok (.invokevirtual 118, 3) := by decide +kernel
theorem dX7_problemOf_73 : decode cX7_problemOf 73 = .ok (.ireturn, 1) := by decide +kernel
theorem dX7_problemOf_74 : decode cX7_problemOf 74 = .ok (.aload_n 0, 1) := by decide +kernel
theorem dX7_problemOf_75 : decode cX7_problemOf 75 = .ok (.getfield 10, 3) := by decide +kernel
theorem dX7_problemOf_78 : decode cX7_problemOf 78 = .ok (.iload_n 2, 1) := by decide +kernel
theorem dX7_problemOf_79 : decode cX7_problemOf 79 = .ok (.iload_n 3, 1) := by decide +kernel
theorem dX7_problemOf_80 : decode cX7_problemOf 80 = .ok (.invokevirtual 122, 3) := by decide +kernel
theorem dX7_problemOf_83 : decode cX7_problemOf 83 = .ok (.ireturn, 1) := by decide +kernel
theorem dX7_problemOf_84 : decode cX7_problemOf 84 = .ok (.aload_n 0, 1) := by decide +kernel
theorem dX7_problemOf_85 : decode cX7_problemOf 85 = .ok (.iload_n 2, 1) := by decide +kernel
theorem dX7_problemOf_86 : decode cX7_problemOf 86 = .ok (.iload_n 3, 1) := by decide +kernel
theorem dX7_problemOf_87 : decode cX7_problemOf 87 = .ok (.invokevirtual 126, 3) := by decide +kernel
theorem dX7_problemOf_90 : decode cX7_problemOf 90 = .ok (.ireturn, 1) := by decide +kernel
theorem dX7_problemOf_91 : decode cX7_problemOf 91 = .ok (.aload_n 0, 1) := by decide +kernel
theorem dX7_problemOf_92 : decode cX7_problemOf 92 = .ok (.getfield 10, 3) := by decide +kernel
theorem dX7_problemOf_95 : decode cX7_problemOf 95 = .ok (.iload_n 2, 1) := by decide +kernel
theorem dX7_problemOf_96 : decode cX7_problemOf 96 = .ok (.invokevirtual 129, 3) := by decide +kernel
theorem dX7_problemOf_99 : decode cX7_problemOf 99 = .ok (.ireturn, 1) := by decide +kernel
theorem dX7_problemOf_100 : decode cX7_problemOf 100 = .ok (.aload_n 0, 1) := by decide +kernel
theorem dX7_problemOf_101 : decode cX7_problemOf 101 = .ok (.getfield 10, 3) := by decide +kernel
theorem dX7_problemOf_104 : decode cX7_problemOf 104 = .ok (.getfield 108, 3) := by decide +kernel
theorem dX7_problemOf_107 : decode cX7_problemOf 107 = .ok (.iload_n 2, 1) := by decide +kernel
theorem dX7_problemOf_108 : decode cX7_problemOf 108 = .ok (.iconst 0, 1) := by decide +kernel
theorem dX7_problemOf_109 : decode cX7_problemOf 109 = .ok (.invokevirtual 133, 3) := by decide +kernel
theorem dX7_problemOf_112 : decode cX7_problemOf 112 = .ok (.ireturn, 1) := by decide +kernel
theorem dX7_problemOf_113 : decode cX7_problemOf 113 = .ok (.aload_n 0, 1) := by decide +kernel
theorem dX7_problemOf_114 : decode cX7_problemOf 114 = .ok (.getfield 10, 3) := by decide +kernel
theorem dX7_problemOf_117 : decode cX7_problemOf 117 = .ok (.getfield 108, 3) := by decide +kernel
theorem dX7_problemOf_120 : decode cX7_problemOf 120 = .ok (.iload_n 2, 1) := by decide +kernel
theorem dX7_problemOf_121 : decode cX7_problemOf 121 = .ok (.iconst 1, 1) := by decide +kernel
theorem dX7_problemOf_122 : decode cX7_problemOf 122 = .ok (.invokevirtual 133, 3) := by decide +kernel
theorem dX7_problemOf_125 : decode cX7_problemOf 125 = .ok (.ireturn, 1) := by decide +kernel
theorem dX7_problemOf_126 : decode cX7_problemOf 126 = .ok (.iload_n 2, 1) := by decide +kernel
theorem dX7_problemOf_127 : decode cX7_problemOf 127 = .ok (.iconst 1, 1) := by decide +kernel
theorem dX7_problemOf_128 : decode cX7_problemOf 128 = .ok (.if_icmp .lt 13, 3) := by decide +kernel
theorem dX7_problemOf_131 : decode cX7_problemOf 131 = .ok (.iload_n 2, 1) := by decide +kernel
theorem dX7_problemOf_132 : decode cX7_problemOf 132 = .ok (.bipush 60, 2) := by decide +kernel
theorem dX7_problemOf_134 : decode cX7_problemOf 134 = .ok (.if_icmp .gt 7, 3) := by decide +kernel
theorem dX7_problemOf_137 : decode cX7_problemOf 137 = .ok (.iconst 0, 1) := by decide +kernel
theorem dX7_problemOf_138 : decode cX7_problemOf 138 = .ok (.goto 4, 3) := by decide +kernel
theorem dX7_problemOf_141 : decode cX7_problemOf 141 = .ok (.iconst 2, 1) := by decide +kernel
theorem dX7_problemOf_142 : decode cX7_problemOf 142 = .ok (.ireturn, 1) := by decide +kernel
theorem dX7_problemOf_143 : decode cX7_problemOf 143 = .ok (.iconst 2, 1) := by decide +kernel
theorem dX7_problemOf_144 : decode cX7_problemOf 144 = .ok (.ireturn, 1) := by decide +kernel
theorem dX7_perform_0 : decode cX7_perform 0 = .ok (.iload_n 1, 1) := by decide +kernel
theorem dX7_perform_1 : decode cX7_perform 1 = .ok (.tableswitch 133 0 7 #[47, 58, 73, 83, 90, 106, 112, 124], 47) := by decide +kernel
theorem dX7_perform_48 : decode cX7_perform 48 = .ok (.aload_n 0, 1) := by decide +kernel
theorem dX7_perform_49 : decode cX7_perform 49 = .ok (.getfield 10, 3) := by decide +kernel
theorem dX7_perform_52 : decode cX7_perform 52 = .ok (.getfield 108, 3) := by decide +kernel
theorem dX7_perform_55 : decode cX7_perform 55 = .ok (.invokevirtual 137, 3) := by decide +kernel
theorem dX7_perform_58 : decode cX7_perform 58 = .ok (.ireturn, 1) := by decide +kernel
theorem dX7_perform_59 : decode cX7_perform 59 = .ok (.aload_n 0, 1) := by decide +kernel
theorem dX7_perform_60 : decode cX7_perform 60 = .ok (.getfield 10, 3) := by decide +kernel
theorem dX7_perform_63 : decode cX7_perform 63 = .ok (.getfield 108, 3) := by decide +kernel
theorem dX7_perform_66 : decode cX7_perform 66 = .ok (.iload_n 2, 1) := by decide +kernel
theorem dX7_perform_67 : decode cX7_perform 67 = .ok (.iload_n 3, 1) := by decide +kernel
theorem dX7_perform_68 : decode cX7_perform 68 = .ok (.iload 4, 2) := by decide +kernel
theorem dX7_perform_70 : decode cX7_perform 70 = .ok (.invokevirtual 140, 3) := by decide +kernel
theorem dX7_perform_73 : decode cX7_perform 73 = .ok (.ireturn, 1) := by decide +kernel
theorem dX7_perform_74 : decode cX7_perform 74 = .ok (.aload_n 0, 1) := by decide +kernel
theorem dX7_perform_75 : decode cX7_perform 75 = .ok (.getfield 10, 3) := by decide +kernel
theorem dX7_perform_78 : decode cX7_perform 78 = .ok (.iload_n 2, 1) := by decide +kernel
theorem dX7_perform_79 : decode cX7_perform 79 = .ok (.iload_n 3, 1) := by decide +kernel
theorem dX7_perform_80 : decode cX7_perform 80 = .ok (.invokevirtual 143, 3) := by decide +kernel
theorem dX7_perform_83 : decode cX7_perform 83 = .ok (.ireturn, 1) := by decide +kernel
theorem dX7_perform_84 : decode cX7_perform 84 = .ok (.aload_n 0, 1) := by decide +kernel
theorem dX7_perform_85 : decode cX7_perform 85 = .ok (.iload_n 2, 1) := by decide +kernel
theorem dX7_perform_86 : decode cX7_perform 86 = .ok (.iload_n 3, 1) := by decide +kernel
theorem dX7_perform_87 : decode cX7_perform 87 = .ok (.invokevirtual 146, 3) := by decide +kernel
theorem dX7_perform_90 : decode cX7_perform 90 = .ok (.ireturn, 1) := by decide +kernel
theorem dX7_perform_91 : decode cX7_perform 91 = .ok (.aload_n 0, 1) := by decide +kernel
theorem dX7_perform_92 : decode cX7_perform 92 = .ok (.getfield 10, 3) := by decide +kernel
theorem dX7_perform_95 : decode cX7_perform 95 = .ok (.aload_n 0, 1) := by decide +kernel
theorem dX7_perform_96 : decode cX7_perform 96 = .ok (.getfield 10, 3) := by decide +kernel
theorem dX7_perform_99 : decode cX7_perform 99 = .ok (.iload_n 2, 1) := by decide +kernel
theorem dX7_perform_100 : decode cX7_perform 100 = .ok (.invokevirtual 149, 3) := by decide +kernel
theorem dX7_perform_103 : decode cX7_perform 103 = .ok (.invokevirtual 152, 3) := by decide +kernel
theorem dX7_perform_106 : decode cX7_perform 106 = .ok (.ireturn, 1) := by decide +kernel
theorem dX7_perform_107 : decode cX7_perform 107 = .ok (.aload_n 0, 1) := by decide +kernel
theorem dX7_perform_108 : decode cX7_perform 108 = .ok (.iload_n 2, 1) := by decide +kernel
theorem dX7_perform_109 : decode cX7_perform 109 = .ok (.invokevirtual 155, 3) := by decide +kernel
theorem dX7_perform_112 : decode cX7_perform 112 = .ok (.ireturn, 1) := by decide +kernel
theorem dX7_perform_113 : decode cX7_perform 113 = .ok (.aload_n 0, 1) := by decide +kernel
theorem dX7_perform_114 : decode cX7_perform 114 = .ok (.getfield 10, 3) := by decide +kernel
theorem dX7_perform_117 : decode cX7_perform 117 = .ok (.getfield 108, 3) := by decide +kernel
theorem dX7_perform_120 : decode cX7_perform 120 = .ok (.iload_n 2, 1) := by decide +kernel
theorem dX7_perform_121 : decode cX7_perform 121 = .ok (.invokevirtual 158, 3) := by decide +kernel
theorem dX7_perform_124 : decode cX7_perform 124 = .ok (.ireturn, 1) := by decide +kernel
theorem dX7_perform_125 : decode cX7_perform 125 = .ok (.aload_n 0, 1) := by decide +kernel
theorem dX7_perform_126 : decode cX7_perform 126 = .ok (.getfield 10, 3) := by decide +kernel
theorem dX7_perform_129 : decode cX7_perform 129 = .ok (.iload_n 2, 1) := by decide +kernel
theorem dX7_perform_130 : decode cX7_perform 130 = .ok (.invokevirtual 161, 3) := by decide +kernel
theorem dX7_perform_133 : decode cX7_perform 133 = .ok (.ireturn, 1) := by decide +kernel
theorem dX7_perform_134 : decode cX7_perform 134 = .ok (.iconst 0, 1) := by decide +kernel
theorem dX7_perform_135 : decode cX7_perform 135 = .ok (.ireturn, 1) := by decide +kernel
theorem dX7_callProblem_0 : decode cX7_callProblem 0 = .ok (.aload_n 0, 1) := by decide +kernel
theorem dX7_callProblem_1 : decode cX7_callProblem 1 = .ok (.getfield 10, 3) := by decide +kernel
theorem dX7_callProblem_4 : decode cX7_callProblem 4 = .ok (.iload_n 1, 1) := by decide +kernel
theorem dX7_callProblem_5 : decode cX7_callProblem 5 = .ok (.invokevirtual 164, 3) := by decide +kernel
theorem dX7_callProblem_8 : decode cX7_callProblem 8 = .ok (.ifCond .eq 14, 3) := by decide +kernel
theorem dX7_callProblem_11 : decode cX7_callProblem 11 = .ok (.aload_n 0, 1) := by decide +kernel
theorem dX7_callProblem_12 : decode cX7_callProblem 12 = .ok (.getfield 10, 3) := by decide +kernel
theorem dX7_callProblem_15 : decode cX7_callProblem 15 = .ok (.iload_n 2, 1) := by decide +kernel
theorem dX7_callProblem_16 : decode cX7_callProblem 16 = .ok (.invokevirtual 164, 3) := by decide +kernel
theorem dX7_callProblem_19 : decode cX7_callProblem 19 = .ok (.ifCond .ne 5, 3) := by decide +kernel
theorem dX7_callProblem_22 : decode cX7_callProblem 22 = .ok (.iconst 1, 1) := by decide +kernel
theorem dX7_callProblem_23 : decode cX7_callProblem 23 = .ok (.ireturn, 1) := by decide +kernel
theorem dX7_callProblem_24 : decode cX7_callProblem 24 = .ok (.iload_n 1, 1) := by decide +kernel
theorem dX7_callProblem_25 : decode cX7_callProblem 25 = .ok (.iload_n 2, 1) := by decide +kernel
theorem dX7_callProblem_26 : decode cX7_callProblem 26 = .ok (.if_icmp .ne 5, 3) := by decide +kernel
theorem dX7_callProblem_29 : decode cX7_callProblem 29 = .ok (.iconst 2, 1) := by decide +kernel
theorem dX7_callProblem_30 : decode cX7_callProblem 30 = .ok (.ireturn, 1) := by decide +kernel
theorem dX7_callProblem_31 : decode cX7_callProblem 31 = .ok (.aload_n 0, 1) := by decide +kernel
theorem dX7_callProblem_32 : decode cX7_callProblem 32 = .ok (.getfield 10, 3) := by decide +kernel
theorem dX7_callProblem_35 : decode cX7_callProblem 35 = .ok (.iload_n 1, 1) := by decide +kernel
theorem dX7_callProblem_36 : decode cX7_callProblem 36 = .ok (.invokevirtual 149, 3) := by decide +kernel
theorem dX7_callProblem_39 : decode cX7_callProblem 39 = .ok (.iconst (-1), 1) := by decide +kernel
theorem dX7_callProblem_40 : decode cX7_callProblem 40 = .ok (.if_icmp .ne 15, 3) := by decide +kernel
theorem dX7_callProblem_43 : decode cX7_callProblem 43 = .ok (.aload_n 0, 1) := by decide +kernel
theorem dX7_callProblem_44 : decode cX7_callProblem 44 = .ok (.getfield 10, 3) := by decide +kernel
theorem dX7_callProblem_47 : decode cX7_callProblem 47 = .ok (.iload_n 2, 1) := by decide +kernel
theorem dX7_callProblem_48 : decode cX7_callProblem 48 = .ok (.invokevirtual 149, 3) := by decide +kernel
theorem dX7_callProblem_51 : decode cX7_callProblem 51 = .ok (.iconst (-1), 1) := by decide +kernel
theorem dX7_callProblem_52 : decode cX7_callProblem 52 = .ok (.if_icmp .eq 16, 3) := by decide +kernel
theorem dX7_callProblem_55 : decode cX7_callProblem 55 = .ok (.aload_n 0, 1) := by decide +kernel
theorem dX7_callProblem_56 : decode cX7_callProblem 56 = .ok (.getfield 32, 3) := by decide +kernel
theorem dX7_callProblem_59 : decode cX7_callProblem 59 = .ok (.iload_n 1, 1) := by decide +kernel
theorem dX7_callProblem_60 : decode cX7_callProblem 60 = .ok (.iload_n 2, 1) := by decide +kernel
theorem dX7_callProblem_61 : decode cX7_callProblem 61 = .ok (.bipush 98, 2) := by decide +kernel
theorem dX7_callProblem_63 : decode cX7_callProblem 63 = .ok (.invokevirtual 168, 3) := by decide +kernel
theorem dX7_callProblem_66 : decode cX7_callProblem 66 = .ok (.iconst 3, 1) := by decide +kernel
theorem dX7_callProblem_67 : decode cX7_callProblem 67 = .ok (.ireturn, 1) := by decide +kernel
theorem dX7_callProblem_68 : decode cX7_callProblem 68 = .ok (.aload_n 0, 1) := by decide +kernel
theorem dX7_callProblem_69 : decode cX7_callProblem 69 = .ok (.getfield 46, 3) := by decide +kernel
theorem dX7_callProblem_72 : decode cX7_callProblem 72 = .ok (.aload_n 0, 1) := by decide +kernel
theorem dX7_callProblem_73 : decode cX7_callProblem 73 = .ok (.getfield 10, 3) := by decide +kernel
theorem dX7_callProblem_76 : decode cX7_callProblem 76 = .ok (.getfield 108, 3) := by decide +kernel
theorem dX7_callProblem_79 : decode cX7_callProblem 79 = .ok (.aload_n 0, 1) := by decide +kernel
theorem dX7_callProblem_80 : decode cX7_callProblem 80 = .ok (.getfield 10, 3) := by decide +kernel
theorem dX7_callProblem_83 : decode cX7_callProblem 83 = .ok (.invokevirtual 172, 3) := by decide +kernel
theorem dX7_callProblem_86 : decode cX7_callProblem 86 = .ok (.aload_n 0, 1) := by decide +kernel
theorem dX7_callProblem_87 : decode cX7_callProblem 87 = .ok (.getfield 10, 3) := by decide +kernel
theorem dX7_callProblem_90 : decode cX7_callProblem 90 = .ok (.iload_n 1, 1) := by decide +kernel
theorem dX7_callProblem_91 : decode cX7_callProblem 91 = .ok (.invokevirtual 175, 3) := by decide +kernel
theorem dX7_callProblem_94 : decode cX7_callProblem 94 = .ok (.aload_n 0, 1) := by decide +kernel
theorem dX7_callProblem_95 : decode cX7_callProblem 95 = .ok (.getfield 10, 3) := by decide +kernel
theorem dX7_callProblem_98 : decode cX7_callProblem 98 = .ok (.iload_n 2, 1) := by decide +kernel
theorem dX7_callProblem_99 : decode cX7_callProblem 99 = .ok (.invokevirtual 175, 3) := by decide +kernel
theorem dX7_callProblem_102 : decode cX7_callProblem 102 = .ok (.invokevirtual 178, 3) := by decide +kernel
theorem dX7_callProblem_105 : decode cX7_callProblem 105 = .ok (.ifCond .ne 16, 3) := by decide +kernel
theorem dX7_callProblem_108 : decode cX7_callProblem 108 = .ok (.aload_n 0, 1) := by decide +kernel
theorem dX7_callProblem_109 : decode cX7_callProblem 109 = .ok (.getfield 32, 3) := by decide +kernel
theorem dX7_callProblem_112 : decode cX7_callProblem 112 = .ok (.iload_n 1, 1) := by decide +kernel
theorem dX7_callProblem_113 : decode cX7_callProblem 113 = .ok (.iload_n 2, 1) := by decide +kernel
theorem dX7_callProblem_114 : decode cX7_callProblem 114 = .ok (.bipush 114, 2) := by decide +kernel
theorem dX7_callProblem_116 : decode cX7_callProblem 116 = .ok (.invokevirtual 168, 3) := by decide +kernel
theorem dX7_callProblem_119 : decode cX7_callProblem 119 = .ok (.iconst 4, 1) := by decide +kernel
theorem dX7_callProblem_120 : decode cX7_callProblem 120 = .ok (.ireturn, 1) := by decide +kernel
theorem dX7_callProblem_121 : decode cX7_callProblem 121 = .ok (.iconst 0, 1) := by decide +kernel
theorem dX7_callProblem_122 : decode cX7_callProblem 122 = .ok (.ireturn, 1) := by decide +kernel
theorem dX7_startCall_0 : decode cX7_startCall 0 = .ok (.aload_n 0, 1) := by decide +kernel
theorem dX7_startCall_1 : decode cX7_startCall 1 = .ok (.getfield 46, 3) := by decide +kernel
theorem dX7_startCall_4 : decode cX7_startCall 4 = .ok (.aload_n 0, 1) := by decide +kernel
theorem dX7_startCall_5 : decode cX7_startCall 5 = .ok (.getfield 10, 3) := by decide +kernel
theorem dX7_startCall_8 : decode cX7_startCall 8 = .ok (.getfield 108, 3) := by decide +kernel
theorem dX7_startCall_11 : decode cX7_startCall 11 = .ok (.aload_n 0, 1) := by decide +kernel
theorem dX7_startCall_12 : decode cX7_startCall 12 = .ok (.getfield 10, 3) := by decide +kernel
theorem dX7_startCall_15 : decode cX7_startCall 15 = .ok (.invokevirtual 172, 3) := by decide +kernel
theorem dX7_startCall_18 : decode cX7_startCall 18 = .ok (.aload_n 0, 1) := by decide +kernel
theorem dX7_startCall_19 : decode cX7_startCall 19 = .ok (.getfield 10, 3) := by decide +kernel
theorem dX7_startCall_22 : decode cX7_startCall 22 = .ok (.iload_n 1, 1) := by decide +kernel
theorem dX7_startCall_23 : decode cX7_startCall 23 = .ok (.invokevirtual 175, 3) := by decide +kernel
theorem dX7_startCall_26 : decode cX7_startCall 26 = .ok (.aload_n 0, 1) := by decide +kernel
theorem dX7_startCall_27 : decode cX7_startCall 27 = .ok (.getfield 10, 3) := by decide +kernel
theorem dX7_startCall_30 : decode cX7_startCall 30 = .ok (.iload_n 2, 1) := by decide +kernel
theorem dX7_startCall_31 : decode cX7_startCall 31 = .ok (.invokevirtual 175, 3) := by decide +kernel
theorem dX7_startCall_34 : decode cX7_startCall 34 = .ok (.invokevirtual 178, 3) := by decide +kernel
theorem dX7_startCall_37 : decode cX7_startCall 37 = .ok (.pop, 1) := by decide +kernel
theorem dX7_startCall_38 : decode cX7_startCall 38 = .ok (.aload_n 0, 1) := by decide +kernel
theorem dX7_startCall_39 : decode cX7_startCall 39 = .ok (.getfield 10, 3) := by decide +kernel
theorem dX7_startCall_42 : decode cX7_startCall 42 = .ok (.iload_n 1, 1) := by decide +kernel
theorem dX7_startCall_43 : decode cX7_startCall 43 = .ok (.iload_n 2, 1) := by decide +kernel
theorem dX7_startCall_44 : decode cX7_startCall 44 = .ok (.aload_n 0, 1) := by decide +kernel
theorem dX7_startCall_45 : decode cX7_startCall 45 = .ok (.getfield 46, 3) := by decide +kernel
theorem dX7_startCall_48 : decode cX7_startCall 48 = .ok (.invokevirtual 182, 3) := by decide +kernel
theorem dX7_startCall_51 : decode cX7_startCall 51 = .ok (.ireturn, 1) := by decide +kernel
theorem dX7_severTrunk_0 : decode cX7_severTrunk 0 = .ok (.aload_n 0, 1) := by decide +kernel
theorem dX7_severTrunk_1 : decode cX7_severTrunk 1 = .ok (.getfield 10, 3) := by decide +kernel
theorem dX7_severTrunk_4 : decode cX7_severTrunk 4 = .ok (.getfield 108, 3) := by decide +kernel
theorem dX7_severTrunk_7 : decode cX7_severTrunk 7 = .ok (.dup, 1) := by decide +kernel
theorem dX7_severTrunk_8 : decode cX7_severTrunk 8 = .ok (.getfield 186, 3) := by decide +kernel
theorem dX7_severTrunk_11 : decode cX7_severTrunk 11 = .ok (.iload_n 1, 1) := by decide +kernel
theorem dX7_severTrunk_12 : decode cX7_severTrunk 12 = .ok (.invokestatic 189, 3) := by decide +kernel
theorem dX7_severTrunk_15 : decode cX7_severTrunk 15 = .ok (.ior, 1) := by decide +kernel
theorem dX7_severTrunk_16 : decode cX7_severTrunk 16 = .ok (.putfield 186, 3) := by decide +kernel
theorem dX7_severTrunk_19 : decode cX7_severTrunk 19 = .ok (.aload_n 0, 1) := by decide +kernel
theorem dX7_severTrunk_20 : decode cX7_severTrunk 20 = .ok (.getfield 10, 3) := by decide +kernel
theorem dX7_severTrunk_23 : decode cX7_severTrunk 23 = .ok (.iload_n 1, 1) := by decide +kernel
theorem dX7_severTrunk_24 : decode cX7_severTrunk 24 = .ok (.invokevirtual 192, 3) := by decide +kernel
theorem dX7_severTrunk_27 : decode cX7_severTrunk 27 = .ok (.istore_n 2, 1) := by decide +kernel
theorem dX7_severTrunk_28 : decode cX7_severTrunk 28 = .ok (.iload_n 2, 1) := by decide +kernel
theorem dX7_severTrunk_29 : decode cX7_severTrunk 29 = .ok (.iconst (-1), 1) := by decide +kernel
theorem dX7_severTrunk_30 : decode cX7_severTrunk 30 = .ok (.if_icmp .ne 5, 3) := by decide +kernel
theorem dX7_severTrunk_33 : decode cX7_severTrunk 33 = .ok (.iconst 0, 1) := by decide +kernel
theorem dX7_severTrunk_34 : decode cX7_severTrunk 34 = .ok (.ireturn, 1) := by decide +kernel
theorem dX7_severTrunk_35 : decode cX7_severTrunk 35 = .ok (.aload_n 0, 1) := by decide +kernel
theorem dX7_severTrunk_36 : decode cX7_severTrunk 36 = .ok (.getfield 10, 3) := by decide +kernel
theorem dX7_severTrunk_39 : decode cX7_severTrunk 39 = .ok (.getfield 195, 3) := by decide +kernel
theorem dX7_severTrunk_42 : decode cX7_severTrunk 42 = .ok (.iload_n 2, 1) := by decide +kernel
theorem dX7_severTrunk_43 : decode cX7_severTrunk 43 = .ok (.aaload, 1) := by decide +kernel
theorem dX7_severTrunk_44 : decode cX7_severTrunk 44 = .ok (.astore_n 3, 1) := by decide +kernel
theorem dX7_severTrunk_45 : decode cX7_severTrunk 45 = .ok (.aload_n 0, 1) := by decide +kernel
theorem dX7_severTrunk_46 : decode cX7_severTrunk 46 = .ok (.getfield 10, 3) := by decide +kernel
theorem dX7_severTrunk_49 : decode cX7_severTrunk 49 = .ok (.invokevirtual 172, 3) := by decide +kernel
theorem dX7_severTrunk_52 : decode cX7_severTrunk 52 = .ok (.aload_n 3, 1) := by decide +kernel
theorem dX7_severTrunk_53 : decode cX7_severTrunk 53 = .ok (.invokevirtual 199, 3) := by decide +kernel
theorem dX7_severTrunk_56 : decode cX7_severTrunk 56 = .ok (.ior, 1) := by decide +kernel
theorem dX7_severTrunk_57 : decode cX7_severTrunk 57 = .ok (.iload_n 1, 1) := by decide +kernel
theorem dX7_severTrunk_58 : decode cX7_severTrunk 58 = .ok (.invokestatic 189, 3) := by decide +kernel
theorem dX7_severTrunk_61 : decode cX7_severTrunk 61 = .ok (.iconst (-1), 1) := by decide +kernel
theorem dX7_severTrunk_62 : decode cX7_severTrunk 62 = .ok (.ixor, 1) := by decide +kernel
theorem dX7_severTrunk_63 : decode cX7_severTrunk 63 = .ok (.iand, 1) := by decide +kernel
theorem dX7_severTrunk_64 : decode cX7_severTrunk 64 = .ok (.istore 4, 2) := by decide +kernel
theorem dX7_severTrunk_66 : decode cX7_severTrunk 66 = .ok (.aload_n 0, 1) := by decide +kernel
theorem dX7_severTrunk_67 : decode cX7_severTrunk 67 = .ok (.getfield 46, 3) := by decide +kernel
theorem dX7_severTrunk_70 : decode cX7_severTrunk 70 = .ok (.aload_n 0, 1) := by decide +kernel
theorem dX7_severTrunk_71 : decode cX7_severTrunk 71 = .ok (.getfield 10, 3) := by decide +kernel
theorem dX7_severTrunk_74 : decode cX7_severTrunk 74 = .ok (.getfield 108, 3) := by decide +kernel
theorem dX7_severTrunk_77 : decode cX7_severTrunk 77 = .ok (.iload 4, 2) := by decide +kernel
theorem dX7_severTrunk_79 : decode cX7_severTrunk 79 = .ok (.aload_n 0, 1) := by decide +kernel
theorem dX7_severTrunk_80 : decode cX7_severTrunk 80 = .ok (.getfield 10, 3) := by decide +kernel
theorem dX7_severTrunk_83 : decode cX7_severTrunk 83 = .ok (.aload_n 3, 1) := by decide +kernel
theorem dX7_severTrunk_84 : decode cX7_severTrunk 84 = .ok (.getfield 204, 3) := by decide +kernel
theorem dX7_severTrunk_87 : decode cX7_severTrunk 87 = .ok (.invokevirtual 175, 3) := by decide +kernel
theorem dX7_severTrunk_90 : decode cX7_severTrunk 90 = .ok (.aload_n 0, 1) := by decide +kernel
theorem dX7_severTrunk_91 : decode cX7_severTrunk 91 = .ok (.getfield 10, 3) := by decide +kernel
theorem dX7_severTrunk_94 : decode cX7_severTrunk 94 = .ok (.aload_n 3, 1) := by decide +kernel
theorem dX7_severTrunk_95 : decode cX7_severTrunk 95 = .ok (.getfield 207, 3) := by decide +kernel
theorem dX7_severTrunk_98 : decode cX7_severTrunk 98 = .ok (.invokevirtual 175, 3) := by decide +kernel
theorem dX7_severTrunk_101 : decode cX7_severTrunk 101 = .ok (.invokevirtual 178, 3) := by decide +kernel
theorem dX7_severTrunk_104 : decode cX7_severTrunk 104 = .ok (.ifCond .eq 13, 3) := by decide +kernel
theorem dX7_severTrunk_107 : decode cX7_severTrunk 107 = .ok (.aload_n 3, 1) := by decide +kernel
theorem dX7_severTrunk_108 : decode cX7_severTrunk 108 = .ok (.aload_n 0, 1) := by decide +kernel
theorem dX7_severTrunk_109 : decode cX7_severTrunk 109 = .ok (.getfield 46, 3) := by decide +kernel
theorem dX7_severTrunk_112 : decode cX7_severTrunk 112 = .ok (.invokevirtual 210, 3) := by decide +kernel
theorem dX7_severTrunk_115 : decode cX7_severTrunk 115 = .ok (.iconst 0, 1) := by decide +kernel
theorem dX7_severTrunk_116 : decode cX7_severTrunk 116 = .ok (.ireturn, 1) := by decide +kernel
theorem dX7_severTrunk_117 : decode cX7_severTrunk 117 = .ok (.aload_n 0, 1) := by decide +kernel
theorem dX7_severTrunk_118 : decode cX7_severTrunk 118 = .ok (.getfield 10, 3) := by decide +kernel
theorem dX7_severTrunk_121 : decode cX7_severTrunk 121 = .ok (.iload_n 2, 1) := by decide +kernel
theorem dX7_severTrunk_122 : decode cX7_severTrunk 122 = .ok (.invokevirtual 152, 3) := by decide +kernel
theorem dX7_severTrunk_125 : decode cX7_severTrunk 125 = .ok (.pop, 1) := by decide +kernel
theorem dX7_severTrunk_126 : decode cX7_severTrunk 126 = .ok (.iconst 1, 1) := by decide +kernel
theorem dX7_severTrunk_127 : decode cX7_severTrunk 127 = .ok (.ireturn, 1) := by decide +kernel
theorem dX7_switches_0 : decode cX7_switches 0 = .ok (.aload_n 0, 1) := by decide +kernel
theorem dX7_switches_1 : decode cX7_switches 1 = .ok (.getfield 10, 3) := by decide +kernel
theorem dX7_switches_4 : decode cX7_switches 4 = .ok (.getfield 108, 3) := by decide +kernel
theorem dX7_switches_7 : decode cX7_switches 7 = .ok (.getfield 214, 3) := by decide +kernel
theorem dX7_switches_10 : decode cX7_switches 10 = .ok (.ireturn, 1) := by decide +kernel
theorem dX7_trunks_0 : decode cX7_trunks 0 = .ok (.aload_n 0, 1) := by decide +kernel
theorem dX7_trunks_1 : decode cX7_trunks 1 = .ok (.getfield 10, 3) := by decide +kernel
theorem dX7_trunks_4 : decode cX7_trunks 4 = .ok (.getfield 108, 3) := by decide +kernel
theorem dX7_trunks_7 : decode cX7_trunks 7 = .ok (.getfield 217, 3) := by decide +kernel
theorem dX7_trunks_10 : decode cX7_trunks 10 = .ok (.ireturn, 1) := by decide +kernel
theorem dX7_trunkLength_0 : decode cX7_trunkLength 0 = .ok (.aload_n 0, 1) := by decide +kernel
theorem dX7_trunkLength_1 : decode cX7_trunkLength 1 = .ok (.iload_n 1, 1) := by decide +kernel
theorem dX7_trunkLength_2 : decode cX7_trunkLength 2 = .ok (.invokevirtual 220, 3) := by decide +kernel
theorem dX7_trunkLength_5 : decode cX7_trunkLength 5 = .ok (.aload_n 0, 1) := by decide +kernel
theorem dX7_trunkLength_6 : decode cX7_trunkLength 6 = .ok (.getfield 10, 3) := by decide +kernel
theorem dX7_trunkLength_9 : decode cX7_trunkLength 9 = .ok (.getfield 108, 3) := by decide +kernel
theorem dX7_trunkLength_12 : decode cX7_trunkLength 12 = .ok (.getfield 223, 3) := by decide +kernel
theorem dX7_trunkLength_15 : decode cX7_trunkLength 15 = .ok (.iload_n 1, 1) := by decide +kernel
theorem dX7_trunkLength_16 : decode cX7_trunkLength 16 = .ok (.iaload, 1) := by decide +kernel
theorem dX7_trunkLength_17 : decode cX7_trunkLength 17 = .ok (.ireturn, 1) := by decide +kernel
theorem dX7_otherEnd_0 : decode cX7_otherEnd 0 = .ok (.aload_n 0, 1) := by decide +kernel
theorem dX7_otherEnd_1 : decode cX7_otherEnd 1 = .ok (.iload_n 1, 1) := by decide +kernel
theorem dX7_otherEnd_2 : decode cX7_otherEnd 2 = .ok (.invokevirtual 220, 3) := by decide +kernel
theorem dX7_otherEnd_5 : decode cX7_otherEnd 5 = .ok (.aload_n 0, 1) := by decide +kernel
theorem dX7_otherEnd_6 : decode cX7_otherEnd 6 = .ok (.getfield 10, 3) := by decide +kernel
theorem dX7_otherEnd_9 : decode cX7_otherEnd 9 = .ok (.getfield 108, 3) := by decide +kernel
theorem dX7_otherEnd_12 : decode cX7_otherEnd 12 = .ok (.iload_n 1, 1) := by decide +kernel
theorem dX7_otherEnd_13 : decode cX7_otherEnd 13 = .ok (.iload_n 2, 1) := by decide +kernel
theorem dX7_otherEnd_14 : decode cX7_otherEnd 14 = .ok (.invokevirtual 227, 3) := by decide +kernel
theorem dX7_otherEnd_17 : decode cX7_otherEnd 17 = .ok (.istore_n 3, 1) := by decide +kernel
theorem dX7_otherEnd_18 : decode cX7_otherEnd 18 = .ok (.iload_n 3, 1) := by decide +kernel
theorem dX7_otherEnd_19 : decode cX7_otherEnd 19 = .ok (.iconst (-1), 1) := by decide +kernel
theorem dX7_otherEnd_20 : decode cX7_otherEnd 20 = .ok (.if_icmp .ne 13, 3) := by decide +kernel
theorem dX7_otherEnd_23 : decode cX7_otherEnd 23 = .ok (.new 93, 3) := by decide +kernel
theorem dX7_otherEnd_26 : decode cX7_otherEnd 26 = .ok (.dup, 1) := by decide +kernel
theorem dX7_otherEnd_27 : decode cX7_otherEnd 27 = .ok (.ldc 230, 2) := by decide +kernel
theorem dX7_otherEnd_29 : decode cX7_otherEnd 29 = .ok (.invokespecial 97, 3) := by decide +kernel
theorem dX7_otherEnd_32 : decode cX7_otherEnd 32 = .ok (.athrow, 1) := by decide +kernel
theorem dX7_otherEnd_33 : decode cX7_otherEnd 33 = .ok (.iload_n 3, 1) := by decide +kernel
theorem dX7_otherEnd_34 : decode cX7_otherEnd 34 = .ok (.ireturn, 1) := by decide +kernel
theorem dX7_isCut_0 : decode cX7_isCut 0 = .ok (.aload_n 0, 1) := by decide +kernel
theorem dX7_isCut_1 : decode cX7_isCut 1 = .ok (.iload_n 1, 1) := by decide +kernel
theorem dX7_isCut_2 : decode cX7_isCut 2 = .ok (.invokevirtual 220, 3) := by decide +kernel
theorem dX7_isCut_5 : decode cX7_isCut 5 = .ok (.aload_n 0, 1) := by decide +kernel
theorem dX7_isCut_6 : decode cX7_isCut 6 = .ok (.getfield 10, 3) := by decide +kernel
theorem dX7_isCut_9 : decode cX7_isCut 9 = .ok (.getfield 108, 3) := by decide +kernel
theorem dX7_isCut_12 : decode cX7_isCut 12 = .ok (.getfield 186, 3) := by decide +kernel
theorem dX7_isCut_15 : decode cX7_isCut 15 = .ok (.iload_n 1, 1) := by decide +kernel
theorem dX7_isCut_16 : decode cX7_isCut 16 = .ok (.invokestatic 232, 3) := by decide +kernel
theorem dX7_isCut_19 : decode cX7_isCut 19 = .ok (.ireturn, 1) := by decide +kernel
theorem dX7_userOf_0 : decode cX7_userOf 0 = .ok (.aload_n 0, 1) := by decide +kernel
theorem dX7_userOf_1 : decode cX7_userOf 1 = .ok (.iload_n 1, 1) := by decide +kernel
theorem dX7_userOf_2 : decode cX7_userOf 2 = .ok (.invokevirtual 220, 3) := by decide +kernel
theorem dX7_userOf_5 : decode cX7_userOf 5 = .ok (.aload_n 0, 1) := by decide +kernel
theorem dX7_userOf_6 : decode cX7_userOf 6 = .ok (.getfield 10, 3) := by decide +kernel
theorem dX7_userOf_9 : decode cX7_userOf 9 = .ok (.iload_n 1, 1) := by decide +kernel
theorem dX7_userOf_10 : decode cX7_userOf 10 = .ok (.invokevirtual 192, 3) := by decide +kernel
theorem dX7_userOf_13 : decode cX7_userOf 13 = .ok (.istore_n 2, 1) := by decide +kernel
theorem dX7_userOf_14 : decode cX7_userOf 14 = .ok (.iload_n 2, 1) := by decide +kernel
theorem dX7_userOf_15 : decode cX7_userOf 15 = .ok (.iconst (-1), 1) := by decide +kernel
theorem dX7_userOf_16 : decode cX7_userOf 16 = .ok (.if_icmp .ne 13, 3) := by decide +kernel
theorem dX7_userOf_19 : decode cX7_userOf 19 = .ok (.new 236, 3) := by decide +kernel
theorem dX7_userOf_22 : decode cX7_userOf 22 = .ok (.dup, 1) := by decide +kernel
theorem dX7_userOf_23 : decode cX7_userOf 23 = .ok (.ldc 238, 2) := by decide +kernel
theorem dX7_userOf_25 : decode cX7_userOf 25 = .ok (.invokespecial 240, 3) := by decide +kernel
theorem dX7_userOf_28 : decode cX7_userOf 28 = .ok (.athrow, 1) := by decide +kernel
theorem dX7_userOf_29 : decode cX7_userOf 29 = .ok (.aload_n 0, 1) := by decide +kernel
theorem dX7_userOf_30 : decode cX7_userOf 30 = .ok (.getfield 10, 3) := by decide +kernel
theorem dX7_userOf_33 : decode cX7_userOf 33 = .ok (.getfield 195, 3) := by decide +kernel
theorem dX7_userOf_36 : decode cX7_userOf 36 = .ok (.iload_n 2, 1) := by decide +kernel
theorem dX7_userOf_37 : decode cX7_userOf 37 = .ok (.aaload, 1) := by decide +kernel
theorem dX7_userOf_38 : decode cX7_userOf 38 = .ok (.getfield 204, 3) := by decide +kernel
theorem dX7_userOf_41 : decode cX7_userOf 41 = .ok (.ireturn, 1) := by decide +kernel
theorem dX7_minutesOn_0 : decode cX7_minutesOn 0 = .ok (.aload_n 0, 1) := by decide +kernel
theorem dX7_minutesOn_1 : decode cX7_minutesOn 1 = .ok (.iload_n 1, 1) := by decide +kernel
theorem dX7_minutesOn_2 : decode cX7_minutesOn 2 = .ok (.invokevirtual 220, 3) := by decide +kernel
theorem dX7_minutesOn_5 : decode cX7_minutesOn 5 = .ok (.aload_n 0, 1) := by decide +kernel
theorem dX7_minutesOn_6 : decode cX7_minutesOn 6 = .ok (.getfield 10, 3) := by decide +kernel
theorem dX7_minutesOn_9 : decode cX7_minutesOn 9 = .ok (.getfield 108, 3) := by decide +kernel
theorem dX7_minutesOn_12 : decode cX7_minutesOn 12 = .ok (.getfield 241, 3) := by decide +kernel
theorem dX7_minutesOn_15 : decode cX7_minutesOn 15 = .ok (.iload_n 1, 1) := by decide +kernel
theorem dX7_minutesOn_16 : decode cX7_minutesOn 16 = .ok (.iaload, 1) := by decide +kernel
theorem dX7_minutesOn_17 : decode cX7_minutesOn 17 = .ok (.ireturn, 1) := by decide +kernel
theorem dX7_needTrunk_0 : decode cX7_needTrunk 0 = .ok (.aload_n 0, 1) := by decide +kernel
theorem dX7_needTrunk_1 : decode cX7_needTrunk 1 = .ok (.getfield 10, 3) := by decide +kernel
theorem dX7_needTrunk_4 : decode cX7_needTrunk 4 = .ok (.getfield 108, 3) := by decide +kernel
theorem dX7_needTrunk_7 : decode cX7_needTrunk 7 = .ok (.iload_n 1, 1) := by decide +kernel
theorem dX7_needTrunk_8 : decode cX7_needTrunk 8 = .ok (.invokevirtual 244, 3) := by decide +kernel
theorem dX7_needTrunk_11 : decode cX7_needTrunk 11 = .ok (.ifCond .ne 13, 3) := by decide +kernel
theorem dX7_needTrunk_14 : decode cX7_needTrunk 14 = .ok (.new 86, 3) := by decide +kernel
theorem dX7_needTrunk_17 : decode cX7_needTrunk 17 = .ok (.dup, 1) := by decide +kernel
theorem dX7_needTrunk_18 : decode cX7_needTrunk 18 = .ok (.ldc 247, 2) := by decide +kernel
theorem dX7_needTrunk_20 : decode cX7_needTrunk 20 = .ok (.invokespecial 90, 3) := by decide +kernel
theorem dX7_needTrunk_23 : decode cX7_needTrunk 23 = .ok (.athrow, 1) := by decide +kernel
theorem dX7_needTrunk_24 : decode cX7_needTrunk 24 = .ok (.return_, 1) := by decide +kernel
theorem dX7_routeLength_0 : decode cX7_routeLength 0 = .ok (.aload_n 0, 1) := by decide +kernel
theorem dX7_routeLength_1 : decode cX7_routeLength 1 = .ok (.iload_n 1, 1) := by decide +kernel
theorem dX7_routeLength_2 : decode cX7_routeLength 2 = .ok (.iload_n 2, 1) := by decide +kernel
theorem dX7_routeLength_3 : decode cX7_routeLength 3 = .ok (.invokevirtual 249, 3) := by decide +kernel
theorem dX7_routeLength_6 : decode cX7_routeLength 6 = .ok (.aload_n 0, 1) := by decide +kernel
theorem dX7_routeLength_7 : decode cX7_routeLength 7 = .ok (.getfield 46, 3) := by decide +kernel
theorem dX7_routeLength_10 : decode cX7_routeLength 10 = .ok (.aload_n 0, 1) := by decide +kernel
theorem dX7_routeLength_11 : decode cX7_routeLength 11 = .ok (.getfield 10, 3) := by decide +kernel
theorem dX7_routeLength_14 : decode cX7_routeLength 14 = .ok (.getfield 108, 3) := by decide +kernel
theorem dX7_routeLength_17 : decode cX7_routeLength 17 = .ok (.aload_n 0, 1) := by decide +kernel
theorem dX7_routeLength_18 : decode cX7_routeLength 18 = .ok (.getfield 10, 3) := by decide +kernel
theorem dX7_routeLength_21 : decode cX7_routeLength 21 = .ok (.invokevirtual 172, 3) := by decide +kernel
theorem dX7_routeLength_24 : decode cX7_routeLength 24 = .ok (.iload_n 1, 1) := by decide +kernel
theorem dX7_routeLength_25 : decode cX7_routeLength 25 = .ok (.iload_n 2, 1) := by decide +kernel
theorem dX7_routeLength_26 : decode cX7_routeLength 26 = .ok (.invokevirtual 253, 3) := by decide +kernel
theorem dX7_routeLength_29 : decode cX7_routeLength 29 = .ok (.invokestatic 257, 3) := by decide +kernel
theorem dX7_routeLength_32 : decode cX7_routeLength 32 = .ok (.ireturn, 1) := by decide +kernel
theorem dX7_routeLengthByRelaxation_0 : decode cX7_routeLengthByRelaxation 0 = .ok (.aload_n 0, 1) := by decide +kernel
theorem dX7_routeLengthByRelaxation_1 : decode cX7_routeLengthByRelaxation 1 = .ok (.iload_n 1, 1) := by decide +kernel
theorem dX7_routeLengthByRelaxation_2 : decode cX7_routeLengthByRelaxation 2 = .ok (.iload_n 2, 1) := by decide +kernel
theorem dX7_routeLengthByRelaxation_3 : decode cX7_routeLengthByRelaxation 3 = .ok (.invokevirtual 249, 3) := by decide +kernel
theorem dX7_routeLengthByRelaxation_6 : decode cX7_routeLengthByRelaxation 6 = .ok (.aload_n 0, 1) := by decide +kernel
theorem dX7_routeLengthByRelaxation_7 : decode cX7_routeLengthByRelaxation 7 = .ok (.getfield 46, 3) := by decide +kernel
theorem dX7_routeLengthByRelaxation_10 : decode cX7_routeLengthByRelaxation 10 = .ok (.aload_n 0, 1) := by decide +kernel
theorem dX7_routeLengthByRelaxation_11 : decode cX7_routeLengthByRelaxation 11 = .ok (.getfield 10, 3) := by decide +kernel
theorem dX7_routeLengthByRelaxation_14 : decode cX7_routeLengthByRelaxation 14 = .ok (.getfield 108, 3) := by decide +kernel
theorem dX7_routeLengthByRelaxation_17 : decode cX7_routeLengthByRelaxation 17 = .ok (.aload_n 0, 1) := by decide +kernel
theorem dX7_routeLengthByRelaxation_18 : decode cX7_routeLengthByRelaxation 18 = .ok (.getfield 10, 3) := by decide +kernel
theorem dX7_routeLengthByRelaxation_21 : decode cX7_routeLengthByRelaxation 21 = .ok (.invokevirtual 172, 3) := by decide +kernel
theorem dX7_routeLengthByRelaxation_24 : decode cX7_routeLengthByRelaxation 24 = .ok (.iload_n 1, 1) := by decide +kernel
theorem dX7_routeLengthByRelaxation_25 : decode cX7_routeLengthByRelaxation 25 = .ok (.iload_n 2, 1) := by decide +kernel
theorem dX7_routeLengthByRelaxation_26 : decode cX7_routeLengthByRelaxation 26 = .ok (.invokevirtual 260, 3) := by decide +kernel
theorem dX7_routeLengthByRelaxation_29 : decode cX7_routeLengthByRelaxation 29 = .ok (.invokestatic 257, 3) := by decide +kernel
theorem dX7_routeLengthByRelaxation_32 : decode cX7_routeLengthByRelaxation 32 = .ok (.ireturn, 1) := by decide +kernel
theorem dX7_disjointRoutes_0 : decode cX7_disjointRoutes 0 = .ok (.aload_n 0, 1) := by decide +kernel
theorem dX7_disjointRoutes_1 : decode cX7_disjointRoutes 1 = .ok (.iload_n 1, 1) := by decide +kernel
theorem dX7_disjointRoutes_2 : decode cX7_disjointRoutes 2 = .ok (.iload_n 2, 1) := by decide +kernel
theorem dX7_disjointRoutes_3 : decode cX7_disjointRoutes 3 = .ok (.invokevirtual 249, 3) := by decide +kernel
theorem dX7_disjointRoutes_6 : decode cX7_disjointRoutes 6 = .ok (.iload_n 1, 1) := by decide +kernel
theorem dX7_disjointRoutes_7 : decode cX7_disjointRoutes 7 = .ok (.iload_n 2, 1) := by decide +kernel
theorem dX7_disjointRoutes_8 : decode cX7_disjointRoutes 8 = .ok (.invokestatic 263, 3) := by decide +kernel
theorem dX7_disjointRoutes_11 : decode cX7_disjointRoutes 11 = .ok (.aload_n 0, 1) := by decide +kernel
theorem dX7_disjointRoutes_12 : decode cX7_disjointRoutes 12 = .ok (.getfield 46, 3) := by decide +kernel
theorem dX7_disjointRoutes_15 : decode cX7_disjointRoutes 15 = .ok (.aload_n 0, 1) := by decide +kernel
theorem dX7_disjointRoutes_16 : decode cX7_disjointRoutes 16 = .ok (.getfield 10, 3) := by decide +kernel
theorem dX7_disjointRoutes_19 : decode cX7_disjointRoutes 19 = .ok (.getfield 108, 3) := by decide +kernel
theorem dX7_disjointRoutes_22 : decode cX7_disjointRoutes 22 = .ok (.aload_n 0, 1) := by decide +kernel
theorem dX7_disjointRoutes_23 : decode cX7_disjointRoutes 23 = .ok (.getfield 10, 3) := by decide +kernel
theorem dX7_disjointRoutes_26 : decode cX7_disjointRoutes 26 = .ok (.invokevirtual 172, 3) := by decide +kernel
theorem dX7_disjointRoutes_29 : decode cX7_disjointRoutes 29 = .ok (.iload_n 1, 1) := by decide +kernel
theorem dX7_disjointRoutes_30 : decode cX7_disjointRoutes 30 = .ok (.iload_n 2, 1) := by decide +kernel
theorem dX7_disjointRoutes_31 : decode cX7_disjointRoutes 31 = .ok (.invokevirtual 266, 3) := by decide +kernel
theorem dX7_disjointRoutes_34 : decode cX7_disjointRoutes 34 = .ok (.ireturn, 1) := by decide +kernel
theorem dX7_minimalCut_0 : decode cX7_minimalCut 0 = .ok (.aload_n 0, 1) := by decide +kernel
theorem dX7_minimalCut_1 : decode cX7_minimalCut 1 = .ok (.iload_n 1, 1) := by decide +kernel
theorem dX7_minimalCut_2 : decode cX7_minimalCut 2 = .ok (.iload_n 2, 1) := by decide +kernel
theorem dX7_minimalCut_3 : decode cX7_minimalCut 3 = .ok (.invokevirtual 249, 3) := by decide +kernel
theorem dX7_minimalCut_6 : decode cX7_minimalCut 6 = .ok (.iload_n 1, 1) := by decide +kernel
theorem dX7_minimalCut_7 : decode cX7_minimalCut 7 = .ok (.iload_n 2, 1) := by decide +kernel
theorem dX7_minimalCut_8 : decode cX7_minimalCut 8 = .ok (.invokestatic 263, 3) := by decide +kernel
theorem dX7_minimalCut_11 : decode cX7_minimalCut 11 = .ok (.aload_n 0, 1) := by decide +kernel
theorem dX7_minimalCut_12 : decode cX7_minimalCut 12 = .ok (.getfield 46, 3) := by decide +kernel
theorem dX7_minimalCut_15 : decode cX7_minimalCut 15 = .ok (.aload_n 0, 1) := by decide +kernel
theorem dX7_minimalCut_16 : decode cX7_minimalCut 16 = .ok (.getfield 10, 3) := by decide +kernel
theorem dX7_minimalCut_19 : decode cX7_minimalCut 19 = .ok (.getfield 108, 3) := by decide +kernel
theorem dX7_minimalCut_22 : decode cX7_minimalCut 22 = .ok (.aload_n 0, 1) := by decide +kernel
theorem dX7_minimalCut_23 : decode cX7_minimalCut 23 = .ok (.getfield 10, 3) := by decide +kernel
theorem dX7_minimalCut_26 : decode cX7_minimalCut 26 = .ok (.invokevirtual 172, 3) := by decide +kernel
theorem dX7_minimalCut_29 : decode cX7_minimalCut 29 = .ok (.iload_n 1, 1) := by decide +kernel
theorem dX7_minimalCut_30 : decode cX7_minimalCut 30 = .ok (.iload_n 2, 1) := by decide +kernel
theorem dX7_minimalCut_31 : decode cX7_minimalCut 31 = .ok (.invokevirtual 269, 3) := by decide +kernel
theorem dX7_minimalCut_34 : decode cX7_minimalCut 34 = .ok (.ireturn, 1) := by decide +kernel
theorem dX7_needSwitches_0 : decode cX7_needSwitches 0 = .ok (.aload_n 0, 1) := by decide +kernel
theorem dX7_needSwitches_1 : decode cX7_needSwitches 1 = .ok (.getfield 10, 3) := by decide +kernel
theorem dX7_needSwitches_4 : decode cX7_needSwitches 4 = .ok (.getfield 108, 3) := by decide +kernel
theorem dX7_needSwitches_7 : decode cX7_needSwitches 7 = .ok (.iload_n 1, 1) := by decide +kernel
theorem dX7_needSwitches_8 : decode cX7_needSwitches 8 = .ok (.invokevirtual 272, 3) := by decide +kernel
theorem dX7_needSwitches_11 : decode cX7_needSwitches 11 = .ok (.ifCond .eq 17, 3) := by decide +kernel
theorem dX7_needSwitches_14 : decode cX7_needSwitches 14 = .ok (.aload_n 0, 1) := by decide +kernel
theorem dX7_needSwitches_15 : decode cX7_needSwitches 15 = .ok (.getfield 10, 3) := by decide +kernel
theorem dX7_needSwitches_18 : decode cX7_needSwitches 18 = .ok (.getfield 108, 3) := by decide +kernel
theorem dX7_needSwitches_21 : decode cX7_needSwitches 21 = .ok (.iload_n 2, 1) := by decide +kernel
theorem dX7_needSwitches_22 : decode cX7_needSwitches 22 = .ok (.invokevirtual 272, 3) := by decide +kernel
theorem dX7_needSwitches_25 : decode cX7_needSwitches 25 = .ok (.ifCond .ne 14, 3) := by decide +kernel
theorem dX7_needSwitches_28 : decode cX7_needSwitches 28 = .ok (.new 86, 3) := by decide +kernel
theorem dX7_needSwitches_31 : decode cX7_needSwitches 31 = .ok (.dup, 1) := by decide +kernel
theorem dX7_needSwitches_32 : decode cX7_needSwitches 32 = .ok (.ldc_w 275, 3) := by decide +kernel
theorem dX7_needSwitches_35 : decode cX7_needSwitches 35 = .ok (.invokespecial 90, 3) := by decide +kernel
theorem dX7_needSwitches_38 : decode cX7_needSwitches 38 = .ok (.athrow, 1) := by decide +kernel
theorem dX7_needSwitches_39 : decode cX7_needSwitches 39 = .ok (.return_, 1) := by decide +kernel
theorem dX7_needDifferent_0 : decode cX7_needDifferent 0 = .ok (.iload_n 0, 1) := by decide +kernel
theorem dX7_needDifferent_1 : decode cX7_needDifferent 1 = .ok (.iload_n 1, 1) := by decide +kernel
theorem dX7_needDifferent_2 : decode cX7_needDifferent 2 = .ok (.if_icmp .ne 14, 3) := by decide +kernel
theorem dX7_needDifferent_5 : decode cX7_needDifferent 5 = .ok (.new 93, 3) := by decide +kernel
theorem dX7_needDifferent_8 : decode cX7_needDifferent 8 = .ok (.dup, 1) := by decide +kernel
theorem dX7_needDifferent_9 : decode cX7_needDifferent 9 = .ok (.ldc_w 277, 3) := by decide +kernel
theorem dX7_needDifferent_12 : decode cX7_needDifferent 12 = .ok (.invokespecial 97, 3) := by decide +kernel
theorem dX7_needDifferent_15 : decode cX7_needDifferent 15 = .ok (.athrow, 1) := by decide +kernel
theorem dX7_needDifferent_16 : decode cX7_needDifferent 16 = .ok (.return_, 1) := by decide +kernel
theorem dX7_needLength_0 : decode cX7_needLength 0 = .ok (.iload_n 0, 1) := by decide +kernel
theorem dX7_needLength_1 : decode cX7_needLength 1 = .ok (.iconst (-1), 1) := by decide +kernel
theorem dX7_needLength_2 : decode cX7_needLength 2 = .ok (.if_icmp .ne 13, 3) := by decide +kernel
theorem dX7_needLength_5 : decode cX7_needLength 5 = .ok (.new 236, 3) := by decide +kernel
theorem dX7_needLength_8 : decode cX7_needLength 8 = .ok (.dup, 1) := by decide +kernel
theorem dX7_needLength_9 : decode cX7_needLength 9 = .ok (.ldc 105, 2) := by decide +kernel
theorem dX7_needLength_11 : decode cX7_needLength 11 = .ok (.invokespecial 240, 3) := by decide +kernel
theorem dX7_needLength_14 : decode cX7_needLength 14 = .ok (.athrow, 1) := by decide +kernel
theorem dX7_needLength_15 : decode cX7_needLength 15 = .ok (.iload_n 0, 1) := by decide +kernel
theorem dX7_needLength_16 : decode cX7_needLength 16 = .ok (.ireturn, 1) := by decide +kernel
theorem dX7_subscribers_0 : decode cX7_subscribers 0 = .ok (.aload_n 0, 1) := by decide +kernel
theorem dX7_subscribers_1 : decode cX7_subscribers 1 = .ok (.getfield 10, 3) := by decide +kernel
theorem dX7_subscribers_4 : decode cX7_subscribers 4 = .ok (.getfield 279, 3) := by decide +kernel
theorem dX7_subscribers_7 : decode cX7_subscribers 7 = .ok (.ireturn, 1) := by decide +kernel
theorem dX7_home_0 : decode cX7_home 0 = .ok (.aload_n 0, 1) := by decide +kernel
theorem dX7_home_1 : decode cX7_home 1 = .ok (.iload_n 1, 1) := by decide +kernel
theorem dX7_home_2 : decode cX7_home 2 = .ok (.invokevirtual 282, 3) := by decide +kernel
theorem dX7_home_5 : decode cX7_home 5 = .ok (.aload_n 0, 1) := by decide +kernel
theorem dX7_home_6 : decode cX7_home 6 = .ok (.getfield 10, 3) := by decide +kernel
theorem dX7_home_9 : decode cX7_home 9 = .ok (.iload_n 1, 1) := by decide +kernel
theorem dX7_home_10 : decode cX7_home 10 = .ok (.invokevirtual 175, 3) := by decide +kernel
theorem dX7_home_13 : decode cX7_home 13 = .ok (.ireturn, 1) := by decide +kernel
theorem dX7_tariff_0 : decode cX7_tariff 0 = .ok (.aload_n 0, 1) := by decide +kernel
theorem dX7_tariff_1 : decode cX7_tariff 1 = .ok (.iload_n 1, 1) := by decide +kernel
theorem dX7_tariff_2 : decode cX7_tariff 2 = .ok (.invokevirtual 282, 3) := by decide +kernel
theorem dX7_tariff_5 : decode cX7_tariff 5 = .ok (.aload_n 0, 1) := by decide +kernel
theorem dX7_tariff_6 : decode cX7_tariff 6 = .ok (.getfield 10, 3) := by decide +kernel
theorem dX7_tariff_9 : decode cX7_tariff 9 = .ok (.getfield 285, 3) := by decide +kernel
theorem dX7_tariff_12 : decode cX7_tariff 12 = .ok (.iload_n 1, 1) := by decide +kernel
theorem dX7_tariff_13 : decode cX7_tariff 13 = .ok (.iaload, 1) := by decide +kernel
theorem dX7_tariff_14 : decode cX7_tariff 14 = .ok (.ireturn, 1) := by decide +kernel
theorem dX7_bill_0 : decode cX7_bill 0 = .ok (.aload_n 0, 1) := by decide +kernel
theorem dX7_bill_1 : decode cX7_bill 1 = .ok (.iload_n 1, 1) := by decide +kernel
theorem dX7_bill_2 : decode cX7_bill 2 = .ok (.invokevirtual 282, 3) := by decide +kernel
theorem dX7_bill_5 : decode cX7_bill 5 = .ok (.aload_n 0, 1) := by decide +kernel
theorem dX7_bill_6 : decode cX7_bill 6 = .ok (.getfield 10, 3) := by decide +kernel
theorem dX7_bill_9 : decode cX7_bill 9 = .ok (.getfield 288, 3) := by decide +kernel
theorem dX7_bill_12 : decode cX7_bill 12 = .ok (.iload_n 1, 1) := by decide +kernel
theorem dX7_bill_13 : decode cX7_bill 13 = .ok (.iaload, 1) := by decide +kernel
theorem dX7_bill_14 : decode cX7_bill 14 = .ok (.ireturn, 1) := by decide +kernel
theorem dX7_isTalking_0 : decode cX7_isTalking 0 = .ok (.aload_n 0, 1) := by decide +kernel
theorem dX7_isTalking_1 : decode cX7_isTalking 1 = .ok (.iload_n 1, 1) := by decide +kernel
theorem dX7_isTalking_2 : decode cX7_isTalking 2 = .ok (.invokevirtual 282, 3) := by decide +kernel
theorem dX7_isTalking_5 : decode cX7_isTalking 5 = .ok (.aload_n 0, 1) := by decide +kernel
theorem dX7_isTalking_6 : decode cX7_isTalking 6 = .ok (.getfield 10, 3) := by decide +kernel
theorem dX7_isTalking_9 : decode cX7_isTalking 9 = .ok (.iload_n 1, 1) := by decide +kernel
theorem dX7_isTalking_10 : decode cX7_isTalking 10 = .ok (.invokevirtual 149, 3) := by decide +kernel
theorem dX7_isTalking_13 : decode cX7_isTalking 13 = .ok (.iconst (-1), 1) := by decide +kernel
theorem dX7_isTalking_14 : decode cX7_isTalking 14 = .ok (.if_icmp .eq 7, 3) := by decide +kernel
theorem dX7_isTalking_17 : decode cX7_isTalking 17 = .ok (.iconst 1, 1) := by decide +kernel
theorem dX7_isTalking_18 : decode cX7_isTalking 18 = .ok (.goto 4, 3) := by decide +kernel
theorem dX7_isTalking_21 : decode cX7_isTalking 21 = .ok (.iconst 0, 1) := by decide +kernel
theorem dX7_isTalking_22 : decode cX7_isTalking 22 = .ok (.ireturn, 1) := by decide +kernel
theorem dX7_partner_0 : decode cX7_partner 0 = .ok (.aload_n 0, 1) := by decide +kernel
theorem dX7_partner_1 : decode cX7_partner 1 = .ok (.iload_n 1, 1) := by decide +kernel
theorem dX7_partner_2 : decode cX7_partner 2 = .ok (.invokevirtual 291, 3) := by decide +kernel
theorem dX7_partner_5 : decode cX7_partner 5 = .ok (.astore_n 2, 1) := by decide +kernel
theorem dX7_partner_6 : decode cX7_partner 6 = .ok (.aload_n 2, 1) := by decide +kernel
theorem dX7_partner_7 : decode cX7_partner 7 = .ok (.getfield 204, 3) := by decide +kernel
theorem dX7_partner_10 : decode cX7_partner 10 = .ok (.iload_n 1, 1) := by decide +kernel
theorem dX7_partner_11 : decode cX7_partner 11 = .ok (.if_icmp .ne 10, 3) := by decide +kernel
theorem dX7_partner_14 : decode cX7_partner 14 = .ok (.aload_n 2, 1) := by decide +kernel
theorem dX7_partner_15 : decode cX7_partner 15 = .ok (.getfield 207, 3) := by decide +kernel
theorem dX7_partner_18 : decode cX7_partner 18 = .ok (.goto 7, 3) := by decide +kernel
theorem dX7_partner_21 : decode cX7_partner 21 = .ok (.aload_n 2, 1) := by decide +kernel
theorem dX7_partner_22 : decode cX7_partner 22 = .ok (.getfield 204, 3) := by decide +kernel
theorem dX7_partner_25 : decode cX7_partner 25 = .ok (.ireturn, 1) := by decide +kernel
theorem dX7_minutes_0 : decode cX7_minutes 0 = .ok (.aload_n 0, 1) := by decide +kernel
theorem dX7_minutes_1 : decode cX7_minutes 1 = .ok (.iload_n 1, 1) := by decide +kernel
theorem dX7_minutes_2 : decode cX7_minutes 2 = .ok (.invokevirtual 291, 3) := by decide +kernel
theorem dX7_minutes_5 : decode cX7_minutes 5 = .ok (.getfield 295, 3) := by decide +kernel
theorem dX7_minutes_8 : decode cX7_minutes 8 = .ok (.ireturn, 1) := by decide +kernel
theorem dX7_routeSize_0 : decode cX7_routeSize 0 = .ok (.aload_n 0, 1) := by decide +kernel
theorem dX7_routeSize_1 : decode cX7_routeSize 1 = .ok (.iload_n 1, 1) := by decide +kernel
theorem dX7_routeSize_2 : decode cX7_routeSize 2 = .ok (.invokevirtual 291, 3) := by decide +kernel
theorem dX7_routeSize_5 : decode cX7_routeSize 5 = .ok (.getfield 298, 3) := by decide +kernel
theorem dX7_routeSize_8 : decode cX7_routeSize 8 = .ok (.ireturn, 1) := by decide +kernel
theorem dX7_routeTrunk_0 : decode cX7_routeTrunk 0 = .ok (.aload_n 0, 1) := by decide +kernel
theorem dX7_routeTrunk_1 : decode cX7_routeTrunk 1 = .ok (.iload_n 1, 1) := by decide +kernel
theorem dX7_routeTrunk_2 : decode cX7_routeTrunk 2 = .ok (.invokevirtual 291, 3) := by decide +kernel
theorem dX7_routeTrunk_5 : decode cX7_routeTrunk 5 = .ok (.astore_n 3, 1) := by decide +kernel
theorem dX7_routeTrunk_6 : decode cX7_routeTrunk 6 = .ok (.iload_n 2, 1) := by decide +kernel
theorem dX7_routeTrunk_7 : decode cX7_routeTrunk 7 = .ok (.ifCond .lt 11, 3) := by decide +kernel
theorem dX7_routeTrunk_10 : decode cX7_routeTrunk 10 = .ok (.iload_n 2, 1) := by decide +kernel
theorem dX7_routeTrunk_11 : decode cX7_routeTrunk 11 = .ok (.aload_n 3, 1) := by decide +kernel
theorem dX7_routeTrunk_12 : decode cX7_routeTrunk 12 = .ok (.getfield 298, 3) := by decide +kernel
theorem dX7_routeTrunk_15 : decode cX7_routeTrunk 15 = .ok (.if_icmp .lt 14, 3) := by decide +kernel
theorem dX7_routeTrunk_18 : decode cX7_routeTrunk 18 = .ok (.new 236, 3) := by decide +kernel
theorem dX7_routeTrunk_21 : decode cX7_routeTrunk 21 = .ok (.dup, 1) := by decide +kernel
theorem dX7_routeTrunk_22 : decode cX7_routeTrunk 22 = .ok (.ldc_w 301, 3) := by decide +kernel
theorem dX7_routeTrunk_25 : decode cX7_routeTrunk 25 = .ok (.invokespecial 240, 3) := by decide +kernel
theorem dX7_routeTrunk_28 : decode cX7_routeTrunk 28 = .ok (.athrow, 1) := by decide +kernel
theorem dX7_routeTrunk_29 : decode cX7_routeTrunk 29 = .ok (.aload_n 3, 1) := by decide +kernel
theorem dX7_routeTrunk_30 : decode cX7_routeTrunk 30 = .ok (.getfield 303, 3) := by decide +kernel
theorem dX7_routeTrunk_33 : decode cX7_routeTrunk 33 = .ok (.iload_n 2, 1) := by decide +kernel
theorem dX7_routeTrunk_34 : decode cX7_routeTrunk 34 = .ok (.iaload, 1) := by decide +kernel
theorem dX7_routeTrunk_35 : decode cX7_routeTrunk 35 = .ok (.ireturn, 1) := by decide +kernel
theorem dX7_chargeNow_0 : decode cX7_chargeNow 0 = .ok (.aload_n 0, 1) := by decide +kernel
theorem dX7_chargeNow_1 : decode cX7_chargeNow 1 = .ok (.getfield 10, 3) := by decide +kernel
theorem dX7_chargeNow_4 : decode cX7_chargeNow 4 = .ok (.aload_n 0, 1) := by decide +kernel
theorem dX7_chargeNow_5 : decode cX7_chargeNow 5 = .ok (.iload_n 1, 1) := by decide +kernel
theorem dX7_chargeNow_6 : decode cX7_chargeNow 6 = .ok (.invokevirtual 291, 3) := by decide +kernel
theorem dX7_chargeNow_9 : decode cX7_chargeNow 9 = .ok (.invokevirtual 306, 3) := by decide +kernel
theorem dX7_chargeNow_12 : decode cX7_chargeNow 12 = .ok (.ireturn, 1) := by decide +kernel
theorem dX7_calls_0 : decode cX7_calls 0 = .ok (.aload_n 0, 1) := by decide +kernel
theorem dX7_calls_1 : decode cX7_calls 1 = .ok (.getfield 10, 3) := by decide +kernel
theorem dX7_calls_4 : decode cX7_calls 4 = .ok (.getfield 310, 3) := by decide +kernel
theorem dX7_calls_7 : decode cX7_calls 7 = .ok (.ireturn, 1) := by decide +kernel
theorem dX7_needSubscriber_0 : decode cX7_needSubscriber 0 = .ok (.aload_n 0, 1) := by decide +kernel
theorem dX7_needSubscriber_1 : decode cX7_needSubscriber 1 = .ok (.getfield 10, 3) := by decide +kernel
theorem dX7_needSubscriber_4 : decode cX7_needSubscriber 4 = .ok (.iload_n 1, 1) := by decide +kernel
theorem dX7_needSubscriber_5 : decode cX7_needSubscriber 5 = .ok (.invokevirtual 164, 3) := by decide +kernel
theorem dX7_needSubscriber_8 : decode cX7_needSubscriber 8 = .ok (.ifCond .ne 14, 3) := by decide +kernel
theorem dX7_needSubscriber_11 : decode cX7_needSubscriber 11 = .ok (.new 86, 3) := by decide +kernel
theorem dX7_needSubscriber_14 : decode cX7_needSubscriber 14 = .ok (.dup, 1) := by decide +kernel
theorem dX7_needSubscriber_15 : decode cX7_needSubscriber 15 = .ok (.ldc_w 313, 3) := by decide +kernel
theorem dX7_needSubscriber_18 : decode cX7_needSubscriber 18 = .ok (.invokespecial 90, 3) := by decide +kernel
theorem dX7_needSubscriber_21 : decode cX7_needSubscriber 21 = .ok (.athrow, 1) := by decide +kernel
theorem dX7_needSubscriber_22 : decode cX7_needSubscriber 22 = .ok (.return_, 1) := by decide +kernel
theorem dX7_needCall_0 : decode cX7_needCall 0 = .ok (.aload_n 0, 1) := by decide +kernel
theorem dX7_needCall_1 : decode cX7_needCall 1 = .ok (.iload_n 1, 1) := by decide +kernel
theorem dX7_needCall_2 : decode cX7_needCall 2 = .ok (.invokevirtual 282, 3) := by decide +kernel
theorem dX7_needCall_5 : decode cX7_needCall 5 = .ok (.aload_n 0, 1) := by decide +kernel
theorem dX7_needCall_6 : decode cX7_needCall 6 = .ok (.getfield 10, 3) := by decide +kernel
theorem dX7_needCall_9 : decode cX7_needCall 9 = .ok (.iload_n 1, 1) := by decide +kernel
theorem dX7_needCall_10 : decode cX7_needCall 10 = .ok (.invokevirtual 149, 3) := by decide +kernel
theorem dX7_needCall_13 : decode cX7_needCall 13 = .ok (.istore_n 2, 1) := by decide +kernel
theorem dX7_needCall_14 : decode cX7_needCall 14 = .ok (.iload_n 2, 1) := by decide +kernel
theorem dX7_needCall_15 : decode cX7_needCall 15 = .ok (.iconst (-1), 1) := by decide +kernel
theorem dX7_needCall_16 : decode cX7_needCall 16 = .ok (.if_icmp .ne 14, 3) := by decide +kernel
theorem dX7_needCall_19 : decode cX7_needCall 19 = .ok (.new 236, 3) := by decide +kernel
theorem dX7_needCall_22 : decode cX7_needCall 22 = .ok (.dup, 1) := by decide +kernel
theorem dX7_needCall_23 : decode cX7_needCall 23 = .ok (.ldc_w 315, 3) := by decide +kernel
theorem dX7_needCall_26 : decode cX7_needCall 26 = .ok (.invokespecial 240, 3) := by decide +kernel
theorem dX7_needCall_29 : decode cX7_needCall 29 = .ok (.athrow, 1) := by decide +kernel
theorem dX7_needCall_30 : decode cX7_needCall 30 = .ok (.aload_n 0, 1) := by decide +kernel
theorem dX7_needCall_31 : decode cX7_needCall 31 = .ok (.getfield 10, 3) := by decide +kernel
theorem dX7_needCall_34 : decode cX7_needCall 34 = .ok (.getfield 195, 3) := by decide +kernel
theorem dX7_needCall_37 : decode cX7_needCall 37 = .ok (.iload_n 2, 1) := by decide +kernel
theorem dX7_needCall_38 : decode cX7_needCall 38 = .ok (.aaload, 1) := by decide +kernel
theorem dX7_needCall_39 : decode cX7_needCall 39 = .ok (.areturn, 1) := by decide +kernel
theorem dX7_blockedCalls_0 : decode cX7_blockedCalls 0 = .ok (.aload_n 0, 1) := by decide +kernel
theorem dX7_blockedCalls_1 : decode cX7_blockedCalls 1 = .ok (.getfield 32, 3) := by decide +kernel
theorem dX7_blockedCalls_4 : decode cX7_blockedCalls 4 = .ok (.getfield 317, 3) := by decide +kernel
theorem dX7_blockedCalls_7 : decode cX7_blockedCalls 7 = .ok (.ireturn, 1) := by decide +kernel
theorem dX7_blockedCaller_0 : decode cX7_blockedCaller 0 = .ok (.aload_n 0, 1) := by decide +kernel
theorem dX7_blockedCaller_1 : decode cX7_blockedCaller 1 = .ok (.iload_n 1, 1) := by decide +kernel
theorem dX7_blockedCaller_2 : decode cX7_blockedCaller 2 = .ok (.invokevirtual 320, 3) := by decide +kernel
theorem dX7_blockedCaller_5 : decode cX7_blockedCaller 5 = .ok (.aload_n 0, 1) := by decide +kernel
theorem dX7_blockedCaller_6 : decode cX7_blockedCaller 6 = .ok (.getfield 32, 3) := by decide +kernel
theorem dX7_blockedCaller_9 : decode cX7_blockedCaller 9 = .ok (.getfield 323, 3) := by decide +kernel
theorem dX7_blockedCaller_12 : decode cX7_blockedCaller 12 = .ok (.iload_n 1, 1) := by decide +kernel
theorem dX7_blockedCaller_13 : decode cX7_blockedCaller 13 = .ok (.iaload, 1) := by decide +kernel
theorem dX7_blockedCaller_14 : decode cX7_blockedCaller 14 = .ok (.ireturn, 1) := by decide +kernel
theorem dX7_blockedCallee_0 : decode cX7_blockedCallee 0 = .ok (.aload_n 0, 1) := by decide +kernel
theorem dX7_blockedCallee_1 : decode cX7_blockedCallee 1 = .ok (.iload_n 1, 1) := by decide +kernel
theorem dX7_blockedCallee_2 : decode cX7_blockedCallee 2 = .ok (.invokevirtual 320, 3) := by decide +kernel
theorem dX7_blockedCallee_5 : decode cX7_blockedCallee 5 = .ok (.aload_n 0, 1) := by decide +kernel
theorem dX7_blockedCallee_6 : decode cX7_blockedCallee 6 = .ok (.getfield 32, 3) := by decide +kernel
theorem dX7_blockedCallee_9 : decode cX7_blockedCallee 9 = .ok (.getfield 326, 3) := by decide +kernel
theorem dX7_blockedCallee_12 : decode cX7_blockedCallee 12 = .ok (.iload_n 1, 1) := by decide +kernel
theorem dX7_blockedCallee_13 : decode cX7_blockedCallee 13 = .ok (.iaload, 1) := by decide +kernel
theorem dX7_blockedCallee_14 : decode cX7_blockedCallee 14 = .ok (.ireturn, 1) := by decide +kernel
theorem dX7_blockedReason_0 : decode cX7_blockedReason 0 = .ok (.aload_n 0, 1) := by decide +kernel
theorem dX7_blockedReason_1 : decode cX7_blockedReason 1 = .ok (.iload_n 1, 1) := by decide +kernel
theorem dX7_blockedReason_2 : decode cX7_blockedReason 2 = .ok (.invokevirtual 320, 3) := by decide +kernel
theorem dX7_blockedReason_5 : decode cX7_blockedReason 5 = .ok (.aload_n 0, 1) := by decide +kernel
theorem dX7_blockedReason_6 : decode cX7_blockedReason 6 = .ok (.getfield 32, 3) := by decide +kernel
theorem dX7_blockedReason_9 : decode cX7_blockedReason 9 = .ok (.getfield 329, 3) := by decide +kernel
theorem dX7_blockedReason_12 : decode cX7_blockedReason 12 = .ok (.iload_n 1, 1) := by decide +kernel
theorem dX7_blockedReason_13 : decode cX7_blockedReason 13 = .ok (.caload, 1) := by decide +kernel
theorem dX7_blockedReason_14 : decode cX7_blockedReason 14 = .ok (.ireturn, 1) := by decide +kernel
theorem dX7_needBlocked_0 : decode cX7_needBlocked 0 = .ok (.iload_n 1, 1) := by decide +kernel
theorem dX7_needBlocked_1 : decode cX7_needBlocked 1 = .ok (.ifCond .lt 14, 3) := by decide +kernel
theorem dX7_needBlocked_4 : decode cX7_needBlocked 4 = .ok (.iload_n 1, 1) := by decide +kernel
theorem dX7_needBlocked_5 : decode cX7_needBlocked 5 = .ok (.aload_n 0, 1) := by decide +kernel
theorem dX7_needBlocked_6 : decode cX7_needBlocked 6 = .ok (.getfield 32, 3) := by decide +kernel
theorem dX7_needBlocked_9 : decode cX7_needBlocked 9 = .ok (.getfield 317, 3) := by decide +kernel
theorem dX7_needBlocked_12 : decode cX7_needBlocked 12 = .ok (.if_icmp .lt 14, 3) := by decide +kernel
theorem dX7_needBlocked_15 : decode cX7_needBlocked 15 = .ok (.new 236, 3) := by decide +kernel
theorem dX7_needBlocked_18 : decode cX7_needBlocked 18 = .ok (.dup, 1) := by decide +kernel
theorem dX7_needBlocked_19 : decode cX7_needBlocked 19 = .ok (.ldc_w 333, 3) := by decide +kernel
theorem dX7_needBlocked_22 : decode cX7_needBlocked 22 = .ok (.invokespecial 240, 3) := by decide +kernel
theorem dX7_needBlocked_25 : decode cX7_needBlocked 25 = .ok (.athrow, 1) := by decide +kernel
theorem dX7_needBlocked_26 : decode cX7_needBlocked 26 = .ok (.return_, 1) := by decide +kernel
theorem dX7_totalBills_0 : decode cX7_totalBills 0 = .ok (.aload_n 0, 1) := by decide +kernel
theorem dX7_totalBills_1 : decode cX7_totalBills 1 = .ok (.getfield 10, 3) := by decide +kernel
theorem dX7_totalBills_4 : decode cX7_totalBills 4 = .ok (.invokevirtual 335, 3) := by decide +kernel
theorem dX7_totalBills_7 : decode cX7_totalBills 7 = .ok (.lreturn, 1) := by decide +kernel
theorem dX7_totalCharges_0 : decode cX7_totalCharges 0 = .ok (.aload_n 0, 1) := by decide +kernel
theorem dX7_totalCharges_1 : decode cX7_totalCharges 1 = .ok (.getfield 10, 3) := by decide +kernel
theorem dX7_totalCharges_4 : decode cX7_totalCharges 4 = .ok (.getfield 339, 3) := by decide +kernel
theorem dX7_totalCharges_7 : decode cX7_totalCharges 7 = .ok (.lreturn, 1) := by decide +kernel
theorem dX7_subscriberByBill_0 : decode cX7_subscriberByBill 0 = .ok (.iconst 0, 1) := by decide +kernel
theorem dX7_subscriberByBill_1 : decode cX7_subscriberByBill 1 = .ok (.istore_n 2, 1) := by decide +kernel
theorem dX7_subscriberByBill_2 : decode cX7_subscriberByBill 2 = .ok (.iload_n 2, 1) := by decide +kernel
theorem dX7_subscriberByBill_3 : decode cX7_subscriberByBill 3 = .ok (.aload_n 0, 1) := by decide +kernel
theorem dX7_subscriberByBill_4 : decode cX7_subscriberByBill 4 = .ok (.getfield 10, 3) := by decide +kernel
theorem dX7_subscriberByBill_7 : decode cX7_subscriberByBill 7 = .ok (.getfield 279, 3) := by decide +kernel
theorem dX7_subscriberByBill_10 : decode cX7_subscriberByBill 10 = .ok (.if_icmp .ge 23, 3) := by decide +kernel
theorem dX7_subscriberByBill_13 : decode cX7_subscriberByBill 13 = .ok (.aload_n 0, 1) := by decide +kernel
theorem dX7_subscriberByBill_14 : decode cX7_subscriberByBill 14 = .ok (.getfield 10, 3) := by decide +kernel
theorem dX7_subscriberByBill_17 : decode cX7_subscriberByBill 17 = .ok (.iload_n 2, 1) := by decide +kernel
theorem dX7_subscriberByBill_18 : decode cX7_subscriberByBill 18 = .ok (.invokevirtual 343, 3) := by decide +kernel
theorem dX7_subscriberByBill_21 : decode cX7_subscriberByBill 21 = .ok (.iload_n 1, 1) := by decide +kernel
theorem dX7_subscriberByBill_22 : decode cX7_subscriberByBill 22 = .ok (.if_icmp .ne 5, 3) := by decide +kernel
theorem dX7_subscriberByBill_25 : decode cX7_subscriberByBill 25 = .ok (.iload_n 2, 1) := by decide +kernel
theorem dX7_subscriberByBill_26 : decode cX7_subscriberByBill 26 = .ok (.ireturn, 1) := by decide +kernel
theorem dX7_subscriberByBill_27 : decode cX7_subscriberByBill 27 = .ok (.iinc 2 1, 3) := by decide +kernel
theorem dX7_subscriberByBill_30 : decode cX7_subscriberByBill 30 = .ok (.goto (-28), 3) := by decide +kernel
theorem dX7_subscriberByBill_33 : decode cX7_subscriberByBill 33 = .ok (.new 236, 3) := by decide +kernel
theorem dX7_subscriberByBill_36 : decode cX7_subscriberByBill 36 = .ok (.dup, 1) := by decide +kernel
theorem dX7_subscriberByBill_37 : decode cX7_subscriberByBill 37 = .ok (.ldc_w 346, 3) := by decide +kernel
theorem dX7_subscriberByBill_40 : decode cX7_subscriberByBill 40 = .ok (.invokespecial 240, 3) := by decide +kernel
theorem dX7_subscriberByBill_43 : decode cX7_subscriberByBill 43 = .ok (.athrow, 1) := by decide +kernel
theorem dX7_meanCharge_0 : decode cX7_meanCharge 0 = .ok (.aload_n 0, 1) := by decide +kernel
theorem dX7_meanCharge_1 : decode cX7_meanCharge 1 = .ok (.getfield 10, 3) := by decide +kernel
theorem dX7_meanCharge_4 : decode cX7_meanCharge 4 = .ok (.getfield 348, 3) := by decide +kernel
theorem dX7_meanCharge_7 : decode cX7_meanCharge 7 = .ok (.ifCond .ne 14, 3) := by decide +kernel
theorem dX7_meanCharge_10 : decode cX7_meanCharge 10 = .ok (.new 351, 3) := by decide +kernel
theorem dX7_meanCharge_13 : decode cX7_meanCharge 13 = .ok (.dup, 1) := by decide +kernel
theorem dX7_meanCharge_14 : decode cX7_meanCharge 14 = .ok (.ldc_w 353, 3) := by decide +kernel
theorem dX7_meanCharge_17 : decode cX7_meanCharge 17 = .ok (.invokespecial 355, 3) := by decide +kernel
theorem dX7_meanCharge_20 : decode cX7_meanCharge 20 = .ok (.athrow, 1) := by decide +kernel
theorem dX7_meanCharge_21 : decode cX7_meanCharge 21 = .ok (.aload_n 0, 1) := by decide +kernel
theorem dX7_meanCharge_22 : decode cX7_meanCharge 22 = .ok (.getfield 10, 3) := by decide +kernel
theorem dX7_meanCharge_25 : decode cX7_meanCharge 25 = .ok (.getfield 339, 3) := by decide +kernel
theorem dX7_meanCharge_28 : decode cX7_meanCharge 28 = .ok (.l2d, 1) := by decide +kernel
theorem dX7_meanCharge_29 : decode cX7_meanCharge 29 = .ok (.aload_n 0, 1) := by decide +kernel
theorem dX7_meanCharge_30 : decode cX7_meanCharge 30 = .ok (.getfield 10, 3) := by decide +kernel
theorem dX7_meanCharge_33 : decode cX7_meanCharge 33 = .ok (.getfield 348, 3) := by decide +kernel
theorem dX7_meanCharge_36 : decode cX7_meanCharge 36 = .ok (.i2d, 1) := by decide +kernel
theorem dX7_meanCharge_37 : decode cX7_meanCharge 37 = .ok (.ddiv, 1) := by decide +kernel
theorem dX7_meanCharge_38 : decode cX7_meanCharge 38 = .ok (.dreturn, 1) := by decide +kernel
theorem dX7_usedShare_0 : decode cX7_usedShare 0 = .ok (.aload_n 0, 1) := by decide +kernel
theorem dX7_usedShare_1 : decode cX7_usedShare 1 = .ok (.getfield 10, 3) := by decide +kernel
theorem dX7_usedShare_4 : decode cX7_usedShare 4 = .ok (.getfield 108, 3) := by decide +kernel
theorem dX7_usedShare_7 : decode cX7_usedShare 7 = .ok (.getfield 217, 3) := by decide +kernel
theorem dX7_usedShare_10 : decode cX7_usedShare 10 = .ok (.ifCond .ne 14, 3) := by decide +kernel
theorem dX7_usedShare_13 : decode cX7_usedShare 13 = .ok (.new 351, 3) := by decide +kernel
theorem dX7_usedShare_16 : decode cX7_usedShare 16 = .ok (.dup, 1) := by decide +kernel
theorem dX7_usedShare_17 : decode cX7_usedShare 17 = .ok (.ldc_w 356, 3) := by decide +kernel
theorem dX7_usedShare_20 : decode cX7_usedShare 20 = .ok (.invokespecial 355, 3) := by decide +kernel
theorem dX7_usedShare_23 : decode cX7_usedShare 23 = .ok (.athrow, 1) := by decide +kernel
theorem dX7_usedShare_24 : decode cX7_usedShare 24 = .ok (.aload_n 0, 1) := by decide +kernel
theorem dX7_usedShare_25 : decode cX7_usedShare 25 = .ok (.getfield 10, 3) := by decide +kernel
theorem dX7_usedShare_28 : decode cX7_usedShare 28 = .ok (.invokevirtual 358, 3) := by decide +kernel
theorem dX7_usedShare_31 : decode cX7_usedShare 31 = .ok (.invokestatic 361, 3) := by decide +kernel
theorem dX7_usedShare_34 : decode cX7_usedShare 34 = .ok (.i2f, 1) := by decide +kernel
theorem dX7_usedShare_35 : decode cX7_usedShare 35 = .ok (.aload_n 0, 1) := by decide +kernel
theorem dX7_usedShare_36 : decode cX7_usedShare 36 = .ok (.getfield 10, 3) := by decide +kernel
theorem dX7_usedShare_39 : decode cX7_usedShare 39 = .ok (.getfield 108, 3) := by decide +kernel
theorem dX7_usedShare_42 : decode cX7_usedShare 42 = .ok (.getfield 217, 3) := by decide +kernel
theorem dX7_usedShare_45 : decode cX7_usedShare 45 = .ok (.i2f, 1) := by decide +kernel
theorem dX7_usedShare_46 : decode cX7_usedShare 46 = .ok (.fdiv, 1) := by decide +kernel
theorem dX7_usedShare_47 : decode cX7_usedShare 47 = .ok (.freturn, 1) := by decide +kernel
theorem dX7_isConsistent_0 : decode cX7_isConsistent 0 = .ok (.aload_n 0, 1) := by decide +kernel
theorem dX7_isConsistent_1 : decode cX7_isConsistent 1 = .ok (.getfield 46, 3) := by decide +kernel
theorem dX7_isConsistent_4 : decode cX7_isConsistent 4 = .ok (.aload_n 0, 1) := by decide +kernel
theorem dX7_isConsistent_5 : decode cX7_isConsistent 5 = .ok (.getfield 10, 3) := by decide +kernel
theorem dX7_isConsistent_8 : decode cX7_isConsistent 8 = .ok (.getfield 108, 3) := by decide +kernel
theorem dX7_isConsistent_11 : decode cX7_isConsistent 11 = .ok (.aload_n 0, 1) := by decide +kernel
theorem dX7_isConsistent_12 : decode cX7_isConsistent 12 = .ok (.getfield 10, 3) := by decide +kernel
theorem dX7_isConsistent_15 : decode cX7_isConsistent 15 = .ok (.invokevirtual 172, 3) := by decide +kernel
theorem dX7_isConsistent_18 : decode cX7_isConsistent 18 = .ok (.invokevirtual 366, 3) := by decide +kernel
theorem dX7_isConsistent_21 : decode cX7_isConsistent 21 = .ok (.ifCond .eq 35, 3) := by decide +kernel
theorem dX7_isConsistent_24 : decode cX7_isConsistent 24 = .ok (.aload_n 0, 1) := by decide +kernel
theorem dX7_isConsistent_25 : decode cX7_isConsistent 25 = .ok (.getfield 10, 3) := by decide +kernel
theorem dX7_isConsistent_28 : decode cX7_isConsistent 28 = .ok (.invokevirtual 335, 3) := by decide +kernel
theorem dX7_isConsistent_31 : decode cX7_isConsistent 31 = .ok (.aload_n 0, 1) := by decide +kernel
theorem dX7_isConsistent_32 : decode cX7_isConsistent 32 = .ok (.getfield 10, 3) := by decide +kernel
theorem dX7_isConsistent_35 : decode cX7_isConsistent 35 = .ok (.getfield 339, 3) := by decide +kernel
theorem dX7_isConsistent_38 : decode cX7_isConsistent 38 = .ok (.lcmp, 1) := by decide +kernel
theorem dX7_isConsistent_39 : decode cX7_isConsistent 39 = .ok (.ifCond .ne 17, 3) := by decide +kernel
theorem dX7_isConsistent_42 : decode cX7_isConsistent 42 = .ok (.aload_n 0, 1) := by decide +kernel
theorem dX7_isConsistent_43 : decode cX7_isConsistent 43 = .ok (.getfield 10, 3) := by decide +kernel
theorem dX7_isConsistent_46 : decode cX7_isConsistent 46 = .ok (.invokevirtual 370, 3) := by decide +kernel
theorem dX7_isConsistent_49 : decode cX7_isConsistent 49 = .ok (.ifCond .eq 7, 3) := by decide +kernel
theorem dX7_isConsistent_52 : decode cX7_isConsistent 52 = .ok (.iconst 1, 1) := by decide +kernel
theorem dX7_isConsistent_53 : decode cX7_isConsistent 53 = .ok (.goto 4, 3) := by decide +kernel
theorem dX7_isConsistent_56 : decode cX7_isConsistent 56 = .ok (.iconst 0, 1) := by decide +kernel
theorem dX7_isConsistent_57 : decode cX7_isConsistent 57 = .ok (.ireturn, 1) := by decide +kernel
theorem dX7_writeTrunk_0 : decode cX7_writeTrunk 0 = .ok (.aload_n 0, 1) := by decide +kernel
theorem dX7_writeTrunk_1 : decode cX7_writeTrunk 1 = .ok (.iload_n 1, 1) := by decide +kernel
theorem dX7_writeTrunk_2 : decode cX7_writeTrunk 2 = .ok (.invokevirtual 220, 3) := by decide +kernel
theorem dX7_writeTrunk_5 : decode cX7_writeTrunk 5 = .ok (.aload_n 0, 1) := by decide +kernel
theorem dX7_writeTrunk_6 : decode cX7_writeTrunk 6 = .ok (.getfield 10, 3) := by decide +kernel
theorem dX7_writeTrunk_9 : decode cX7_writeTrunk 9 = .ok (.getfield 108, 3) := by decide +kernel
theorem dX7_writeTrunk_12 : decode cX7_writeTrunk 12 = .ok (.getfield 374, 3) := by decide +kernel
theorem dX7_writeTrunk_15 : decode cX7_writeTrunk 15 = .ok (.iload_n 1, 1) := by decide +kernel
theorem dX7_writeTrunk_16 : decode cX7_writeTrunk 16 = .ok (.iaload, 1) := by decide +kernel
theorem dX7_writeTrunk_17 : decode cX7_writeTrunk 17 = .ok (.istore_n 2, 1) := by decide +kernel
theorem dX7_writeTrunk_18 : decode cX7_writeTrunk 18 = .ok (.aload_n 0, 1) := by decide +kernel
theorem dX7_writeTrunk_19 : decode cX7_writeTrunk 19 = .ok (.getfield 10, 3) := by decide +kernel
theorem dX7_writeTrunk_22 : decode cX7_writeTrunk 22 = .ok (.getfield 108, 3) := by decide +kernel
theorem dX7_writeTrunk_25 : decode cX7_writeTrunk 25 = .ok (.getfield 377, 3) := by decide +kernel
theorem dX7_writeTrunk_28 : decode cX7_writeTrunk 28 = .ok (.iload_n 1, 1) := by decide +kernel
theorem dX7_writeTrunk_29 : decode cX7_writeTrunk 29 = .ok (.iaload, 1) := by decide +kernel
theorem dX7_writeTrunk_30 : decode cX7_writeTrunk 30 = .ok (.istore_n 3, 1) := by decide +kernel
theorem dX7_writeTrunk_31 : decode cX7_writeTrunk 31 = .ok (.aload_n 0, 1) := by decide +kernel
theorem dX7_writeTrunk_32 : decode cX7_writeTrunk 32 = .ok (.getfield 53, 3) := by decide +kernel
theorem dX7_writeTrunk_35 : decode cX7_writeTrunk 35 = .ok (.iconst 0, 1) := by decide +kernel
theorem dX7_writeTrunk_36 : decode cX7_writeTrunk 36 = .ok (.invokevirtual 380, 3) := by decide +kernel
theorem dX7_writeTrunk_39 : decode cX7_writeTrunk 39 = .ok (.aload_n 0, 1) := by decide +kernel
theorem dX7_writeTrunk_40 : decode cX7_writeTrunk 40 = .ok (.getfield 53, 3) := by decide +kernel
theorem dX7_writeTrunk_43 : decode cX7_writeTrunk 43 = .ok (.iload_n 2, 1) := by decide +kernel
theorem dX7_writeTrunk_44 : decode cX7_writeTrunk 44 = .ok (.iload_n 3, 1) := by decide +kernel
theorem dX7_writeTrunk_45 : decode cX7_writeTrunk 45 = .ok (.invokestatic 383, 3) := by decide +kernel
theorem dX7_writeTrunk_48 : decode cX7_writeTrunk 48 = .ok (.invokevirtual 388, 3) := by decide +kernel
theorem dX7_writeTrunk_51 : decode cX7_writeTrunk 51 = .ok (.bipush 45, 2) := by decide +kernel
theorem dX7_writeTrunk_53 : decode cX7_writeTrunk 53 = .ok (.invokevirtual 392, 3) := by decide +kernel
theorem dX7_writeTrunk_56 : decode cX7_writeTrunk 56 = .ok (.iload_n 2, 1) := by decide +kernel
theorem dX7_writeTrunk_57 : decode cX7_writeTrunk 57 = .ok (.iload_n 3, 1) := by decide +kernel
theorem dX7_writeTrunk_58 : decode cX7_writeTrunk 58 = .ok (.invokestatic 395, 3) := by decide +kernel
theorem dX7_writeTrunk_61 : decode cX7_writeTrunk 61 = .ok (.invokevirtual 388, 3) := by decide +kernel
theorem dX7_writeTrunk_64 : decode cX7_writeTrunk 64 = .ok (.pop, 1) := by decide +kernel
theorem dX7_writeTrunk_65 : decode cX7_writeTrunk 65 = .ok (.aload_n 0, 1) := by decide +kernel
theorem dX7_writeTrunk_66 : decode cX7_writeTrunk 66 = .ok (.getfield 53, 3) := by decide +kernel
theorem dX7_writeTrunk_69 : decode cX7_writeTrunk 69 = .ok (.bipush 61, 2) := by decide +kernel
theorem dX7_writeTrunk_71 : decode cX7_writeTrunk 71 = .ok (.invokevirtual 392, 3) := by decide +kernel
theorem dX7_writeTrunk_74 : decode cX7_writeTrunk 74 = .ok (.aload_n 0, 1) := by decide +kernel
theorem dX7_writeTrunk_75 : decode cX7_writeTrunk 75 = .ok (.getfield 10, 3) := by decide +kernel
theorem dX7_writeTrunk_78 : decode cX7_writeTrunk 78 = .ok (.getfield 108, 3) := by decide +kernel
theorem dX7_writeTrunk_81 : decode cX7_writeTrunk 81 = .ok (.getfield 223, 3) := by decide +kernel
theorem dX7_writeTrunk_84 : decode cX7_writeTrunk 84 = .ok (.iload_n 1, 1) := by decide +kernel
theorem dX7_writeTrunk_85 : decode cX7_writeTrunk 85 = .ok (.iaload, 1) := by decide +kernel
theorem dX7_writeTrunk_86 : decode cX7_writeTrunk 86 = .ok (.invokevirtual 388, 3) := by decide +kernel
theorem dX7_writeTrunk_89 : decode cX7_writeTrunk 89 = .ok (.pop, 1) := by decide +kernel
theorem dX7_writeTrunk_90 : decode cX7_writeTrunk 90 = .ok (.aload_n 0, 1) := by decide +kernel
theorem dX7_writeTrunk_91 : decode cX7_writeTrunk 91 = .ok (.getfield 10, 3) := by decide +kernel
theorem dX7_writeTrunk_94 : decode cX7_writeTrunk 94 = .ok (.getfield 108, 3) := by decide +kernel
theorem dX7_writeTrunk_97 : decode cX7_writeTrunk 97 = .ok (.getfield 186, 3) := by decide +kernel
theorem dX7_writeTrunk_100 : decode cX7_writeTrunk 100 = .ok (.iload_n 1, 1) := by decide +kernel
theorem dX7_writeTrunk_101 : decode cX7_writeTrunk 101 = .ok (.invokestatic 232, 3) := by decide +kernel
theorem dX7_writeTrunk_104 : decode cX7_writeTrunk 104 = .ok (.ifCond .eq 16, 3) := by decide +kernel
theorem dX7_writeTrunk_107 : decode cX7_writeTrunk 107 = .ok (.aload_n 0, 1) := by decide +kernel
theorem dX7_writeTrunk_108 : decode cX7_writeTrunk 108 = .ok (.getfield 53, 3) := by decide +kernel
theorem dX7_writeTrunk_111 : decode cX7_writeTrunk 111 = .ok (.bipush 120, 2) := by decide +kernel
theorem dX7_writeTrunk_113 : decode cX7_writeTrunk 113 = .ok (.invokevirtual 392, 3) := by decide +kernel
theorem dX7_writeTrunk_116 : decode cX7_writeTrunk 116 = .ok (.pop, 1) := by decide +kernel
theorem dX7_writeTrunk_117 : decode cX7_writeTrunk 117 = .ok (.goto 27, 3) := by decide +kernel
theorem dX7_writeTrunk_120 : decode cX7_writeTrunk 120 = .ok (.aload_n 0, 1) := by decide +kernel
theorem dX7_writeTrunk_121 : decode cX7_writeTrunk 121 = .ok (.getfield 10, 3) := by decide +kernel
theorem dX7_writeTrunk_124 : decode cX7_writeTrunk 124 = .ok (.invokevirtual 358, 3) := by decide +kernel
theorem dX7_writeTrunk_127 : decode cX7_writeTrunk 127 = .ok (.iload_n 1, 1) := by decide +kernel
theorem dX7_writeTrunk_128 : decode cX7_writeTrunk 128 = .ok (.invokestatic 232, 3) := by decide +kernel
theorem dX7_writeTrunk_131 : decode cX7_writeTrunk 131 = .ok (.ifCond .eq 13, 3) := by decide +kernel
theorem dX7_writeTrunk_134 : decode cX7_writeTrunk 134 = .ok (.aload_n 0, 1) := by decide +kernel
theorem dX7_writeTrunk_135 : decode cX7_writeTrunk 135 = .ok (.getfield 53, 3) := by decide +kernel
theorem dX7_writeTrunk_138 : decode cX7_writeTrunk 138 = .ok (.bipush 42, 2) := by decide +kernel
theorem dX7_writeTrunk_140 : decode cX7_writeTrunk 140 = .ok (.invokevirtual 392, 3) := by decide +kernel
theorem dX7_writeTrunk_143 : decode cX7_writeTrunk 143 = .ok (.pop, 1) := by decide +kernel
theorem dX7_writeTrunk_144 : decode cX7_writeTrunk 144 = .ok (.aload_n 0, 1) := by decide +kernel
theorem dX7_writeTrunk_145 : decode cX7_writeTrunk 145 = .ok (.getfield 53, 3) := by decide +kernel
theorem dX7_writeTrunk_148 : decode cX7_writeTrunk 148 = .ok (.invokevirtual 398, 3) := by decide +kernel
theorem dX7_writeTrunk_151 : decode cX7_writeTrunk 151 = .ok (.ireturn, 1) := by decide +kernel
theorem dX7_writeCalls_0 : decode cX7_writeCalls 0 = .ok (.aload_n 0, 1) := by decide +kernel
theorem dX7_writeCalls_1 : decode cX7_writeCalls 1 = .ok (.getfield 53, 3) := by decide +kernel
theorem dX7_writeCalls_4 : decode cX7_writeCalls 4 = .ok (.iconst 0, 1) := by decide +kernel
theorem dX7_writeCalls_5 : decode cX7_writeCalls 5 = .ok (.invokevirtual 380, 3) := by decide +kernel
theorem dX7_writeCalls_8 : decode cX7_writeCalls 8 = .ok (.iconst 0, 1) := by decide +kernel
theorem dX7_writeCalls_9 : decode cX7_writeCalls 9 = .ok (.istore_n 1, 1) := by decide +kernel
theorem dX7_writeCalls_10 : decode cX7_writeCalls 10 = .ok (.iload_n 1, 1) := by decide +kernel
theorem dX7_writeCalls_11 : decode cX7_writeCalls 11 = .ok (.aload_n 0, 1) := by decide +kernel
theorem dX7_writeCalls_12 : decode cX7_writeCalls 12 = .ok (.getfield 10, 3) := by decide +kernel
theorem dX7_writeCalls_15 : decode cX7_writeCalls 15 = .ok (.getfield 310, 3) := by decide +kernel
theorem dX7_writeCalls_18 : decode cX7_writeCalls 18 = .ok (.if_icmp .ge 69, 3) := by decide +kernel
theorem dX7_writeCalls_21 : decode cX7_writeCalls 21 = .ok (.iload_n 1, 1) := by decide +kernel
theorem dX7_writeCalls_22 : decode cX7_writeCalls 22 = .ok (.ifCond .le 13, 3) := by decide +kernel
theorem dX7_writeCalls_25 : decode cX7_writeCalls 25 = .ok (.aload_n 0, 1) := by decide +kernel
theorem dX7_writeCalls_26 : decode cX7_writeCalls 26 = .ok (.getfield 53, 3) := by decide +kernel
theorem dX7_writeCalls_29 : decode cX7_writeCalls 29 = .ok (.bipush 32, 2) := by decide +kernel
theorem dX7_writeCalls_31 : decode cX7_writeCalls 31 = .ok (.invokevirtual 392, 3) := by decide +kernel
theorem dX7_writeCalls_34 : decode cX7_writeCalls 34 = .ok (.pop, 1) := by decide +kernel
theorem dX7_writeCalls_35 : decode cX7_writeCalls 35 = .ok (.aload_n 0, 1) := by decide +kernel
theorem dX7_writeCalls_36 : decode cX7_writeCalls 36 = .ok (.getfield 10, 3) := by decide +kernel
theorem dX7_writeCalls_39 : decode cX7_writeCalls 39 = .ok (.getfield 195, 3) := by decide +kernel
theorem dX7_writeCalls_42 : decode cX7_writeCalls 42 = .ok (.iload_n 1, 1) := by decide +kernel
theorem dX7_writeCalls_43 : decode cX7_writeCalls 43 = .ok (.aaload, 1) := by decide +kernel
theorem dX7_writeCalls_44 : decode cX7_writeCalls 44 = .ok (.astore_n 2, 1) := by decide +kernel
theorem dX7_writeCalls_45 : decode cX7_writeCalls 45 = .ok (.aload_n 0, 1) := by decide +kernel
theorem dX7_writeCalls_46 : decode cX7_writeCalls 46 = .ok (.getfield 53, 3) := by decide +kernel
theorem dX7_writeCalls_49 : decode cX7_writeCalls 49 = .ok (.aload_n 2, 1) := by decide +kernel
theorem dX7_writeCalls_50 : decode cX7_writeCalls 50 = .ok (.getfield 204, 3) := by decide +kernel
theorem dX7_writeCalls_53 : decode cX7_writeCalls 53 = .ok (.invokevirtual 388, 3) := by decide +kernel
theorem dX7_writeCalls_56 : decode cX7_writeCalls 56 = .ok (.bipush 62, 2) := by decide +kernel
theorem dX7_writeCalls_58 : decode cX7_writeCalls 58 = .ok (.invokevirtual 392, 3) := by decide +kernel
theorem dX7_writeCalls_61 : decode cX7_writeCalls 61 = .ok (.aload_n 2, 1) := by decide +kernel
theorem dX7_writeCalls_62 : decode cX7_writeCalls 62 = .ok (.getfield 207, 3) := by decide +kernel
theorem dX7_writeCalls_65 : decode cX7_writeCalls 65 = .ok (.invokevirtual 388, 3) := by decide +kernel
theorem dX7_writeCalls_68 : decode cX7_writeCalls 68 = .ok (.bipush 58, 2) := by decide +kernel
theorem dX7_writeCalls_70 : decode cX7_writeCalls 70 = .ok (.invokevirtual 392, 3) := by decide +kernel
theorem dX7_writeCalls_73 : decode cX7_writeCalls 73 = .ok (.aload_n 2, 1) := by decide +kernel
theorem dX7_writeCalls_74 : decode cX7_writeCalls 74 = .ok (.getfield 295, 3) := by decide +kernel
theorem dX7_writeCalls_77 : decode cX7_writeCalls 77 = .ok (.invokevirtual 388, 3) := by decide +kernel
theorem dX7_writeCalls_80 : decode cX7_writeCalls 80 = .ok (.pop, 1) := by decide +kernel
theorem dX7_writeCalls_81 : decode cX7_writeCalls 81 = .ok (.iinc 1 1, 3) := by decide +kernel
theorem dX7_writeCalls_84 : decode cX7_writeCalls 84 = .ok (.goto (-74), 3) := by decide +kernel
theorem dX7_writeCalls_87 : decode cX7_writeCalls 87 = .ok (.aload_n 0, 1) := by decide +kernel
theorem dX7_writeCalls_88 : decode cX7_writeCalls 88 = .ok (.getfield 53, 3) := by decide +kernel
theorem dX7_writeCalls_91 : decode cX7_writeCalls 91 = .ok (.invokevirtual 398, 3) := by decide +kernel
theorem dX7_writeCalls_94 : decode cX7_writeCalls 94 = .ok (.ireturn, 1) := by decide +kernel
theorem dX7_charAt_0 : decode cX7_charAt 0 = .ok (.iload_n 1, 1) := by decide +kernel
theorem dX7_charAt_1 : decode cX7_charAt 1 = .ok (.ifCond .lt 14, 3) := by decide +kernel
theorem dX7_charAt_4 : decode cX7_charAt 4 = .ok (.iload_n 1, 1) := by decide +kernel
theorem dX7_charAt_5 : decode cX7_charAt 5 = .ok (.aload_n 0, 1) := by decide +kernel
theorem dX7_charAt_6 : decode cX7_charAt 6 = .ok (.getfield 53, 3) := by decide +kernel
theorem dX7_charAt_9 : decode cX7_charAt 9 = .ok (.invokevirtual 398, 3) := by decide +kernel
theorem dX7_charAt_12 : decode cX7_charAt 12 = .ok (.if_icmp .lt 14, 3) := by decide +kernel
theorem dX7_charAt_15 : decode cX7_charAt 15 = .ok (.new 86, 3) := by decide +kernel
theorem dX7_charAt_18 : decode cX7_charAt 18 = .ok (.dup, 1) := by decide +kernel
theorem dX7_charAt_19 : decode cX7_charAt 19 = .ok (.ldc_w 401, 3) := by decide +kernel
theorem dX7_charAt_22 : decode cX7_charAt 22 = .ok (.invokespecial 90, 3) := by decide +kernel
theorem dX7_charAt_25 : decode cX7_charAt 25 = .ok (.athrow, 1) := by decide +kernel
theorem dX7_charAt_26 : decode cX7_charAt 26 = .ok (.aload_n 0, 1) := by decide +kernel
theorem dX7_charAt_27 : decode cX7_charAt 27 = .ok (.getfield 53, 3) := by decide +kernel
theorem dX7_charAt_30 : decode cX7_charAt 30 = .ok (.iload_n 1, 1) := by decide +kernel
theorem dX7_charAt_31 : decode cX7_charAt 31 = .ok (.invokevirtual 403, 3) := by decide +kernel
theorem dX7_charAt_34 : decode cX7_charAt 34 = .ok (.ireturn, 1) := by decide +kernel
theorem dX7_type_0 : decode cX7_type 0 = .ok (.aload_n 0, 1) := by decide +kernel
theorem dX7_type_1 : decode cX7_type 1 = .ok (.getfield 39, 3) := by decide +kernel
theorem dX7_type_4 : decode cX7_type 4 = .ok (.getfield 407, 3) := by decide +kernel
theorem dX7_type_7 : decode cX7_type 7 = .ok (.bipush 60, 2) := by decide +kernel
theorem dX7_type_9 : decode cX7_type 9 = .ok (.if_icmp .lt 14, 3) := by decide +kernel
theorem dX7_type_12 : decode cX7_type 12 = .ok (.new 98, 3) := by decide +kernel
theorem dX7_type_15 : decode cX7_type 15 = .ok (.dup, 1) := by decide +kernel
theorem dX7_type_16 : decode cX7_type 16 = .ok (.ldc_w 410, 3) := by decide +kernel
theorem dX7_type_19 : decode cX7_type 19 = .ok (.invokespecial 102, 3) := by decide +kernel
theorem dX7_type_22 : decode cX7_type 22 = .ok (.athrow, 1) := by decide +kernel
theorem dX7_type_23 : decode cX7_type 23 = .ok (.aload_n 0, 1) := by decide +kernel
theorem dX7_type_24 : decode cX7_type 24 = .ok (.getfield 39, 3) := by decide +kernel
theorem dX7_type_27 : decode cX7_type 27 = .ok (.iload_n 1, 1) := by decide +kernel
theorem dX7_type_28 : decode cX7_type 28 = .ok (.invokevirtual 412, 3) := by decide +kernel
theorem dX7_type_31 : decode cX7_type 31 = .ok (.ireturn, 1) := by decide +kernel
theorem dX7_run_0 : decode cX7_run 0 = .ok (.aload_n 0, 1) := by decide +kernel
theorem dX7_run_1 : decode cX7_run 1 = .ok (.getfield 39, 3) := by decide +kernel
theorem dX7_run_4 : decode cX7_run 4 = .ok (.invokevirtual 415, 3) := by decide +kernel
theorem dX7_run_7 : decode cX7_run 7 = .ok (.istore_n 1, 1) := by decide +kernel
theorem dX7_run_8 : decode cX7_run 8 = .ok (.iload_n 1, 1) := by decide +kernel
theorem dX7_run_9 : decode cX7_run 9 = .ok (.iconst (-1), 1) := by decide +kernel
theorem dX7_run_10 : decode cX7_run 10 = .ok (.if_icmp .eq 19, 3) := by decide +kernel
theorem dX7_run_13 : decode cX7_run 13 = .ok (.aload_n 0, 1) := by decide +kernel
theorem dX7_run_14 : decode cX7_run 14 = .ok (.iload_n 1, 1) := by decide +kernel
theorem dX7_run_15 : decode cX7_run 15 = .ok (.putfield 61, 3) := by decide +kernel
theorem dX7_run_18 : decode cX7_run 18 = .ok (.new 93, 3) := by decide +kernel
theorem dX7_run_21 : decode cX7_run 21 = .ok (.dup, 1) := by decide +kernel
theorem dX7_run_22 : decode cX7_run 22 = .ok (.ldc_w 418, 3) := by decide +kernel
theorem dX7_run_25 : decode cX7_run 25 = .ok (.invokespecial 97, 3) := by decide +kernel
theorem dX7_run_28 : decode cX7_run 28 = .ok (.athrow, 1) := by decide +kernel
theorem dX7_run_29 : decode cX7_run 29 = .ok (.aload_n 0, 1) := by decide +kernel
theorem dX7_run_30 : decode cX7_run 30 = .ok (.getfield 19, 3) := by decide +kernel
theorem dX7_run_33 : decode cX7_run 33 = .ok (.aload_n 0, 1) := by decide +kernel
theorem dX7_run_34 : decode cX7_run 34 = .ok (.getfield 10, 3) := by decide +kernel
theorem dX7_run_37 : decode cX7_run 37 = .ok (.invokevirtual 420, 3) := by decide +kernel
theorem dX7_run_40 : decode cX7_run 40 = .ok (.aload_n 0, 1) := by decide +kernel
theorem dX7_run_41 : decode cX7_run 41 = .ok (.invokevirtual 423, 3) := by decide +kernel
theorem dX7_run_44 : decode cX7_run 44 = .ok (.istore_n 2, 1) := by decide +kernel
theorem dX7_run_45 : decode cX7_run 45 = .ok (.iload_n 2, 1) := by decide +kernel
theorem dX7_run_46 : decode cX7_run 46 = .ok (.iconst (-1), 1) := by decide +kernel
theorem dX7_run_47 : decode cX7_run 47 = .ok (.if_icmp .eq 30, 3) := by decide +kernel
theorem dX7_run_50 : decode cX7_run 50 = .ok (.aload_n 0, 1) := by decide +kernel
theorem dX7_run_51 : decode cX7_run 51 = .ok (.getfield 10, 3) := by decide +kernel
theorem dX7_run_54 : decode cX7_run 54 = .ok (.aload_n 0, 1) := by decide +kernel
theorem dX7_run_55 : decode cX7_run 55 = .ok (.getfield 19, 3) := by decide +kernel
theorem dX7_run_58 : decode cX7_run 58 = .ok (.invokevirtual 420, 3) := by decide +kernel
theorem dX7_run_61 : decode cX7_run 61 = .ok (.aload_n 0, 1) := by decide +kernel
theorem dX7_run_62 : decode cX7_run 62 = .ok (.iload_n 2, 1) := by decide +kernel
theorem dX7_run_63 : decode cX7_run 63 = .ok (.putfield 65, 3) := by decide +kernel
theorem dX7_run_66 : decode cX7_run 66 = .ok (.new 103, 3) := by decide +kernel
theorem dX7_run_69 : decode cX7_run 69 = .ok (.dup, 1) := by decide +kernel
theorem dX7_run_70 : decode cX7_run 70 = .ok (.ldc_w 426, 3) := by decide +kernel
theorem dX7_run_73 : decode cX7_run 73 = .ok (.invokespecial 107, 3) := by decide +kernel
theorem dX7_run_76 : decode cX7_run 76 = .ok (.athrow, 1) := by decide +kernel
theorem dX7_run_77 : decode cX7_run 77 = .ok (.aload_n 0, 1) := by decide +kernel
theorem dX7_run_78 : decode cX7_run 78 = .ok (.getfield 25, 3) := by decide +kernel
theorem dX7_run_81 : decode cX7_run 81 = .ok (.aload_n 0, 1) := by decide +kernel
theorem dX7_run_82 : decode cX7_run 82 = .ok (.getfield 19, 3) := by decide +kernel
theorem dX7_run_85 : decode cX7_run 85 = .ok (.invokevirtual 79, 3) := by decide +kernel
theorem dX7_run_88 : decode cX7_run 88 = .ok (.aload_n 0, 1) := by decide +kernel
theorem dX7_run_89 : decode cX7_run 89 = .ok (.getfield 39, 3) := by decide +kernel
theorem dX7_run_92 : decode cX7_run 92 = .ok (.getfield 428, 3) := by decide +kernel
theorem dX7_run_95 : decode cX7_run 95 = .ok (.ireturn, 1) := by decide +kernel
theorem dX7_errorPosition_0 : decode cX7_errorPosition 0 = .ok (.aload_n 0, 1) := by decide +kernel
theorem dX7_errorPosition_1 : decode cX7_errorPosition 1 = .ok (.getfield 61, 3) := by decide +kernel
theorem dX7_errorPosition_4 : decode cX7_errorPosition 4 = .ok (.iconst (-1), 1) := by decide +kernel
theorem dX7_errorPosition_5 : decode cX7_errorPosition 5 = .ok (.if_icmp .ne 14, 3) := by decide +kernel
theorem dX7_errorPosition_8 : decode cX7_errorPosition 8 = .ok (.new 236, 3) := by decide +kernel
theorem dX7_errorPosition_11 : decode cX7_errorPosition 11 = .ok (.dup, 1) := by decide +kernel
theorem dX7_errorPosition_12 : decode cX7_errorPosition 12 = .ok (.ldc_w 431, 3) := by decide +kernel
theorem dX7_errorPosition_15 : decode cX7_errorPosition 15 = .ok (.invokespecial 240, 3) := by decide +kernel
theorem dX7_errorPosition_18 : decode cX7_errorPosition 18 = .ok (.athrow, 1) := by decide +kernel
theorem dX7_errorPosition_19 : decode cX7_errorPosition 19 = .ok (.aload_n 0, 1) := by decide +kernel
theorem dX7_errorPosition_20 : decode cX7_errorPosition 20 = .ok (.getfield 61, 3) := by decide +kernel
theorem dX7_errorPosition_23 : decode cX7_errorPosition 23 = .ok (.ireturn, 1) := by decide +kernel
theorem dX7_failedCommand_0 : decode cX7_failedCommand 0 = .ok (.aload_n 0, 1) := by decide +kernel
theorem dX7_failedCommand_1 : decode cX7_failedCommand 1 = .ok (.getfield 65, 3) := by decide +kernel
theorem dX7_failedCommand_4 : decode cX7_failedCommand 4 = .ok (.iconst (-1), 1) := by decide +kernel
theorem dX7_failedCommand_5 : decode cX7_failedCommand 5 = .ok (.if_icmp .ne 14, 3) := by decide +kernel
theorem dX7_failedCommand_8 : decode cX7_failedCommand 8 = .ok (.new 236, 3) := by decide +kernel
theorem dX7_failedCommand_11 : decode cX7_failedCommand 11 = .ok (.dup, 1) := by decide +kernel
theorem dX7_failedCommand_12 : decode cX7_failedCommand 12 = .ok (.ldc_w 433, 3) := by decide +kernel
theorem dX7_failedCommand_15 : decode cX7_failedCommand 15 = .ok (.invokespecial 240, 3) := by decide +kernel
theorem dX7_failedCommand_18 : decode cX7_failedCommand 18 = .ok (.athrow, 1) := by decide +kernel
theorem dX7_failedCommand_19 : decode cX7_failedCommand 19 = .ok (.aload_n 0, 1) := by decide +kernel
theorem dX7_failedCommand_20 : decode cX7_failedCommand 20 = .ok (.getfield 65, 3) := by decide +kernel
theorem dX7_failedCommand_23 : decode cX7_failedCommand 23 = .ok (.ireturn, 1) := by decide +kernel
theorem dX7_performProgram_0 : decode cX7_performProgram 0 = .ok (.iconst 0, 1) := by decide +kernel
theorem dX7_performProgram_1 : decode cX7_performProgram 1 = .ok (.istore_n 1, 1) := by decide +kernel
theorem dX7_performProgram_2 : decode cX7_performProgram 2 = .ok (.iload_n 1, 1) := by decide +kernel
theorem dX7_performProgram_3 : decode cX7_performProgram 3 = .ok (.aload_n 0, 1) := by decide +kernel
theorem dX7_performProgram_4 : decode cX7_performProgram 4 = .ok (.getfield 39, 3) := by decide +kernel
theorem dX7_performProgram_7 : decode cX7_performProgram 7 = .ok (.getfield 428, 3) := by decide +kernel
theorem dX7_performProgram_10 : decode cX7_performProgram 10 = .ok (.if_icmp .ge 77, 3) := by decide +kernel
theorem dX7_performProgram_13 : decode cX7_performProgram 13 = .ok (.aload_n 0, 1) := by decide +kernel
theorem dX7_performProgram_14 : decode cX7_performProgram 14 = .ok (.getfield 39, 3) := by decide +kernel
theorem dX7_performProgram_17 : decode cX7_performProgram 17 = .ok (.getfield 435, 3) := by decide +kernel
theorem dX7_performProgram_20 : decode cX7_performProgram 20 = .ok (.iload_n 1, 1) := by decide +kernel
theorem dX7_performProgram_21 : decode cX7_performProgram 21 = .ok (.iaload, 1) := by decide +kernel
theorem dX7_performProgram_22 : decode cX7_performProgram 22 = .ok (.istore_n 2, 1) := by decide +kernel
theorem dX7_performProgram_23 : decode cX7_performProgram 23 = .ok (.aload_n 0, 1) := by decide +kernel
theorem dX7_performProgram_24 : decode cX7_performProgram 24 = .ok (.getfield 39, 3) := by decide +kernel
theorem dX7_performProgram_27 : decode cX7_performProgram 27 = .ok (.getfield 438, 3) := by decide +kernel
theorem dX7_performProgram_30 : decode cX7_performProgram 30 = .ok (.iload_n 1, 1) := by decide +kernel
theorem dX7_performProgram_31 : decode cX7_performProgram 31 = .ok (.iaload, 1) := by decide +kernel
theorem dX7_performProgram_32 : decode cX7_performProgram 32 = .ok (.istore_n 3, 1) := by decide +kernel
theorem dX7_performProgram_33 : decode cX7_performProgram 33 = .ok (.aload_n 0, 1) := by decide +kernel
theorem dX7_performProgram_34 : decode cX7_performProgram 34 = .ok (.getfield 39, 3) := by decide +kernel
theorem dX7_performProgram_37 : decode cX7_performProgram 37 = .ok (.getfield 441, 3) := by decide +kernel
theorem dX7_performProgram_40 : decode cX7_performProgram 40 = .ok (.iload_n 1, 1) := by decide +kernel
theorem dX7_performProgram_41 : decode cX7_performProgram 41 = .ok (.iaload, 1) := by decide +kernel
theorem dX7_performProgram_42 : decode cX7_performProgram 42 = .ok (.istore 4, 2) := by decide +kernel
theorem dX7_performProgram_44 : decode cX7_performProgram 44 = .ok (.aload_n 0, 1) := by decide +kernel
theorem dX7_performProgram_45 : decode cX7_performProgram 45 = .ok (.getfield 39, 3) := by decide +kernel
theorem dX7_performProgram_48 : decode cX7_performProgram 48 = .ok (.getfield 444, 3) := by decide +kernel
theorem dX7_performProgram_51 : decode cX7_performProgram 51 = .ok (.iload_n 1, 1) := by decide +kernel
theorem dX7_performProgram_52 : decode cX7_performProgram 52 = .ok (.iaload, 1) := by decide +kernel
theorem dX7_performProgram_53 : decode cX7_performProgram 53 = .ok (.istore 5, 2) := by decide +kernel
theorem dX7_performProgram_55 : decode cX7_performProgram 55 = .ok (.aload_n 0, 1) := by decide +kernel
theorem dX7_performProgram_56 : decode cX7_performProgram 56 = .ok (.iload_n 2, 1) := by decide +kernel
theorem dX7_performProgram_57 : decode cX7_performProgram 57 = .ok (.iload_n 3, 1) := by decide +kernel
theorem dX7_performProgram_58 : decode cX7_performProgram 58 = .ok (.iload 4, 2) := by decide +kernel
theorem dX7_performProgram_60 : decode cX7_performProgram 60 = .ok (.iload 5, 2) := by decide +kernel
theorem dX7_performProgram_62 : decode cX7_performProgram 62 = .ok (.invokevirtual 72, 3) := by decide +kernel
theorem dX7_performProgram_65 : decode cX7_performProgram 65 = .ok (.ifCond .eq 5, 3) := by decide +kernel
theorem dX7_performProgram_68 : decode cX7_performProgram 68 = .ok (.iload_n 1, 1) := by decide +kernel
theorem dX7_performProgram_69 : decode cX7_performProgram 69 = .ok (.ireturn, 1) := by decide +kernel
theorem dX7_performProgram_70 : decode cX7_performProgram 70 = .ok (.aload_n 0, 1) := by decide +kernel
theorem dX7_performProgram_71 : decode cX7_performProgram 71 = .ok (.iload_n 2, 1) := by decide +kernel
theorem dX7_performProgram_72 : decode cX7_performProgram 72 = .ok (.iload_n 3, 1) := by decide +kernel
theorem dX7_performProgram_73 : decode cX7_performProgram 73 = .ok (.iload 4, 2) := by decide +kernel
theorem dX7_performProgram_75 : decode cX7_performProgram 75 = .ok (.iload 5, 2) := by decide +kernel
theorem dX7_performProgram_77 : decode cX7_performProgram 77 = .ok (.invokevirtual 83, 3) := by decide +kernel
theorem dX7_performProgram_80 : decode cX7_performProgram 80 = .ok (.pop, 1) := by decide +kernel
theorem dX7_performProgram_81 : decode cX7_performProgram 81 = .ok (.iinc 1 1, 3) := by decide +kernel
theorem dX7_performProgram_84 : decode cX7_performProgram 84 = .ok (.goto (-82), 3) := by decide +kernel
theorem dX7_performProgram_87 : decode cX7_performProgram 87 = .ok (.iconst (-1), 1) := by decide +kernel
theorem dX7_performProgram_88 : decode cX7_performProgram 88 = .ok (.ireturn, 1) := by decide +kernel
theorem dX7_undo_0 : decode cX7_undo 0 = .ok (.aload_n 0, 1) := by decide +kernel
theorem dX7_undo_1 : decode cX7_undo 1 = .ok (.getfield 25, 3) := by decide +kernel
theorem dX7_undo_4 : decode cX7_undo 4 = .ok (.getfield 447, 3) := by decide +kernel
theorem dX7_undo_7 : decode cX7_undo 7 = .ok (.ifCond .ne 14, 3) := by decide +kernel
theorem dX7_undo_10 : decode cX7_undo 10 = .ok (.new 98, 3) := by decide +kernel
theorem dX7_undo_13 : decode cX7_undo 13 = .ok (.dup, 1) := by decide +kernel
theorem dX7_undo_14 : decode cX7_undo 14 = .ok (.ldc_w 448, 3) := by decide +kernel
theorem dX7_undo_17 : decode cX7_undo 17 = .ok (.invokespecial 102, 3) := by decide +kernel
theorem dX7_undo_20 : decode cX7_undo 20 = .ok (.athrow, 1) := by decide +kernel
theorem dX7_undo_21 : decode cX7_undo 21 = .ok (.aload_n 0, 1) := by decide +kernel
theorem dX7_undo_22 : decode cX7_undo 22 = .ok (.getfield 25, 3) := by decide +kernel
theorem dX7_undo_25 : decode cX7_undo 25 = .ok (.aload_n 0, 1) := by decide +kernel
theorem dX7_undo_26 : decode cX7_undo 26 = .ok (.getfield 10, 3) := by decide +kernel
theorem dX7_undo_29 : decode cX7_undo 29 = .ok (.invokevirtual 450, 3) := by decide +kernel
theorem dX7_undo_32 : decode cX7_undo 32 = .ok (.aload_n 0, 1) := by decide +kernel
theorem dX7_undo_33 : decode cX7_undo 33 = .ok (.getfield 25, 3) := by decide +kernel
theorem dX7_undo_36 : decode cX7_undo 36 = .ok (.getfield 447, 3) := by decide +kernel
theorem dX7_undo_39 : decode cX7_undo 39 = .ok (.ireturn, 1) := by decide +kernel
theorem dX7_save_0 : decode cX7_save 0 = .ok (.aload_n 0, 1) := by decide +kernel
theorem dX7_save_1 : decode cX7_save 1 = .ok (.getfield 16, 3) := by decide +kernel
theorem dX7_save_4 : decode cX7_save 4 = .ok (.aload_n 0, 1) := by decide +kernel
theorem dX7_save_5 : decode cX7_save 5 = .ok (.getfield 10, 3) := by decide +kernel
theorem dX7_save_8 : decode cX7_save 8 = .ok (.invokevirtual 420, 3) := by decide +kernel
theorem dX7_save_11 : decode cX7_save 11 = .ok (.aload_n 0, 1) := by decide +kernel
theorem dX7_save_12 : decode cX7_save 12 = .ok (.iconst 1, 1) := by decide +kernel
theorem dX7_save_13 : decode cX7_save 13 = .ok (.putfield 57, 3) := by decide +kernel
theorem dX7_save_16 : decode cX7_save 16 = .ok (.aload_n 0, 1) := by decide +kernel
theorem dX7_save_17 : decode cX7_save 17 = .ok (.getfield 10, 3) := by decide +kernel
theorem dX7_save_20 : decode cX7_save 20 = .ok (.getfield 279, 3) := by decide +kernel
theorem dX7_save_23 : decode cX7_save 23 = .ok (.ireturn, 1) := by decide +kernel
theorem dX7_restore_0 : decode cX7_restore 0 = .ok (.aload_n 0, 1) := by decide +kernel
theorem dX7_restore_1 : decode cX7_restore 1 = .ok (.getfield 57, 3) := by decide +kernel
theorem dX7_restore_4 : decode cX7_restore 4 = .ok (.ifCond .ne 14, 3) := by decide +kernel
theorem dX7_restore_7 : decode cX7_restore 7 = .ok (.new 98, 3) := by decide +kernel
theorem dX7_restore_10 : decode cX7_restore 10 = .ok (.dup, 1) := by decide +kernel
theorem dX7_restore_11 : decode cX7_restore 11 = .ok (.ldc_w 453, 3) := by decide +kernel
theorem dX7_restore_14 : decode cX7_restore 14 = .ok (.invokespecial 102, 3) := by decide +kernel
theorem dX7_restore_17 : decode cX7_restore 17 = .ok (.athrow, 1) := by decide +kernel
theorem dX7_restore_18 : decode cX7_restore 18 = .ok (.aload_n 0, 1) := by decide +kernel
theorem dX7_restore_19 : decode cX7_restore 19 = .ok (.getfield 10, 3) := by decide +kernel
theorem dX7_restore_22 : decode cX7_restore 22 = .ok (.aload_n 0, 1) := by decide +kernel
theorem dX7_restore_23 : decode cX7_restore 23 = .ok (.getfield 16, 3) := by decide +kernel
theorem dX7_restore_26 : decode cX7_restore 26 = .ok (.invokevirtual 420, 3) := by decide +kernel
theorem dX7_restore_29 : decode cX7_restore 29 = .ok (.aload_n 0, 1) := by decide +kernel
theorem dX7_restore_30 : decode cX7_restore 30 = .ok (.getfield 25, 3) := by decide +kernel
theorem dX7_restore_33 : decode cX7_restore 33 = .ok (.invokevirtual 455, 3) := by decide +kernel
theorem dX7_restore_36 : decode cX7_restore 36 = .ok (.aload_n 0, 1) := by decide +kernel
theorem dX7_restore_37 : decode cX7_restore 37 = .ok (.getfield 10, 3) := by decide +kernel
theorem dX7_restore_40 : decode cX7_restore 40 = .ok (.getfield 279, 3) := by decide +kernel
theorem dX7_restore_43 : decode cX7_restore 43 = .ok (.ireturn, 1) := by decide +kernel
theorem dX7_bit_0 : decode cX7_bit 0 = .ok (.iconst 1, 1) := by decide +kernel
theorem dX7_bit_1 : decode cX7_bit 1 = .ok (.iload_n 0, 1) := by decide +kernel
theorem dX7_bit_2 : decode cX7_bit 2 = .ok (.ishl, 1) := by decide +kernel
theorem dX7_bit_3 : decode cX7_bit 3 = .ok (.ireturn, 1) := by decide +kernel
theorem dX7_hasBit_0 : decode cX7_hasBit 0 = .ok (.iload_n 0, 1) := by decide +kernel
theorem dX7_hasBit_1 : decode cX7_hasBit 1 = .ok (.iload_n 1, 1) := by decide +kernel
theorem dX7_hasBit_2 : decode cX7_hasBit 2 = .ok (.ishr, 1) := by decide +kernel
theorem dX7_hasBit_3 : decode cX7_hasBit 3 = .ok (.iconst 1, 1) := by decide +kernel
theorem dX7_hasBit_4 : decode cX7_hasBit 4 = .ok (.iand, 1) := by decide +kernel
theorem dX7_hasBit_5 : decode cX7_hasBit 5 = .ok (.ifCond .eq 7, 3) := by decide +kernel
theorem dX7_hasBit_8 : decode cX7_hasBit 8 = .ok (.iconst 1, 1) := by decide +kernel
theorem dX7_hasBit_9 : decode cX7_hasBit 9 = .ok (.goto 4, 3) := by decide +kernel
theorem dX7_hasBit_12 : decode cX7_hasBit 12 = .ok (.iconst 0, 1) := by decide +kernel
theorem dX7_hasBit_13 : decode cX7_hasBit 13 = .ok (.ireturn, 1) := by decide +kernel
theorem dX7_copyRow_0 : decode cX7_copyRow 0 = .ok (.aload_n 0, 1) := by decide +kernel
theorem dX7_copyRow_1 : decode cX7_copyRow 1 = .ok (.iconst 0, 1) := by decide +kernel
theorem dX7_copyRow_2 : decode cX7_copyRow 2 = .ok (.aload_n 1, 1) := by decide +kernel
theorem dX7_copyRow_3 : decode cX7_copyRow 3 = .ok (.iconst 0, 1) := by decide +kernel
theorem dX7_copyRow_4 : decode cX7_copyRow 4 = .ok (.aload_n 0, 1) := by decide +kernel
theorem dX7_copyRow_5 : decode cX7_copyRow 5 = .ok (.arraylength, 1) := by decide +kernel
theorem dX7_copyRow_6 : decode cX7_copyRow 6 = .ok (.aload_n 1, 1) := by decide +kernel
theorem dX7_copyRow_7 : decode cX7_copyRow 7 = .ok (.arraylength, 1) := by decide +kernel
theorem dX7_copyRow_8 : decode cX7_copyRow 8 = .ok (.invokestatic 383, 3) := by decide +kernel
theorem dX7_copyRow_11 : decode cX7_copyRow 11 = .ok (.invokestatic 458, 3) := by decide +kernel
theorem dX7_copyRow_14 : decode cX7_copyRow 14 = .ok (.return_, 1) := by decide +kernel
