theorem dX8_init_0 : decode cX8_init 0 = .ok (.aload_n 0, 1) := by decide +kernel
theorem dX8_init_1 : decode cX8_init 1 = .ok (.invokespecial 1, 3) := by decide +kernel
theorem dX8_init_4 : decode cX8_init 4 = .ok (.aload_n 0, 1) := by decide +kernel
theorem dX8_init_5 : decode cX8_init 5 = .ok (.sipush 180, 3) := by decide +kernel
theorem dX8_init_8 : decode cX8_init 8 = .ok (.newarray .int, 2) := by decide +kernel
theorem dX8_init_10 : decode cX8_init 10 = .ok (.putfield 7, 3) := by decide +kernel
theorem dX8_init_13 : decode cX8_init 13 = .ok (.aload_n 0, 1) := by decide +kernel
theorem dX8_init_14 : decode cX8_init 14 = .ok (.sipush 180, 3) := by decide +kernel
theorem dX8_init_17 : decode cX8_init 17 = .ok (.newarray .int, 2) := by decide +kernel
theorem dX8_init_19 : decode cX8_init 19 = .ok (.putfield 13, 3) := by decide +kernel
theorem dX8_init_22 : decode cX8_init 22 = .ok (.aload_n 0, 1) := by decide +kernel
theorem dX8_init_23 : decode cX8_init 23 = .ok (.sipush 180, 3) := by decide +kernel
theorem dX8_init_26 : decode cX8_init 26 = .ok (.newarray .int, 2) := by decide +kernel
theorem dX8_init_28 : decode cX8_init 28 = .ok (.putfield 16, 3) := by decide +kernel
theorem dX8_init_31 : decode cX8_init 31 = .ok (.aload_n 0, 1) := by decide +kernel
theorem dX8_init_32 : decode cX8_init 32 = .ok (.sipush 1440, 3) := by decide +kernel
theorem dX8_init_35 : decode cX8_init 35 = .ok (.newarray .int, 2) := by decide +kernel
theorem dX8_init_37 : decode cX8_init 37 = .ok (.putfield 19, 3) := by decide +kernel
theorem dX8_init_40 : decode cX8_init 40 = .ok (.aload_n 0, 1) := by decide +kernel
theorem dX8_init_41 : decode cX8_init 41 = .ok (.bipush 24, 2) := by decide +kernel
theorem dX8_init_43 : decode cX8_init 43 = .ok (.newarray .int, 2) := by decide +kernel
theorem dX8_init_45 : decode cX8_init 45 = .ok (.putfield 22, 3) := by decide +kernel
theorem dX8_init_48 : decode cX8_init 48 = .ok (.aload_n 0, 1) := by decide +kernel
theorem dX8_init_49 : decode cX8_init 49 = .ok (.bipush 8, 2) := by decide +kernel
theorem dX8_init_51 : decode cX8_init 51 = .ok (.newarray .int, 2) := by decide +kernel
theorem dX8_init_53 : decode cX8_init 53 = .ok (.putfield 25, 3) := by decide +kernel
theorem dX8_init_56 : decode cX8_init 56 = .ok (.aload_n 0, 1) := by decide +kernel
theorem dX8_init_57 : decode cX8_init 57 = .ok (.bipush 8, 2) := by decide +kernel
theorem dX8_init_59 : decode cX8_init 59 = .ok (.newarray .int, 2) := by decide +kernel
theorem dX8_init_61 : decode cX8_init 61 = .ok (.putfield 28, 3) := by decide +kernel
theorem dX8_init_64 : decode cX8_init 64 = .ok (.aload_n 0, 1) := by decide +kernel
theorem dX8_init_65 : decode cX8_init 65 = .ok (.bipush 8, 2) := by decide +kernel
theorem dX8_init_67 : decode cX8_init 67 = .ok (.newarray .int, 2) := by decide +kernel
theorem dX8_init_69 : decode cX8_init 69 = .ok (.putfield 31, 3) := by decide +kernel
theorem dX8_init_72 : decode cX8_init 72 = .ok (.aload_n 0, 1) := by decide +kernel
theorem dX8_init_73 : decode cX8_init 73 = .ok (.iconst 0, 1) := by decide +kernel
theorem dX8_init_74 : decode cX8_init 74 = .ok (.putfield 34, 3) := by decide +kernel
theorem dX8_init_77 : decode cX8_init 77 = .ok (.aload_n 0, 1) := by decide +kernel
theorem dX8_init_78 : decode cX8_init 78 = .ok (.iconst 0, 1) := by decide +kernel
theorem dX8_init_79 : decode cX8_init 79 = .ok (.putfield 38, 3) := by decide +kernel
theorem dX8_init_82 : decode cX8_init 82 = .ok (.aload_n 0, 1) := by decide +kernel
theorem dX8_init_83 : decode cX8_init 83 = .ok (.iconst (-1), 1) := by decide +kernel
theorem dX8_init_84 : decode cX8_init 84 = .ok (.putfield 41, 3) := by decide +kernel
theorem dX8_init_87 : decode cX8_init 87 = .ok (.aload_n 0, 1) := by decide +kernel
theorem dX8_init_88 : decode cX8_init 88 = .ok (.iconst (-1), 1) := by decide +kernel
theorem dX8_init_89 : decode cX8_init 89 = .ok (.putfield 44, 3) := by decide +kernel
theorem dX8_init_92 : decode cX8_init 92 = .ok (.aload_n 0, 1) := by decide +kernel
theorem dX8_init_93 : decode cX8_init 93 = .ok (.iconst 0, 1) := by decide +kernel
theorem dX8_init_94 : decode cX8_init 94 = .ok (.putfield 47, 3) := by decide +kernel
theorem dX8_init_97 : decode cX8_init 97 = .ok (.aload_n 0, 1) := by decide +kernel
theorem dX8_init_98 : decode cX8_init 98 = .ok (.iconst 0, 1) := by decide +kernel
theorem dX8_init_99 : decode cX8_init 99 = .ok (.putfield 50, 3) := by decide +kernel
theorem dX8_init_102 : decode cX8_init 102 = .ok (.aload_n 0, 1) := by decide +kernel
theorem dX8_init_103 : decode cX8_init 103 = .ok (.iconst 0, 1) := by decide +kernel
theorem dX8_init_104 : decode cX8_init 104 = .ok (.putfield 53, 3) := by decide +kernel
theorem dX8_init_107 : decode cX8_init 107 = .ok (.aload_n 0, 1) := by decide +kernel
theorem dX8_init_108 : decode cX8_init 108 = .ok (.bipush 80, 2) := by decide +kernel
theorem dX8_init_110 : decode cX8_init 110 = .ok (.newarray .int, 2) := by decide +kernel
theorem dX8_init_112 : decode cX8_init 112 = .ok (.putfield 57, 3) := by decide +kernel
theorem dX8_init_115 : decode cX8_init 115 = .ok (.aload_n 0, 1) := by decide +kernel
theorem dX8_init_116 : decode cX8_init 116 = .ok (.iconst 0, 1) := by decide +kernel
theorem dX8_init_117 : decode cX8_init 117 = .ok (.putfield 60, 3) := by decide +kernel
theorem dX8_init_120 : decode cX8_init 120 = .ok (.aload_n 0, 1) := by decide +kernel
theorem dX8_init_121 : decode cX8_init 121 = .ok (.bipush 60, 2) := by decide +kernel
theorem dX8_init_123 : decode cX8_init 123 = .ok (.newarray .int, 2) := by decide +kernel
theorem dX8_init_125 : decode cX8_init 125 = .ok (.putfield 63, 3) := by decide +kernel
theorem dX8_init_128 : decode cX8_init 128 = .ok (.aload_n 0, 1) := by decide +kernel
theorem dX8_init_129 : decode cX8_init 129 = .ok (.bipush 32, 2) := by decide +kernel
theorem dX8_init_131 : decode cX8_init 131 = .ok (.newarray .int, 2) := by decide +kernel
theorem dX8_init_133 : decode cX8_init 133 = .ok (.putfield 66, 3) := by decide +kernel
theorem dX8_init_136 : decode cX8_init 136 = .ok (.aload_n 0, 1) := by decide +kernel
theorem dX8_init_137 : decode cX8_init 137 = .ok (.bipush 96, 2) := by decide +kernel
theorem dX8_init_139 : decode cX8_init 139 = .ok (.newarray .int, 2) := by decide +kernel
theorem dX8_init_141 : decode cX8_init 141 = .ok (.putfield 69, 3) := by decide +kernel
theorem dX8_init_144 : decode cX8_init 144 = .ok (.aload_n 0, 1) := by decide +kernel
theorem dX8_init_145 : decode cX8_init 145 = .ok (.iconst 0, 1) := by decide +kernel
theorem dX8_init_146 : decode cX8_init 146 = .ok (.putfield 72, 3) := by decide +kernel
theorem dX8_init_149 : decode cX8_init 149 = .ok (.aload_n 0, 1) := by decide +kernel
theorem dX8_init_150 : decode cX8_init 150 = .ok (.iconst 0, 1) := by decide +kernel
theorem dX8_init_151 : decode cX8_init 151 = .ok (.putfield 75, 3) := by decide +kernel
theorem dX8_init_154 : decode cX8_init 154 = .ok (.aload_n 0, 1) := by decide +kernel
theorem dX8_init_155 : decode cX8_init 155 = .ok (.iconst 0, 1) := by decide +kernel
theorem dX8_init_156 : decode cX8_init 156 = .ok (.putfield 78, 3) := by decide +kernel
theorem dX8_init_159 : decode cX8_init 159 = .ok (.aload_n 0, 1) := by decide +kernel
theorem dX8_init_160 : decode cX8_init 160 = .ok (.iconst 0, 1) := by decide +kernel
theorem dX8_init_161 : decode cX8_init 161 = .ok (.putfield 81, 3) := by decide +kernel
theorem dX8_init_164 : decode cX8_init 164 = .ok (.aload_n 0, 1) := by decide +kernel
theorem dX8_init_165 : decode cX8_init 165 = .ok (.iconst 0, 1) := by decide +kernel
theorem dX8_init_166 : decode cX8_init 166 = .ok (.putfield 84, 3) := by decide +kernel
theorem dX8_init_169 : decode cX8_init 169 = .ok (.return_, 1) := by decide +kernel
theorem dX8_thrown_0 : decode cX8_thrown 0 = .ok (.aload_n 0, 1) := by decide +kernel
theorem dX8_thrown_1 : decode cX8_thrown 1 = .ok (.getfield 34, 3) := by decide +kernel
theorem dX8_thrown_4 : decode cX8_thrown 4 = .ok (.ireturn, 1) := by decide +kernel
theorem dX8_in_0 : decode cX8_in 0 = .ok (.iload_n 0, 1) := by decide +kernel
theorem dX8_in_1 : decode cX8_in 1 = .ok (.iload_n 1, 1) := by decide +kernel
theorem dX8_in_2 : decode cX8_in 2 = .ok (.if_icmp .lt 12, 3) := by decide +kernel
theorem dX8_in_5 : decode cX8_in 5 = .ok (.iload_n 0, 1) := by decide +kernel
theorem dX8_in_6 : decode cX8_in 6 = .ok (.iload_n 2, 1) := by decide +kernel
theorem dX8_in_7 : decode cX8_in 7 = .ok (.if_icmp .gt 7, 3) := by decide +kernel
theorem dX8_in_10 : decode cX8_in 10 = .ok (.iconst 1, 1) := by decide +kernel
theorem dX8_in_11 : decode cX8_in 11 = .ok (.goto 4, 3) := by decide +kernel
theorem dX8_in_14 : decode cX8_in 14 = .ok (.iconst 0, 1) := by decide +kernel
theorem dX8_in_15 : decode cX8_in 15 = .ok (.ireturn, 1) := by decide +kernel
theorem dX8_copy_0 : decode cX8_copy 0 = .ok (.iconst 0, 1) := by decide +kernel
theorem dX8_copy_1 : decode cX8_copy 1 = .ok (.istore 4, 2) := by decide +kernel
theorem dX8_copy_3 : decode cX8_copy 3 = .ok (.iload 4, 2) := by decide +kernel
theorem dX8_copy_5 : decode cX8_copy 5 = .ok (.sipush 180, 3) := by decide +kernel
theorem dX8_copy_8 : decode cX8_copy 8 = .ok (.if_icmp .ge 21, 3) := by decide +kernel
theorem dX8_copy_11 : decode cX8_copy 11 = .ok (.aload_n 2, 1) := by decide +kernel
theorem dX8_copy_12 : decode cX8_copy 12 = .ok (.iload_n 3, 1) := by decide +kernel
theorem dX8_copy_13 : decode cX8_copy 13 = .ok (.iload 4, 2) := by decide +kernel
theorem dX8_copy_15 : decode cX8_copy 15 = .ok (.iadd, 1) := by decide +kernel
theorem dX8_copy_16 : decode cX8_copy 16 = .ok (.aload_n 0, 1) := by decide +kernel
theorem dX8_copy_17 : decode cX8_copy 17 = .ok (.iload_n 1, 1) := by decide +kernel
theorem dX8_copy_18 : decode cX8_copy 18 = .ok (.iload 4, 2) := by decide +kernel
theorem dX8_copy_20 : decode cX8_copy 20 = .ok (.iadd, 1) := by decide +kernel
theorem dX8_copy_21 : decode cX8_copy 21 = .ok (.iaload, 1) := by decide +kernel
theorem dX8_copy_22 : decode cX8_copy 22 = .ok (.iastore, 1) := by decide +kernel
theorem dX8_copy_23 : decode cX8_copy 23 = .ok (.iinc 4 1, 3) := by decide +kernel
theorem dX8_copy_26 : decode cX8_copy 26 = .ok (.goto (-23), 3) := by decide +kernel
theorem dX8_copy_29 : decode cX8_copy 29 = .ok (.return_, 1) := by decide +kernel
theorem dX8_fail_0 : decode cX8_fail 0 = .ok (.aload_n 0, 1) := by decide +kernel
theorem dX8_fail_1 : decode cX8_fail 1 = .ok (.iload_n 1, 1) := by decide +kernel
theorem dX8_fail_2 : decode cX8_fail 2 = .ok (.putfield 34, 3) := by decide +kernel
theorem dX8_fail_5 : decode cX8_fail 5 = .ok (.iconst 0, 1) := by decide +kernel
theorem dX8_fail_6 : decode cX8_fail 6 = .ok (.ireturn, 1) := by decide +kernel
theorem dX8_begin_0 : decode cX8_begin 0 = .ok (.aload_n 0, 1) := by decide +kernel
theorem dX8_begin_1 : decode cX8_begin 1 = .ok (.iconst 0, 1) := by decide +kernel
theorem dX8_begin_2 : decode cX8_begin 2 = .ok (.putfield 34, 3) := by decide +kernel
theorem dX8_begin_5 : decode cX8_begin 5 = .ok (.aload_n 0, 1) := by decide +kernel
theorem dX8_begin_6 : decode cX8_begin 6 = .ok (.getfield 7, 3) := by decide +kernel
theorem dX8_begin_9 : decode cX8_begin 9 = .ok (.iconst 0, 1) := by decide +kernel
theorem dX8_begin_10 : decode cX8_begin 10 = .ok (.aload_n 0, 1) := by decide +kernel
theorem dX8_begin_11 : decode cX8_begin 11 = .ok (.getfield 13, 3) := by decide +kernel
theorem dX8_begin_14 : decode cX8_begin 14 = .ok (.iconst 0, 1) := by decide +kernel
theorem dX8_begin_15 : decode cX8_begin 15 = .ok (.invokestatic 87, 3) := by decide +kernel
theorem dX8_begin_18 : decode cX8_begin 18 = .ok (.return_, 1) := by decide +kernel
theorem dX8_commit_0 : decode cX8_commit 0 = .ok (.aload_n 0, 1) := by decide +kernel
theorem dX8_commit_1 : decode cX8_commit 1 = .ok (.getfield 38, 3) := by decide +kernel
theorem dX8_commit_4 : decode cX8_commit 4 = .ok (.bipush 8, 2) := by decide +kernel
theorem dX8_commit_6 : decode cX8_commit 6 = .ok (.if_icmp .ne 50, 3) := by decide +kernel
theorem dX8_commit_9 : decode cX8_commit 9 = .ok (.iconst 1, 1) := by decide +kernel
theorem dX8_commit_10 : decode cX8_commit 10 = .ok (.istore_n 2, 1) := by decide +kernel
theorem dX8_commit_11 : decode cX8_commit 11 = .ok (.iload_n 2, 1) := by decide +kernel
theorem dX8_commit_12 : decode cX8_commit 12 = .ok (.bipush 8, 2) := by decide +kernel
theorem dX8_commit_14 : decode cX8_commit 14 = .ok (.if_icmp .ge 32, 3) := by decide +kernel
theorem dX8_commit_17 : decode cX8_commit 17 = .ok (.aload_n 0, 1) := by decide +kernel
theorem dX8_commit_18 : decode cX8_commit 18 = .ok (.getfield 19, 3) := by decide +kernel
theorem dX8_commit_21 : decode cX8_commit 21 = .ok (.sipush 180, 3) := by decide +kernel
theorem dX8_commit_24 : decode cX8_commit 24 = .ok (.iload_n 2, 1) := by decide +kernel
theorem dX8_commit_25 : decode cX8_commit 25 = .ok (.imul, 1) := by decide +kernel
theorem dX8_commit_26 : decode cX8_commit 26 = .ok (.aload_n 0, 1) := by decide +kernel
theorem dX8_commit_27 : decode cX8_commit 27 = .ok (.getfield 19, 3) := by decide +kernel
theorem dX8_commit_30 : decode cX8_commit 30 = .ok (.sipush 180, 3) := by decide +kernel
theorem dX8_commit_33 : decode cX8_commit 33 = .ok (.iload_n 2, 1) := by decide +kernel
theorem dX8_commit_34 : decode cX8_commit 34 = .ok (.iconst 1, 1) := by decide +kernel
theorem dX8_commit_35 : decode cX8_commit 35 = .ok (.isub, 1) := by decide +kernel
theorem dX8_commit_36 : decode cX8_commit 36 = .ok (.imul, 1) := by decide +kernel
theorem dX8_commit_37 : decode cX8_commit 37 = .ok (.invokestatic 87, 3) := by decide +kernel
theorem dX8_commit_40 : decode cX8_commit 40 = .ok (.iinc 2 1, 3) := by decide +kernel
theorem dX8_commit_43 : decode cX8_commit 43 = .ok (.goto (-32), 3) := by decide +kernel
theorem dX8_commit_46 : decode cX8_commit 46 = .ok (.aload_n 0, 1) := by decide +kernel
theorem dX8_commit_47 : decode cX8_commit 47 = .ok (.dup, 1) := by decide +kernel
theorem dX8_commit_48 : decode cX8_commit 48 = .ok (.getfield 38, 3) := by decide +kernel
theorem dX8_commit_51 : decode cX8_commit 51 = .ok (.iconst 1, 1) := by decide +kernel
theorem dX8_commit_52 : decode cX8_commit 52 = .ok (.isub, 1) := by decide +kernel
theorem dX8_commit_53 : decode cX8_commit 53 = .ok (.putfield 38, 3) := by decide +kernel
theorem dX8_commit_56 : decode cX8_commit 56 = .ok (.aload_n 0, 1) := by decide +kernel
theorem dX8_commit_57 : decode cX8_commit 57 = .ok (.getfield 13, 3) := by decide +kernel
theorem dX8_commit_60 : decode cX8_commit 60 = .ok (.iconst 0, 1) := by decide +kernel
theorem dX8_commit_61 : decode cX8_commit 61 = .ok (.aload_n 0, 1) := by decide +kernel
theorem dX8_commit_62 : decode cX8_commit 62 = .ok (.getfield 19, 3) := by decide +kernel
theorem dX8_commit_65 : decode cX8_commit 65 = .ok (.sipush 180, 3) := by decide +kernel
theorem dX8_commit_68 : decode cX8_commit 68 = .ok (.aload_n 0, 1) := by decide +kernel
theorem dX8_commit_69 : decode cX8_commit 69 = .ok (.getfield 38, 3) := by decide +kernel
theorem dX8_commit_72 : decode cX8_commit 72 = .ok (.imul, 1) := by decide +kernel
theorem dX8_commit_73 : decode cX8_commit 73 = .ok (.invokestatic 87, 3) := by decide +kernel
theorem dX8_commit_76 : decode cX8_commit 76 = .ok (.aload_n 0, 1) := by decide +kernel
theorem dX8_commit_77 : decode cX8_commit 77 = .ok (.dup, 1) := by decide +kernel
theorem dX8_commit_78 : decode cX8_commit 78 = .ok (.getfield 38, 3) := by decide +kernel
theorem dX8_commit_81 : decode cX8_commit 81 = .ok (.iconst 1, 1) := by decide +kernel
theorem dX8_commit_82 : decode cX8_commit 82 = .ok (.iadd, 1) := by decide +kernel
theorem dX8_commit_83 : decode cX8_commit 83 = .ok (.putfield 38, 3) := by decide +kernel
theorem dX8_commit_86 : decode cX8_commit 86 = .ok (.iload_n 1, 1) := by decide +kernel
theorem dX8_commit_87 : decode cX8_commit 87 = .ok (.ireturn, 1) := by decide +kernel
theorem dX8_t_0 : decode cX8_t 0 = .ok (.aload_n 0, 1) := by decide +kernel
theorem dX8_t_1 : decode cX8_t 1 = .ok (.getfield 7, 3) := by decide +kernel
theorem dX8_t_4 : decode cX8_t 4 = .ok (.bipush 8, 2) := by decide +kernel
theorem dX8_t_6 : decode cX8_t 6 = .ok (.iconst 5, 1) := by decide +kernel
theorem dX8_t_7 : decode cX8_t 7 = .ok (.iload_n 1, 1) := by decide +kernel
theorem dX8_t_8 : decode cX8_t 8 = .ok (.imul, 1) := by decide +kernel
theorem dX8_t_9 : decode cX8_t 9 = .ok (.iadd, 1) := by decide +kernel
theorem dX8_t_10 : decode cX8_t 10 = .ok (.iload_n 2, 1) := by decide +kernel
theorem dX8_t_11 : decode cX8_t 11 = .ok (.iadd, 1) := by decide +kernel
theorem dX8_t_12 : decode cX8_t 12 = .ok (.iaload, 1) := by decide +kernel
theorem dX8_t_13 : decode cX8_t 13 = .ok (.ireturn, 1) := by decide +kernel
theorem dX8_setTrunk_0 : decode cX8_setTrunk 0 = .ok (.aload_n 0, 1) := by decide +kernel
theorem dX8_setTrunk_1 : decode cX8_setTrunk 1 = .ok (.getfield 7, 3) := by decide +kernel
theorem dX8_setTrunk_4 : decode cX8_setTrunk 4 = .ok (.bipush 8, 2) := by decide +kernel
theorem dX8_setTrunk_6 : decode cX8_setTrunk 6 = .ok (.iconst 5, 1) := by decide +kernel
theorem dX8_setTrunk_7 : decode cX8_setTrunk 7 = .ok (.iload_n 1, 1) := by decide +kernel
theorem dX8_setTrunk_8 : decode cX8_setTrunk 8 = .ok (.imul, 1) := by decide +kernel
theorem dX8_setTrunk_9 : decode cX8_setTrunk 9 = .ok (.iadd, 1) := by decide +kernel
theorem dX8_setTrunk_10 : decode cX8_setTrunk 10 = .ok (.iload_n 2, 1) := by decide +kernel
theorem dX8_setTrunk_11 : decode cX8_setTrunk 11 = .ok (.iadd, 1) := by decide +kernel
theorem dX8_setTrunk_12 : decode cX8_setTrunk 12 = .ok (.iload_n 3, 1) := by decide +kernel
theorem dX8_setTrunk_13 : decode cX8_setTrunk 13 = .ok (.iastore, 1) := by decide +kernel
theorem dX8_setTrunk_14 : decode cX8_setTrunk 14 = .ok (.return_, 1) := by decide +kernel
theorem dX8_u_0 : decode cX8_u 0 = .ok (.aload_n 0, 1) := by decide +kernel
theorem dX8_u_1 : decode cX8_u 1 = .ok (.getfield 7, 3) := by decide +kernel
theorem dX8_u_4 : decode cX8_u 4 = .ok (.bipush 88, 2) := by decide +kernel
theorem dX8_u_6 : decode cX8_u 6 = .ok (.iconst 3, 1) := by decide +kernel
theorem dX8_u_7 : decode cX8_u 7 = .ok (.iload_n 1, 1) := by decide +kernel
theorem dX8_u_8 : decode cX8_u 8 = .ok (.imul, 1) := by decide +kernel
theorem dX8_u_9 : decode cX8_u 9 = .ok (.iadd, 1) := by decide +kernel
theorem dX8_u_10 : decode cX8_u 10 = .ok (.iload_n 2, 1) := by decide +kernel
theorem dX8_u_11 : decode cX8_u 11 = .ok (.iadd, 1) := by decide +kernel
theorem dX8_u_12 : decode cX8_u 12 = .ok (.iaload, 1) := by decide +kernel
theorem dX8_u_13 : decode cX8_u 13 = .ok (.ireturn, 1) := by decide +kernel
theorem dX8_c_0 : decode cX8_c 0 = .ok (.aload_n 0, 1) := by decide +kernel
theorem dX8_c_1 : decode cX8_c 1 = .ok (.getfield 7, 3) := by decide +kernel
theorem dX8_c_4 : decode cX8_c 4 = .ok (.bipush 118, 2) := by decide +kernel
theorem dX8_c_6 : decode cX8_c 6 = .ok (.bipush 12, 2) := by decide +kernel
theorem dX8_c_8 : decode cX8_c 8 = .ok (.iload_n 1, 1) := by decide +kernel
theorem dX8_c_9 : decode cX8_c 9 = .ok (.imul, 1) := by decide +kernel
theorem dX8_c_10 : decode cX8_c 10 = .ok (.iadd, 1) := by decide +kernel
theorem dX8_c_11 : decode cX8_c 11 = .ok (.iload_n 2, 1) := by decide +kernel
theorem dX8_c_12 : decode cX8_c 12 = .ok (.iadd, 1) := by decide +kernel
theorem dX8_c_13 : decode cX8_c 13 = .ok (.iaload, 1) := by decide +kernel
theorem dX8_c_14 : decode cX8_c 14 = .ok (.ireturn, 1) := by decide +kernel
theorem dX8_setCall_0 : decode cX8_setCall 0 = .ok (.aload_n 0, 1) := by decide +kernel
theorem dX8_setCall_1 : decode cX8_setCall 1 = .ok (.getfield 7, 3) := by decide +kernel
theorem dX8_setCall_4 : decode cX8_setCall 4 = .ok (.bipush 118, 2) := by decide +kernel
theorem dX8_setCall_6 : decode cX8_setCall 6 = .ok (.bipush 12, 2) := by decide +kernel
theorem dX8_setCall_8 : decode cX8_setCall 8 = .ok (.iload_n 1, 1) := by decide +kernel
theorem dX8_setCall_9 : decode cX8_setCall 9 = .ok (.imul, 1) := by decide +kernel
theorem dX8_setCall_10 : decode cX8_setCall 10 = .ok (.iadd, 1) := by decide +kernel
theorem dX8_setCall_11 : decode cX8_setCall 11 = .ok (.iload_n 2, 1) := by decide +kernel
theorem dX8_setCall_12 : decode cX8_setCall 12 = .ok (.iadd, 1) := by decide +kernel
theorem dX8_setCall_13 : decode cX8_setCall 13 = .ok (.iload_n 3, 1) := by decide +kernel
theorem dX8_setCall_14 : decode cX8_setCall 14 = .ok (.iastore, 1) := by decide +kernel
theorem dX8_setCall_15 : decode cX8_setCall 15 = .ok (.return_, 1) := by decide +kernel
theorem dX8_isSwitch_0 : decode cX8_isSwitch 0 = .ok (.iload_n 1, 1) := by decide +kernel
theorem dX8_isSwitch_1 : decode cX8_isSwitch 1 = .ok (.iconst 0, 1) := by decide +kernel
theorem dX8_isSwitch_2 : decode cX8_isSwitch 2 = .ok (.aload_n 0, 1) := by decide +kernel
theorem dX8_isSwitch_3 : decode cX8_isSwitch 3 = .ok (.getfield 7, 3) := by decide +kernel
theorem dX8_isSwitch_6 : decode cX8_isSwitch 6 = .ok (.iconst 0, 1) := by decide +kernel
theorem dX8_isSwitch_7 : decode cX8_isSwitch 7 = .ok (.iaload, 1) := by decide +kernel
theorem dX8_isSwitch_8 : decode cX8_isSwitch 8 = .ok (.iconst 1, 1) := by decide +kernel
theorem dX8_isSwitch_9 : decode cX8_isSwitch 9 = .ok (.isub, 1) := by decide +kernel
theorem dX8_isSwitch_10 : decode cX8_isSwitch 10 = .ok (.invokestatic 91, 3) := by decide +kernel
theorem dX8_isSwitch_13 : decode cX8_isSwitch 13 = .ok (.ireturn, 1) := by decide +kernel
theorem dX8_isTrunk_0 : decode cX8_isTrunk 0 = .ok (.iload_n 1, 1) := by decide +kernel
theorem dX8_isTrunk_1 : decode cX8_isTrunk 1 = .ok (.iconst 0, 1) := by decide +kernel
theorem dX8_isTrunk_2 : decode cX8_isTrunk 2 = .ok (.aload_n 0, 1) := by decide +kernel
theorem dX8_isTrunk_3 : decode cX8_isTrunk 3 = .ok (.getfield 7, 3) := by decide +kernel
theorem dX8_isTrunk_6 : decode cX8_isTrunk 6 = .ok (.iconst 1, 1) := by decide +kernel
theorem dX8_isTrunk_7 : decode cX8_isTrunk 7 = .ok (.iaload, 1) := by decide +kernel
theorem dX8_isTrunk_8 : decode cX8_isTrunk 8 = .ok (.iconst 1, 1) := by decide +kernel
theorem dX8_isTrunk_9 : decode cX8_isTrunk 9 = .ok (.isub, 1) := by decide +kernel
theorem dX8_isTrunk_10 : decode cX8_isTrunk 10 = .ok (.invokestatic 91, 3) := by decide +kernel
theorem dX8_isTrunk_13 : decode cX8_isTrunk 13 = .ok (.ireturn, 1) := by decide +kernel
theorem dX8_isUser_0 : decode cX8_isUser 0 = .ok (.iload_n 1, 1) := by decide +kernel
theorem dX8_isUser_1 : decode cX8_isUser 1 = .ok (.iconst 0, 1) := by decide +kernel
theorem dX8_isUser_2 : decode cX8_isUser 2 = .ok (.aload_n 0, 1) := by decide +kernel
theorem dX8_isUser_3 : decode cX8_isUser 3 = .ok (.getfield 7, 3) := by decide +kernel
theorem dX8_isUser_6 : decode cX8_isUser 6 = .ok (.iconst 2, 1) := by decide +kernel
theorem dX8_isUser_7 : decode cX8_isUser 7 = .ok (.iaload, 1) := by decide +kernel
theorem dX8_isUser_8 : decode cX8_isUser 8 = .ok (.iconst 1, 1) := by decide +kernel
theorem dX8_isUser_9 : decode cX8_isUser 9 = .ok (.isub, 1) := by decide +kernel
theorem dX8_isUser_10 : decode cX8_isUser 10 = .ok (.invokestatic 91, 3) := by decide +kernel
theorem dX8_isUser_13 : decode cX8_isUser 13 = .ok (.ireturn, 1) := by decide +kernel
theorem dX8_passesOver_0 : decode cX8_passesOver 0 = .ok (.iconst 0, 1) := by decide +kernel
theorem dX8_passesOver_1 : decode cX8_passesOver 1 = .ok (.istore_n 3, 1) := by decide +kernel
theorem dX8_passesOver_2 : decode cX8_passesOver 2 = .ok (.iload_n 3, 1) := by decide +kernel
theorem dX8_passesOver_3 : decode cX8_passesOver 3 = .ok (.aload_n 0, 1) := by decide +kernel
theorem dX8_passesOver_4 : decode cX8_passesOver 4 = .ok (.iload_n 1, 1) := by decide +kernel
theorem dX8_passesOver_5 : decode cX8_passesOver 5 = .ok (.iconst 3, 1) := by decide +kernel
theorem dX8_passesOver_6 : decode cX8_passesOver 6 = .ok (.invokevirtual 95, 3) := by decide +kernel
theorem dX8_passesOver_9 : decode cX8_passesOver 9 = .ok (.if_icmp .ge 23, 3) := by decide +kernel
theorem dX8_passesOver_12 : decode cX8_passesOver 12 = .ok (.aload_n 0, 1) := by decide +kernel
theorem dX8_passesOver_13 : decode cX8_passesOver 13 = .ok (.iload_n 1, 1) := by decide +kernel
theorem dX8_passesOver_14 : decode cX8_passesOver 14 = .ok (.iconst 4, 1) := by decide +kernel
theorem dX8_passesOver_15 : decode cX8_passesOver 15 = .ok (.iload_n 3, 1) := by decide +kernel
theorem dX8_passesOver_16 : decode cX8_passesOver 16 = .ok (.iadd, 1) := by decide +kernel
theorem dX8_passesOver_17 : decode cX8_passesOver 17 = .ok (.invokevirtual 95, 3) := by decide +kernel
theorem dX8_passesOver_20 : decode cX8_passesOver 20 = .ok (.iload_n 2, 1) := by decide +kernel
theorem dX8_passesOver_21 : decode cX8_passesOver 21 = .ok (.if_icmp .ne 5, 3) := by decide +kernel
theorem dX8_passesOver_24 : decode cX8_passesOver 24 = .ok (.iconst 1, 1) := by decide +kernel
theorem dX8_passesOver_25 : decode cX8_passesOver 25 = .ok (.ireturn, 1) := by decide +kernel
theorem dX8_passesOver_26 : decode cX8_passesOver 26 = .ok (.iinc 3 1, 3) := by decide +kernel
theorem dX8_passesOver_29 : decode cX8_passesOver 29 = .ok (.goto (-27), 3) := by decide +kernel
theorem dX8_passesOver_32 : decode cX8_passesOver 32 = .ok (.iconst 0, 1) := by decide +kernel
theorem dX8_passesOver_33 : decode cX8_passesOver 33 = .ok (.ireturn, 1) := by decide +kernel
theorem dX8_callOn_0 : decode cX8_callOn 0 = .ok (.iconst 0, 1) := by decide +kernel
theorem dX8_callOn_1 : decode cX8_callOn 1 = .ok (.istore_n 2, 1) := by decide +kernel
theorem dX8_callOn_2 : decode cX8_callOn 2 = .ok (.iload_n 2, 1) := by decide +kernel
theorem dX8_callOn_3 : decode cX8_callOn 3 = .ok (.aload_n 0, 1) := by decide +kernel
theorem dX8_callOn_4 : decode cX8_callOn 4 = .ok (.getfield 7, 3) := by decide +kernel
theorem dX8_callOn_7 : decode cX8_callOn 7 = .ok (.iconst 3, 1) := by decide +kernel
theorem dX8_callOn_8 : decode cX8_callOn 8 = .ok (.iaload, 1) := by decide +kernel
theorem dX8_callOn_9 : decode cX8_callOn 9 = .ok (.if_icmp .ge 20, 3) := by decide +kernel
theorem dX8_callOn_12 : decode cX8_callOn 12 = .ok (.aload_n 0, 1) := by decide +kernel
theorem dX8_callOn_13 : decode cX8_callOn 13 = .ok (.iload_n 2, 1) := by decide +kernel
theorem dX8_callOn_14 : decode cX8_callOn 14 = .ok (.iload_n 1, 1) := by decide +kernel
theorem dX8_callOn_15 : decode cX8_callOn 15 = .ok (.invokevirtual 99, 3) := by decide +kernel
theorem dX8_callOn_18 : decode cX8_callOn 18 = .ok (.ifCond .eq 5, 3) := by decide +kernel
theorem dX8_callOn_21 : decode cX8_callOn 21 = .ok (.iload_n 2, 1) := by decide +kernel
theorem dX8_callOn_22 : decode cX8_callOn 22 = .ok (.ireturn, 1) := by decide +kernel
theorem dX8_callOn_23 : decode cX8_callOn 23 = .ok (.iinc 2 1, 3) := by decide +kernel
theorem dX8_callOn_26 : decode cX8_callOn 26 = .ok (.goto (-24), 3) := by decide +kernel
theorem dX8_callOn_29 : decode cX8_callOn 29 = .ok (.iconst (-1), 1) := by decide +kernel
theorem dX8_callOn_30 : decode cX8_callOn 30 = .ok (.ireturn, 1) := by decide +kernel
theorem dX8_callOf_0 : decode cX8_callOf 0 = .ok (.iconst 0, 1) := by decide +kernel
theorem dX8_callOf_1 : decode cX8_callOf 1 = .ok (.istore_n 2, 1) := by decide +kernel
theorem dX8_callOf_2 : decode cX8_callOf 2 = .ok (.iload_n 2, 1) := by decide +kernel
theorem dX8_callOf_3 : decode cX8_callOf 3 = .ok (.aload_n 0, 1) := by decide +kernel
theorem dX8_callOf_4 : decode cX8_callOf 4 = .ok (.getfield 7, 3) := by decide +kernel
theorem dX8_callOf_7 : decode cX8_callOf 7 = .ok (.iconst 3, 1) := by decide +kernel
theorem dX8_callOf_8 : decode cX8_callOf 8 = .ok (.iaload, 1) := by decide +kernel
theorem dX8_callOf_9 : decode cX8_callOf 9 = .ok (.if_icmp .ge 31, 3) := by decide +kernel
theorem dX8_callOf_12 : decode cX8_callOf 12 = .ok (.aload_n 0, 1) := by decide +kernel
theorem dX8_callOf_13 : decode cX8_callOf 13 = .ok (.iload_n 2, 1) := by decide +kernel
theorem dX8_callOf_14 : decode cX8_callOf 14 = .ok (.iconst 0, 1) := by decide +kernel
theorem dX8_callOf_15 : decode cX8_callOf 15 = .ok (.invokevirtual 95, 3) := by decide +kernel
theorem dX8_callOf_18 : decode cX8_callOf 18 = .ok (.iload_n 1, 1) := by decide +kernel
theorem dX8_callOf_19 : decode cX8_callOf 19 = .ok (.if_icmp .eq 13, 3) := by decide +kernel
theorem dX8_callOf_22 : decode cX8_callOf 22 = .ok (.aload_n 0, 1) := by decide +kernel
theorem dX8_callOf_23 : decode cX8_callOf 23 = .ok (.iload_n 2, 1) := by decide +kernel
theorem dX8_callOf_24 : decode cX8_callOf 24 = .ok (.iconst 1, 1) := by decide +kernel
theorem dX8_callOf_25 : decode cX8_callOf 25 = .ok (.invokevirtual 95, 3) := by decide +kernel
theorem dX8_callOf_28 : decode cX8_callOf 28 = .ok (.iload_n 1, 1) := by decide +kernel
theorem dX8_callOf_29 : decode cX8_callOf 29 = .ok (.if_icmp .ne 5, 3) := by decide +kernel
theorem dX8_callOf_32 : decode cX8_callOf 32 = .ok (.iload_n 2, 1) := by decide +kernel
theorem dX8_callOf_33 : decode cX8_callOf 33 = .ok (.ireturn, 1) := by decide +kernel
theorem dX8_callOf_34 : decode cX8_callOf 34 = .ok (.iinc 2 1, 3) := by decide +kernel
theorem dX8_callOf_37 : decode cX8_callOf 37 = .ok (.goto (-35), 3) := by decide +kernel
theorem dX8_callOf_40 : decode cX8_callOf 40 = .ok (.iconst (-1), 1) := by decide +kernel
theorem dX8_callOf_41 : decode cX8_callOf 41 = .ok (.ireturn, 1) := by decide +kernel
theorem dX8_addsSwitch_0 : decode cX8_addsSwitch 0 = .ok (.aload_n 0, 1) := by decide +kernel
theorem dX8_addsSwitch_1 : decode cX8_addsSwitch 1 = .ok (.getfield 7, 3) := by decide +kernel
theorem dX8_addsSwitch_4 : decode cX8_addsSwitch 4 = .ok (.iconst 0, 1) := by decide +kernel
theorem dX8_addsSwitch_5 : decode cX8_addsSwitch 5 = .ok (.dup2, 1) := by decide +kernel
theorem dX8_addsSwitch_6 : decode cX8_addsSwitch 6 = .ok (.iaload, 1) := by decide +kernel
theorem dX8_addsSwitch_7 : decode cX8_addsSwitch 7 = .ok (.iconst 1, 1) := by decide +kernel
theorem dX8_addsSwitch_8 : decode cX8_addsSwitch 8 = .ok (.iadd, 1) := by decide +kernel
theorem dX8_addsSwitch_9 : decode cX8_addsSwitch 9 = .ok (.iastore, 1) := by decide +kernel
theorem dX8_addsSwitch_10 : decode cX8_addsSwitch 10 = .ok (.aload_n 0, 1) := by decide +kernel
theorem dX8_addsSwitch_11 : decode cX8_addsSwitch 11 = .ok (.getfield 7, 3) := by decide +kernel
theorem dX8_addsSwitch_14 : decode cX8_addsSwitch 14 = .ok (.iconst 0, 1) := by decide +kernel
theorem dX8_addsSwitch_15 : decode cX8_addsSwitch 15 = .ok (.iaload, 1) := by decide +kernel
theorem dX8_addsSwitch_16 : decode cX8_addsSwitch 16 = .ok (.iconst 1, 1) := by decide +kernel
theorem dX8_addsSwitch_17 : decode cX8_addsSwitch 17 = .ok (.isub, 1) := by decide +kernel
theorem dX8_addsSwitch_18 : decode cX8_addsSwitch 18 = .ok (.ireturn, 1) := by decide +kernel
theorem dX8_addSwitch_0 : decode cX8_addSwitch 0 = .ok (.aload_n 0, 1) := by decide +kernel
theorem dX8_addSwitch_1 : decode cX8_addSwitch 1 = .ok (.invokevirtual 103, 3) := by decide +kernel
theorem dX8_addSwitch_4 : decode cX8_addSwitch 4 = .ok (.aload_n 0, 1) := by decide +kernel
theorem dX8_addSwitch_5 : decode cX8_addSwitch 5 = .ok (.getfield 7, 3) := by decide +kernel
theorem dX8_addSwitch_8 : decode cX8_addSwitch 8 = .ok (.iconst 0, 1) := by decide +kernel
theorem dX8_addSwitch_9 : decode cX8_addSwitch 9 = .ok (.iaload, 1) := by decide +kernel
theorem dX8_addSwitch_10 : decode cX8_addSwitch 10 = .ok (.bipush 8, 2) := by decide +kernel
theorem dX8_addSwitch_12 : decode cX8_addSwitch 12 = .ok (.if_icmp .ne 11, 3) := by decide +kernel
theorem dX8_addSwitch_15 : decode cX8_addSwitch 15 = .ok (.aload_n 0, 1) := by decide +kernel
theorem dX8_addSwitch_16 : decode cX8_addSwitch 16 = .ok (.iconst 1, 1) := by decide +kernel
theorem dX8_addSwitch_17 : decode cX8_addSwitch 17 = .ok (.invokevirtual 106, 3) := by decide +kernel
theorem dX8_addSwitch_20 : decode cX8_addSwitch 20 = .ok (.goto 11, 3) := by decide +kernel
theorem dX8_addSwitch_23 : decode cX8_addSwitch 23 = .ok (.aload_n 0, 1) := by decide +kernel
theorem dX8_addSwitch_24 : decode cX8_addSwitch 24 = .ok (.aload_n 0, 1) := by decide +kernel
theorem dX8_addSwitch_25 : decode cX8_addSwitch 25 = .ok (.invokevirtual 110, 3) := by decide +kernel
theorem dX8_addSwitch_28 : decode cX8_addSwitch 28 = .ok (.invokevirtual 114, 3) := by decide +kernel
theorem dX8_addSwitch_31 : decode cX8_addSwitch 31 = .ok (.ireturn, 1) := by decide +kernel
theorem dX8_cannotLay_0 : decode cX8_cannotLay 0 = .ok (.aload_n 0, 1) := by decide +kernel
theorem dX8_cannotLay_1 : decode cX8_cannotLay 1 = .ok (.iload_n 1, 1) := by decide +kernel
theorem dX8_cannotLay_2 : decode cX8_cannotLay 2 = .ok (.invokevirtual 117, 3) := by decide +kernel
theorem dX8_cannotLay_5 : decode cX8_cannotLay 5 = .ok (.ifCond .eq 11, 3) := by decide +kernel
theorem dX8_cannotLay_8 : decode cX8_cannotLay 8 = .ok (.aload_n 0, 1) := by decide +kernel
theorem dX8_cannotLay_9 : decode cX8_cannotLay 9 = .ok (.iload_n 2, 1) := by decide +kernel
theorem dX8_cannotLay_10 : decode cX8_cannotLay 10 = .ok (.invokevirtual 117, 3) := by decide +kernel
theorem dX8_cannotLay_13 : decode cX8_cannotLay 13 = .ok (.ifCond .ne 5, 3) := by decide +kernel
theorem dX8_cannotLay_16 : decode cX8_cannotLay 16 = .ok (.iconst 1, 1) := by decide +kernel
theorem dX8_cannotLay_17 : decode cX8_cannotLay 17 = .ok (.ireturn, 1) := by decide +kernel
theorem dX8_cannotLay_18 : decode cX8_cannotLay 18 = .ok (.iload_n 1, 1) := by decide +kernel
theorem dX8_cannotLay_19 : decode cX8_cannotLay 19 = .ok (.iload_n 2, 1) := by decide +kernel
theorem dX8_cannotLay_20 : decode cX8_cannotLay 20 = .ok (.if_icmp .eq 13, 3) := by decide +kernel
theorem dX8_cannotLay_23 : decode cX8_cannotLay 23 = .ok (.iload_n 3, 1) := by decide +kernel
theorem dX8_cannotLay_24 : decode cX8_cannotLay 24 = .ok (.iconst 1, 1) := by decide +kernel
theorem dX8_cannotLay_25 : decode cX8_cannotLay 25 = .ok (.bipush 20, 2) := by decide +kernel
theorem dX8_cannotLay_27 : decode cX8_cannotLay 27 = .ok (.invokestatic 91, 3) := by decide +kernel
theorem dX8_cannotLay_30 : decode cX8_cannotLay 30 = .ok (.ifCond .ne 5, 3) := by decide +kernel
theorem dX8_cannotLay_33 : decode cX8_cannotLay 33 = .ok (.iconst 2, 1) := by decide +kernel
theorem dX8_cannotLay_34 : decode cX8_cannotLay 34 = .ok (.ireturn, 1) := by decide +kernel
theorem dX8_cannotLay_35 : decode cX8_cannotLay 35 = .ok (.aload_n 0, 1) := by decide +kernel
theorem dX8_cannotLay_36 : decode cX8_cannotLay 36 = .ok (.getfield 7, 3) := by decide +kernel
theorem dX8_cannotLay_39 : decode cX8_cannotLay 39 = .ok (.iconst 1, 1) := by decide +kernel
theorem dX8_cannotLay_40 : decode cX8_cannotLay 40 = .ok (.iaload, 1) := by decide +kernel
theorem dX8_cannotLay_41 : decode cX8_cannotLay 41 = .ok (.bipush 16, 2) := by decide +kernel
theorem dX8_cannotLay_43 : decode cX8_cannotLay 43 = .ok (.if_icmp .ne 7, 3) := by decide +kernel
theorem dX8_cannotLay_46 : decode cX8_cannotLay 46 = .ok (.iconst 3, 1) := by decide +kernel
theorem dX8_cannotLay_47 : decode cX8_cannotLay 47 = .ok (.goto 4, 3) := by decide +kernel
theorem dX8_cannotLay_50 : decode cX8_cannotLay 50 = .ok (.iconst 0, 1) := by decide +kernel
theorem dX8_cannotLay_51 : decode cX8_cannotLay 51 = .ok (.ireturn, 1) := by decide +kernel
theorem dX8_lays_0 : decode cX8_lays 0 = .ok (.aload_n 0, 1) := by decide +kernel
theorem dX8_lays_1 : decode cX8_lays 1 = .ok (.getfield 7, 3) := by decide +kernel
theorem dX8_lays_4 : decode cX8_lays 4 = .ok (.iconst 1, 1) := by decide +kernel
theorem dX8_lays_5 : decode cX8_lays 5 = .ok (.iaload, 1) := by decide +kernel
theorem dX8_lays_6 : decode cX8_lays 6 = .ok (.istore 4, 2) := by decide +kernel
theorem dX8_lays_8 : decode cX8_lays 8 = .ok (.aload_n 0, 1) := by decide +kernel
theorem dX8_lays_9 : decode cX8_lays 9 = .ok (.iload 4, 2) := by decide +kernel
theorem dX8_lays_11 : decode cX8_lays 11 = .ok (.iconst 0, 1) := by decide +kernel
theorem dX8_lays_12 : decode cX8_lays 12 = .ok (.iload_n 1, 1) := by decide +kernel
theorem dX8_lays_13 : decode cX8_lays 13 = .ok (.invokevirtual 121, 3) := by decide +kernel
theorem dX8_lays_16 : decode cX8_lays 16 = .ok (.aload_n 0, 1) := by decide +kernel
theorem dX8_lays_17 : decode cX8_lays 17 = .ok (.iload 4, 2) := by decide +kernel
theorem dX8_lays_19 : decode cX8_lays 19 = .ok (.iconst 1, 1) := by decide +kernel
theorem dX8_lays_20 : decode cX8_lays 20 = .ok (.iload_n 2, 1) := by decide +kernel
theorem dX8_lays_21 : decode cX8_lays 21 = .ok (.invokevirtual 121, 3) := by decide +kernel
theorem dX8_lays_24 : decode cX8_lays 24 = .ok (.aload_n 0, 1) := by decide +kernel
theorem dX8_lays_25 : decode cX8_lays 25 = .ok (.iload 4, 2) := by decide +kernel
theorem dX8_lays_27 : decode cX8_lays 27 = .ok (.iconst 2, 1) := by decide +kernel
theorem dX8_lays_28 : decode cX8_lays 28 = .ok (.iload_n 3, 1) := by decide +kernel
theorem dX8_lays_29 : decode cX8_lays 29 = .ok (.invokevirtual 121, 3) := by decide +kernel
theorem dX8_lays_32 : decode cX8_lays 32 = .ok (.aload_n 0, 1) := by decide +kernel
theorem dX8_lays_33 : decode cX8_lays 33 = .ok (.iload 4, 2) := by decide +kernel
theorem dX8_lays_35 : decode cX8_lays 35 = .ok (.iconst 3, 1) := by decide +kernel
theorem dX8_lays_36 : decode cX8_lays 36 = .ok (.iconst 0, 1) := by decide +kernel
theorem dX8_lays_37 : decode cX8_lays 37 = .ok (.invokevirtual 121, 3) := by decide +kernel
theorem dX8_lays_40 : decode cX8_lays 40 = .ok (.aload_n 0, 1) := by decide +kernel
theorem dX8_lays_41 : decode cX8_lays 41 = .ok (.iload 4, 2) := by decide +kernel
theorem dX8_lays_43 : decode cX8_lays 43 = .ok (.iconst 4, 1) := by decide +kernel
theorem dX8_lays_44 : decode cX8_lays 44 = .ok (.iconst 0, 1) := by decide +kernel
theorem dX8_lays_45 : decode cX8_lays 45 = .ok (.invokevirtual 121, 3) := by decide +kernel
theorem dX8_lays_48 : decode cX8_lays 48 = .ok (.aload_n 0, 1) := by decide +kernel
theorem dX8_lays_49 : decode cX8_lays 49 = .ok (.getfield 7, 3) := by decide +kernel
theorem dX8_lays_52 : decode cX8_lays 52 = .ok (.iconst 1, 1) := by decide +kernel
theorem dX8_lays_53 : decode cX8_lays 53 = .ok (.dup2, 1) := by decide +kernel
theorem dX8_lays_54 : decode cX8_lays 54 = .ok (.iaload, 1) := by decide +kernel
theorem dX8_lays_55 : decode cX8_lays 55 = .ok (.iconst 1, 1) := by decide +kernel
theorem dX8_lays_56 : decode cX8_lays 56 = .ok (.iadd, 1) := by decide +kernel
theorem dX8_lays_57 : decode cX8_lays 57 = .ok (.iastore, 1) := by decide +kernel
theorem dX8_lays_58 : decode cX8_lays 58 = .ok (.iload 4, 2) := by decide +kernel
theorem dX8_lays_60 : decode cX8_lays 60 = .ok (.ireturn, 1) := by decide +kernel
theorem dX8_addTrunk_0 : decode cX8_addTrunk 0 = .ok (.aload_n 0, 1) := by decide +kernel
theorem dX8_addTrunk_1 : decode cX8_addTrunk 1 = .ok (.invokevirtual 103, 3) := by decide +kernel
theorem dX8_addTrunk_4 : decode cX8_addTrunk 4 = .ok (.aload_n 0, 1) := by decide +kernel
theorem dX8_addTrunk_5 : decode cX8_addTrunk 5 = .ok (.iload_n 1, 1) := by decide +kernel
theorem dX8_addTrunk_6 : decode cX8_addTrunk 6 = .ok (.iload_n 2, 1) := by decide +kernel
theorem dX8_addTrunk_7 : decode cX8_addTrunk 7 = .ok (.iload_n 3, 1) := by decide +kernel
theorem dX8_addTrunk_8 : decode cX8_addTrunk 8 = .ok (.invokevirtual 125, 3) := by decide +kernel
theorem dX8_addTrunk_11 : decode cX8_addTrunk 11 = .ok (.istore 4, 2) := by decide +kernel
theorem dX8_addTrunk_13 : decode cX8_addTrunk 13 = .ok (.iload 4, 2) := by decide +kernel
theorem dX8_addTrunk_15 : decode cX8_addTrunk 15 = .ok (.ifCond .le 12, 3) := by decide +kernel
theorem dX8_addTrunk_18 : decode cX8_addTrunk 18 = .ok (.aload_n 0, 1) := by decide +kernel
theorem dX8_addTrunk_19 : decode cX8_addTrunk 19 = .ok (.iload 4, 2) := by decide +kernel
theorem dX8_addTrunk_21 : decode cX8_addTrunk 21 = .ok (.invokevirtual 106, 3) := by decide +kernel
theorem dX8_addTrunk_24 : decode cX8_addTrunk 24 = .ok (.goto 14, 3) := by decide +kernel
theorem dX8_addTrunk_27 : decode cX8_addTrunk 27 = .ok (.aload_n 0, 1) := by decide +kernel
theorem dX8_addTrunk_28 : decode cX8_addTrunk 28 = .ok (.aload_n 0, 1) := by decide +kernel
theorem dX8_addTrunk_29 : decode cX8_addTrunk 29 = .ok (.iload_n 1, 1) := by decide +kernel
theorem dX8_addTrunk_30 : decode cX8_addTrunk 30 = .ok (.iload_n 2, 1) := by decide +kernel
theorem dX8_addTrunk_31 : decode cX8_addTrunk 31 = .ok (.iload_n 3, 1) := by decide +kernel
theorem dX8_addTrunk_32 : decode cX8_addTrunk 32 = .ok (.invokevirtual 129, 3) := by decide +kernel
theorem dX8_addTrunk_35 : decode cX8_addTrunk 35 = .ok (.invokevirtual 114, 3) := by decide +kernel
theorem dX8_addTrunk_38 : decode cX8_addTrunk 38 = .ok (.ireturn, 1) := by decide +kernel
theorem dX8_cannotJoin_0 : decode cX8_cannotJoin 0 = .ok (.aload_n 0, 1) := by decide +kernel
theorem dX8_cannotJoin_1 : decode cX8_cannotJoin 1 = .ok (.iload_n 1, 1) := by decide +kernel
theorem dX8_cannotJoin_2 : decode cX8_cannotJoin 2 = .ok (.invokevirtual 117, 3) := by decide +kernel
theorem dX8_cannotJoin_5 : decode cX8_cannotJoin 5 = .ok (.ifCond .ne 7, 3) := by decide +kernel
theorem dX8_cannotJoin_8 : decode cX8_cannotJoin 8 = .ok (.iconst 1, 1) := by decide +kernel
theorem dX8_cannotJoin_9 : decode cX8_cannotJoin 9 = .ok (.goto 32, 3) := by decide +kernel
theorem dX8_cannotJoin_12 : decode cX8_cannotJoin 12 = .ok (.iload_n 2, 1) := by decide +kernel
theorem dX8_cannotJoin_13 : decode cX8_cannotJoin 13 = .ok (.iconst 0, 1) := by decide +kernel
theorem dX8_cannotJoin_14 : decode cX8_cannotJoin 14 = .ok (.iconst 2, 1) := by decide +kernel
theorem dX8_cannotJoin_15 : decode cX8_cannotJoin 15 = .ok (.invokestatic 91, 3) := by decide +kernel
theorem dX8_cannotJoin_18 : decode cX8_cannotJoin 18 = .ok (.ifCond .ne 7, 3) := by decide +kernel
theorem dX8_cannotJoin_21 : decode cX8_cannotJoin 21 = .ok (.iconst 2, 1) := by decide +kernel
theorem dX8_cannotJoin_22 : decode cX8_cannotJoin 22 = .ok (.goto 19, 3) := by decide +kernel
theorem dX8_cannotJoin_25 : decode cX8_cannotJoin 25 = .ok (.aload_n 0, 1) := by decide +kernel
theorem dX8_cannotJoin_26 : decode cX8_cannotJoin 26 = .ok (.getfield 7, 3) := by decide +kernel
theorem dX8_cannotJoin_29 : decode cX8_cannotJoin 29 = .ok (.iconst 2, 1) := by decide +kernel
theorem dX8_cannotJoin_30 : decode cX8_cannotJoin 30 = .ok (.iaload, 1) := by decide +kernel
theorem dX8_cannotJoin_31 : decode cX8_cannotJoin 31 = .ok (.bipush 10, 2) := by decide +kernel
theorem dX8_cannotJoin_33 : decode cX8_cannotJoin 33 = .ok (.if_icmp .ne 7, 3) := by decide +kernel
theorem dX8_cannotJoin_36 : decode cX8_cannotJoin 36 = .ok (.iconst 3, 1) := by decide +kernel
theorem dX8_cannotJoin_37 : decode cX8_cannotJoin 37 = .ok (.goto 4, 3) := by decide +kernel
theorem dX8_cannotJoin_40 : decode cX8_cannotJoin 40 = .ok (.iconst 0, 1) := by decide +kernel
theorem dX8_cannotJoin_41 : decode cX8_cannotJoin 41 = .ok (.ireturn, 1) := by decide +kernel
theorem dX8_joins_0 : decode cX8_joins 0 = .ok (.aload_n 0, 1) := by decide +kernel
theorem dX8_joins_1 : decode cX8_joins 1 = .ok (.getfield 7, 3) := by decide +kernel
theorem dX8_joins_4 : decode cX8_joins 4 = .ok (.iconst 2, 1) := by decide +kernel
theorem dX8_joins_5 : decode cX8_joins 5 = .ok (.iaload, 1) := by decide +kernel
theorem dX8_joins_6 : decode cX8_joins 6 = .ok (.istore_n 3, 1) := by decide +kernel
theorem dX8_joins_7 : decode cX8_joins 7 = .ok (.aload_n 0, 1) := by decide +kernel
theorem dX8_joins_8 : decode cX8_joins 8 = .ok (.getfield 7, 3) := by decide +kernel
theorem dX8_joins_11 : decode cX8_joins 11 = .ok (.bipush 88, 2) := by decide +kernel
theorem dX8_joins_13 : decode cX8_joins 13 = .ok (.iconst 3, 1) := by decide +kernel
theorem dX8_joins_14 : decode cX8_joins 14 = .ok (.iload_n 3, 1) := by decide +kernel
theorem dX8_joins_15 : decode cX8_joins 15 = .ok (.imul, 1) := by decide +kernel
theorem dX8_joins_16 : decode cX8_joins 16 = .ok (.iadd, 1) := by decide +kernel
theorem dX8_joins_17 : decode cX8_joins 17 = .ok (.iconst 0, 1) := by decide +kernel
theorem dX8_joins_18 : decode cX8_joins 18 = .ok (.iadd, 1) := by decide +kernel
theorem dX8_joins_19 : decode cX8_joins 19 = .ok (.iload_n 1, 1) := by decide +kernel
theorem dX8_joins_20 : decode cX8_joins 20 = .ok (.iastore, 1) := by decide +kernel
theorem dX8_joins_21 : decode cX8_joins 21 = .ok (.aload_n 0, 1) := by decide +kernel
theorem dX8_joins_22 : decode cX8_joins 22 = .ok (.getfield 7, 3) := by decide +kernel
theorem dX8_joins_25 : decode cX8_joins 25 = .ok (.bipush 88, 2) := by decide +kernel
theorem dX8_joins_27 : decode cX8_joins 27 = .ok (.iconst 3, 1) := by decide +kernel
theorem dX8_joins_28 : decode cX8_joins 28 = .ok (.iload_n 3, 1) := by decide +kernel
theorem dX8_joins_29 : decode cX8_joins 29 = .ok (.imul, 1) := by decide +kernel
theorem dX8_joins_30 : decode cX8_joins 30 = .ok (.iadd, 1) := by decide +kernel
theorem dX8_joins_31 : decode cX8_joins 31 = .ok (.iconst 1, 1) := by decide +kernel
theorem dX8_joins_32 : decode cX8_joins 32 = .ok (.iadd, 1) := by decide +kernel
theorem dX8_joins_33 : decode cX8_joins 33 = .ok (.iload_n 2, 1) := by decide +kernel
theorem dX8_joins_34 : decode cX8_joins 34 = .ok (.iastore, 1) := by decide +kernel
theorem dX8_joins_35 : decode cX8_joins 35 = .ok (.aload_n 0, 1) := by decide +kernel
theorem dX8_joins_36 : decode cX8_joins 36 = .ok (.getfield 7, 3) := by decide +kernel
theorem dX8_joins_39 : decode cX8_joins 39 = .ok (.bipush 88, 2) := by decide +kernel
theorem dX8_joins_41 : decode cX8_joins 41 = .ok (.iconst 3, 1) := by decide +kernel
theorem dX8_joins_42 : decode cX8_joins 42 = .ok (.iload_n 3, 1) := by decide +kernel
theorem dX8_joins_43 : decode cX8_joins 43 = .ok (.imul, 1) := by decide +kernel
theorem dX8_joins_44 : decode cX8_joins 44 = .ok (.iadd, 1) := by decide +kernel
theorem dX8_joins_45 : decode cX8_joins 45 = .ok (.iconst 2, 1) := by decide +kernel
theorem dX8_joins_46 : decode cX8_joins 46 = .ok (.iadd, 1) := by decide +kernel
theorem dX8_joins_47 : decode cX8_joins 47 = .ok (.iconst 0, 1) := by decide +kernel
theorem dX8_joins_48 : decode cX8_joins 48 = .ok (.iastore, 1) := by decide +kernel
theorem dX8_joins_49 : decode cX8_joins 49 = .ok (.aload_n 0, 1) := by decide +kernel
theorem dX8_joins_50 : decode cX8_joins 50 = .ok (.getfield 7, 3) := by decide +kernel
theorem dX8_joins_53 : decode cX8_joins 53 = .ok (.iconst 2, 1) := by decide +kernel
theorem dX8_joins_54 : decode cX8_joins 54 = .ok (.dup2, 1) := by decide +kernel
theorem dX8_joins_55 : decode cX8_joins 55 = .ok (.iaload, 1) := by decide +kernel
theorem dX8_joins_56 : decode cX8_joins 56 = .ok (.iconst 1, 1) := by decide +kernel
theorem dX8_joins_57 : decode cX8_joins 57 = .ok (.iadd, 1) := by decide +kernel
theorem dX8_joins_58 : decode cX8_joins 58 = .ok (.iastore, 1) := by decide +kernel
theorem dX8_joins_59 : decode cX8_joins 59 = .ok (.iload_n 3, 1) := by decide +kernel
theorem dX8_joins_60 : decode cX8_joins 60 = .ok (.ireturn, 1) := by decide +kernel
theorem dX8_addSubscriber_0 : decode cX8_addSubscriber 0 = .ok (.aload_n 0, 1) := by decide +kernel
theorem dX8_addSubscriber_1 : decode cX8_addSubscriber 1 = .ok (.invokevirtual 103, 3) := by decide +kernel
theorem dX8_addSubscriber_4 : decode cX8_addSubscriber 4 = .ok (.aload_n 0, 1) := by decide +kernel
theorem dX8_addSubscriber_5 : decode cX8_addSubscriber 5 = .ok (.iload_n 1, 1) := by decide +kernel
theorem dX8_addSubscriber_6 : decode cX8_addSubscriber 6 = .ok (.iload_n 2, 1) := by decide +kernel
theorem dX8_addSubscriber_7 : decode cX8_addSubscriber 7 = .ok (.invokevirtual 132, 3) := by decide +kernel
theorem dX8_addSubscriber_10 : decode cX8_addSubscriber 10 = .ok (.istore_n 3, 1) := by decide +kernel
theorem dX8_addSubscriber_11 : decode cX8_addSubscriber 11 = .ok (.iload_n 3, 1) := by decide +kernel
theorem dX8_addSubscriber_12 : decode cX8_addSubscriber 12 = .ok (.ifCond .le 11, 3) := by decide +kernel
theorem dX8_addSubscriber_15 : decode cX8_addSubscriber 15 = .ok (.aload_n 0, 1) := by decide +kernel
theorem dX8_addSubscriber_16 : decode cX8_addSubscriber 16 = .ok (.iload_n 3, 1) := by decide +kernel
theorem dX8_addSubscriber_17 : decode cX8_addSubscriber 17 = .ok (.invokevirtual 106, 3) := by decide +kernel
theorem dX8_addSubscriber_20 : decode cX8_addSubscriber 20 = .ok (.goto 13, 3) := by decide +kernel
theorem dX8_addSubscriber_23 : decode cX8_addSubscriber 23 = .ok (.aload_n 0, 1) := by decide +kernel
theorem dX8_addSubscriber_24 : decode cX8_addSubscriber 24 = .ok (.aload_n 0, 1) := by decide +kernel
theorem dX8_addSubscriber_25 : decode cX8_addSubscriber 25 = .ok (.iload_n 1, 1) := by decide +kernel
theorem dX8_addSubscriber_26 : decode cX8_addSubscriber 26 = .ok (.iload_n 2, 1) := by decide +kernel
theorem dX8_addSubscriber_27 : decode cX8_addSubscriber 27 = .ok (.invokevirtual 135, 3) := by decide +kernel
theorem dX8_addSubscriber_30 : decode cX8_addSubscriber 30 = .ok (.invokevirtual 114, 3) := by decide +kernel
theorem dX8_addSubscriber_33 : decode cX8_addSubscriber 33 = .ok (.ireturn, 1) := by decide +kernel
theorem dX8_isFree_0 : decode cX8_isFree 0 = .ok (.aload_n 0, 1) := by decide +kernel
theorem dX8_isFree_1 : decode cX8_isFree 1 = .ok (.iload_n 1, 1) := by decide +kernel
theorem dX8_isFree_2 : decode cX8_isFree 2 = .ok (.invokevirtual 138, 3) := by decide +kernel
theorem dX8_isFree_5 : decode cX8_isFree 5 = .ok (.istore_n 3, 1) := by decide +kernel
theorem dX8_isFree_6 : decode cX8_isFree 6 = .ok (.aload_n 0, 1) := by decide +kernel
theorem dX8_isFree_7 : decode cX8_isFree 7 = .ok (.iload_n 1, 1) := by decide +kernel
theorem dX8_isFree_8 : decode cX8_isFree 8 = .ok (.iconst 3, 1) := by decide +kernel
theorem dX8_isFree_9 : decode cX8_isFree 9 = .ok (.invokevirtual 141, 3) := by decide +kernel
theorem dX8_isFree_12 : decode cX8_isFree 12 = .ok (.ifCond .ne 17, 3) := by decide +kernel
theorem dX8_isFree_15 : decode cX8_isFree 15 = .ok (.iload_n 3, 1) := by decide +kernel
theorem dX8_isFree_16 : decode cX8_isFree 16 = .ok (.iconst (-1), 1) := by decide +kernel
theorem dX8_isFree_17 : decode cX8_isFree 17 = .ok (.if_icmp .eq 8, 3) := by decide +kernel
theorem dX8_isFree_20 : decode cX8_isFree 20 = .ok (.iload_n 3, 1) := by decide +kernel
theorem dX8_isFree_21 : decode cX8_isFree 21 = .ok (.iload_n 2, 1) := by decide +kernel
theorem dX8_isFree_22 : decode cX8_isFree 22 = .ok (.if_icmp .ne 7, 3) := by decide +kernel
theorem dX8_isFree_25 : decode cX8_isFree 25 = .ok (.iconst 1, 1) := by decide +kernel
theorem dX8_isFree_26 : decode cX8_isFree 26 = .ok (.goto 4, 3) := by decide +kernel
theorem dX8_isFree_29 : decode cX8_isFree 29 = .ok (.iconst 0, 1) := by decide +kernel
theorem dX8_isFree_30 : decode cX8_isFree 30 = .ok (.ireturn, 1) := by decide +kernel
theorem dX8_touches_0 : decode cX8_touches 0 = .ok (.aload_n 0, 1) := by decide +kernel
theorem dX8_touches_1 : decode cX8_touches 1 = .ok (.iload_n 1, 1) := by decide +kernel
theorem dX8_touches_2 : decode cX8_touches 2 = .ok (.iconst 0, 1) := by decide +kernel
theorem dX8_touches_3 : decode cX8_touches 3 = .ok (.invokevirtual 141, 3) := by decide +kernel
theorem dX8_touches_6 : decode cX8_touches 6 = .ok (.iload_n 2, 1) := by decide +kernel
theorem dX8_touches_7 : decode cX8_touches 7 = .ok (.if_icmp .eq 13, 3) := by decide +kernel
theorem dX8_touches_10 : decode cX8_touches 10 = .ok (.aload_n 0, 1) := by decide +kernel
theorem dX8_touches_11 : decode cX8_touches 11 = .ok (.iload_n 1, 1) := by decide +kernel
theorem dX8_touches_12 : decode cX8_touches 12 = .ok (.iconst 1, 1) := by decide +kernel
theorem dX8_touches_13 : decode cX8_touches 13 = .ok (.invokevirtual 141, 3) := by decide +kernel
theorem dX8_touches_16 : decode cX8_touches 16 = .ok (.iload_n 2, 1) := by decide +kernel
theorem dX8_touches_17 : decode cX8_touches 17 = .ok (.if_icmp .ne 7, 3) := by decide +kernel
theorem dX8_touches_20 : decode cX8_touches 20 = .ok (.iconst 1, 1) := by decide +kernel
theorem dX8_touches_21 : decode cX8_touches 21 = .ok (.goto 4, 3) := by decide +kernel
theorem dX8_touches_24 : decode cX8_touches 24 = .ok (.iconst 0, 1) := by decide +kernel
theorem dX8_touches_25 : decode cX8_touches 25 = .ok (.ireturn, 1) := by decide +kernel
theorem dX8_beyond_0 : decode cX8_beyond 0 = .ok (.aload_n 0, 1) := by decide +kernel
theorem dX8_beyond_1 : decode cX8_beyond 1 = .ok (.iload_n 1, 1) := by decide +kernel
theorem dX8_beyond_2 : decode cX8_beyond 2 = .ok (.iconst 0, 1) := by decide +kernel
theorem dX8_beyond_3 : decode cX8_beyond 3 = .ok (.invokevirtual 141, 3) := by decide +kernel
theorem dX8_beyond_6 : decode cX8_beyond 6 = .ok (.aload_n 0, 1) := by decide +kernel
theorem dX8_beyond_7 : decode cX8_beyond 7 = .ok (.iload_n 1, 1) := by decide +kernel
theorem dX8_beyond_8 : decode cX8_beyond 8 = .ok (.iconst 1, 1) := by decide +kernel
theorem dX8_beyond_9 : decode cX8_beyond 9 = .ok (.invokevirtual 141, 3) := by decide +kernel
theorem dX8_beyond_12 : decode cX8_beyond 12 = .ok (.iadd, 1) := by decide +kernel
theorem dX8_beyond_13 : decode cX8_beyond 13 = .ok (.iload_n 2, 1) := by decide +kernel
theorem dX8_beyond_14 : decode cX8_beyond 14 = .ok (.isub, 1) := by decide +kernel
theorem dX8_beyond_15 : decode cX8_beyond 15 = .ok (.ireturn, 1) := by decide +kernel
theorem dX8_nears_0 : decode cX8_nears 0 = .ok (.aload_n 0, 1) := by decide +kernel
theorem dX8_nears_1 : decode cX8_nears 1 = .ok (.iload_n 1, 1) := by decide +kernel
theorem dX8_nears_2 : decode cX8_nears 2 = .ok (.iload_n 2, 1) := by decide +kernel
theorem dX8_nears_3 : decode cX8_nears 3 = .ok (.invokevirtual 144, 3) := by decide +kernel
theorem dX8_nears_6 : decode cX8_nears 6 = .ok (.istore_n 3, 1) := by decide +kernel
theorem dX8_nears_7 : decode cX8_nears 7 = .ok (.aload_n 0, 1) := by decide +kernel
theorem dX8_nears_8 : decode cX8_nears 8 = .ok (.getfield 25, 3) := by decide +kernel
theorem dX8_nears_11 : decode cX8_nears 11 = .ok (.iload_n 3, 1) := by decide +kernel
theorem dX8_nears_12 : decode cX8_nears 12 = .ok (.iaload, 1) := by decide +kernel
theorem dX8_nears_13 : decode cX8_nears 13 = .ok (.aload_n 0, 1) := by decide +kernel
theorem dX8_nears_14 : decode cX8_nears 14 = .ok (.iload_n 1, 1) := by decide +kernel
theorem dX8_nears_15 : decode cX8_nears 15 = .ok (.iconst 2, 1) := by decide +kernel
theorem dX8_nears_16 : decode cX8_nears 16 = .ok (.invokevirtual 141, 3) := by decide +kernel
theorem dX8_nears_19 : decode cX8_nears 19 = .ok (.iadd, 1) := by decide +kernel
theorem dX8_nears_20 : decode cX8_nears 20 = .ok (.istore 4, 2) := by decide +kernel
theorem dX8_nears_22 : decode cX8_nears 22 = .ok (.aload_n 0, 1) := by decide +kernel
theorem dX8_nears_23 : decode cX8_nears 23 = .ok (.getfield 28, 3) := by decide +kernel
theorem dX8_nears_26 : decode cX8_nears 26 = .ok (.iload_n 3, 1) := by decide +kernel
theorem dX8_nears_27 : decode cX8_nears 27 = .ok (.iaload, 1) := by decide +kernel
theorem dX8_nears_28 : decode cX8_nears 28 = .ok (.iconst 1, 1) := by decide +kernel
theorem dX8_nears_29 : decode cX8_nears 29 = .ok (.iadd, 1) := by decide +kernel
theorem dX8_nears_30 : decode cX8_nears 30 = .ok (.istore 5, 2) := by decide +kernel
theorem dX8_nears_32 : decode cX8_nears 32 = .ok (.aload_n 0, 1) := by decide +kernel
theorem dX8_nears_33 : decode cX8_nears 33 = .ok (.getfield 25, 3) := by decide +kernel
theorem dX8_nears_36 : decode cX8_nears 36 = .ok (.iload_n 3, 1) := by decide +kernel
theorem dX8_nears_37 : decode cX8_nears 37 = .ok (.iaload, 1) := by decide +kernel
theorem dX8_nears_38 : decode cX8_nears 38 = .ok (.sipush 9999, 3) := by decide +kernel
theorem dX8_nears_41 : decode cX8_nears 41 = .ok (.if_icmp .eq 36, 3) := by decide +kernel
theorem dX8_nears_44 : decode cX8_nears 44 = .ok (.iload 4, 2) := by decide +kernel
theorem dX8_nears_46 : decode cX8_nears 46 = .ok (.aload_n 0, 1) := by decide +kernel
theorem dX8_nears_47 : decode cX8_nears 47 = .ok (.getfield 25, 3) := by decide +kernel
theorem dX8_nears_50 : decode cX8_nears 50 = .ok (.iload_n 2, 1) := by decide +kernel
theorem dX8_nears_51 : decode cX8_nears 51 = .ok (.iaload, 1) := by decide +kernel
theorem dX8_nears_52 : decode cX8_nears 52 = .ok (.if_icmp .gt 25, 3) := by decide +kernel
theorem dX8_nears_55 : decode cX8_nears 55 = .ok (.iload 4, 2) := by decide +kernel
theorem dX8_nears_57 : decode cX8_nears 57 = .ok (.aload_n 0, 1) := by decide +kernel
theorem dX8_nears_58 : decode cX8_nears 58 = .ok (.getfield 25, 3) := by decide +kernel
theorem dX8_nears_61 : decode cX8_nears 61 = .ok (.iload_n 2, 1) := by decide +kernel
theorem dX8_nears_62 : decode cX8_nears 62 = .ok (.iaload, 1) := by decide +kernel
theorem dX8_nears_63 : decode cX8_nears 63 = .ok (.if_icmp .ne 15, 3) := by decide +kernel
theorem dX8_nears_66 : decode cX8_nears 66 = .ok (.iload 5, 2) := by decide +kernel
theorem dX8_nears_68 : decode cX8_nears 68 = .ok (.aload_n 0, 1) := by decide +kernel
theorem dX8_nears_69 : decode cX8_nears 69 = .ok (.getfield 28, 3) := by decide +kernel
theorem dX8_nears_72 : decode cX8_nears 72 = .ok (.iload_n 2, 1) := by decide +kernel
theorem dX8_nears_73 : decode cX8_nears 73 = .ok (.iaload, 1) := by decide +kernel
theorem dX8_nears_74 : decode cX8_nears 74 = .ok (.if_icmp .lt 4, 3) := by decide +kernel
theorem dX8_nears_77 : decode cX8_nears 77 = .ok (.return_, 1) := by decide +kernel
theorem dX8_nears_78 : decode cX8_nears 78 = .ok (.aload_n 0, 1) := by decide +kernel
theorem dX8_nears_79 : decode cX8_nears 79 = .ok (.getfield 25, 3) := by decide +kernel
theorem dX8_nears_82 : decode cX8_nears 82 = .ok (.iload_n 2, 1) := by decide +kernel
theorem dX8_nears_83 : decode cX8_nears 83 = .ok (.iload 4, 2) := by decide +kernel
theorem dX8_nears_85 : decode cX8_nears 85 = .ok (.iastore, 1) := by decide +kernel
theorem dX8_nears_86 : decode cX8_nears 86 = .ok (.aload_n 0, 1) := by decide +kernel
theorem dX8_nears_87 : decode cX8_nears 87 = .ok (.getfield 28, 3) := by decide +kernel
theorem dX8_nears_90 : decode cX8_nears 90 = .ok (.iload_n 2, 1) := by decide +kernel
theorem dX8_nears_91 : decode cX8_nears 91 = .ok (.iload 5, 2) := by decide +kernel
theorem dX8_nears_93 : decode cX8_nears 93 = .ok (.iastore, 1) := by decide +kernel
theorem dX8_nears_94 : decode cX8_nears 94 = .ok (.return_, 1) := by decide +kernel
theorem dX8_measures_0 : decode cX8_measures 0 = .ok (.iconst 0, 1) := by decide +kernel
theorem dX8_measures_1 : decode cX8_measures 1 = .ok (.istore_n 3, 1) := by decide +kernel
theorem dX8_measures_2 : decode cX8_measures 2 = .ok (.iload_n 3, 1) := by decide +kernel
theorem dX8_measures_3 : decode cX8_measures 3 = .ok (.bipush 8, 2) := by decide +kernel
theorem dX8_measures_5 : decode cX8_measures 5 = .ok (.if_icmp .ge 25, 3) := by decide +kernel
theorem dX8_measures_8 : decode cX8_measures 8 = .ok (.aload_n 0, 1) := by decide +kernel
theorem dX8_measures_9 : decode cX8_measures 9 = .ok (.getfield 25, 3) := by decide +kernel
theorem dX8_measures_12 : decode cX8_measures 12 = .ok (.iload_n 3, 1) := by decide +kernel
theorem dX8_measures_13 : decode cX8_measures 13 = .ok (.sipush 9999, 3) := by decide +kernel
theorem dX8_measures_16 : decode cX8_measures 16 = .ok (.iastore, 1) := by decide +kernel
theorem dX8_measures_17 : decode cX8_measures 17 = .ok (.aload_n 0, 1) := by decide +kernel
theorem dX8_measures_18 : decode cX8_measures 18 = .ok (.getfield 28, 3) := by decide +kernel
theorem dX8_measures_21 : decode cX8_measures 21 = .ok (.iload_n 3, 1) := by decide +kernel
theorem dX8_measures_22 : decode cX8_measures 22 = .ok (.iconst 0, 1) := by decide +kernel
theorem dX8_measures_23 : decode cX8_measures 23 = .ok (.iastore, 1) := by decide +kernel
theorem dX8_measures_24 : decode cX8_measures 24 = .ok (.iinc 3 1, 3) := by decide +kernel
theorem dX8_measures_27 : decode cX8_measures 27 = .ok (.goto (-25), 3) := by decide +kernel
theorem dX8_measures_30 : decode cX8_measures 30 = .ok (.aload_n 0, 1) := by decide +kernel
theorem dX8_measures_31 : decode cX8_measures 31 = .ok (.getfield 25, 3) := by decide +kernel
theorem dX8_measures_34 : decode cX8_measures 34 = .ok (.iload_n 1, 1) := by decide +kernel
theorem dX8_measures_35 : decode cX8_measures 35 = .ok (.iconst 0, 1) := by decide +kernel
theorem dX8_measures_36 : decode cX8_measures 36 = .ok (.iastore, 1) := by decide +kernel
theorem dX8_measures_37 : decode cX8_measures 37 = .ok (.iconst 0, 1) := by decide +kernel
theorem dX8_measures_38 : decode cX8_measures 38 = .ok (.istore_n 3, 1) := by decide +kernel
theorem dX8_measures_39 : decode cX8_measures 39 = .ok (.iload_n 3, 1) := by decide +kernel
theorem dX8_measures_40 : decode cX8_measures 40 = .ok (.bipush 8, 2) := by decide +kernel
theorem dX8_measures_42 : decode cX8_measures 42 = .ok (.if_icmp .ge 68, 3) := by decide +kernel
theorem dX8_measures_45 : decode cX8_measures 45 = .ok (.iconst 0, 1) := by decide +kernel
theorem dX8_measures_46 : decode cX8_measures 46 = .ok (.istore 4, 2) := by decide +kernel
theorem dX8_measures_48 : decode cX8_measures 48 = .ok (.iload 4, 2) := by decide +kernel
theorem dX8_measures_50 : decode cX8_measures 50 = .ok (.aload_n 0, 1) := by decide +kernel
theorem dX8_measures_51 : decode cX8_measures 51 = .ok (.getfield 7, 3) := by decide +kernel
theorem dX8_measures_54 : decode cX8_measures 54 = .ok (.iconst 1, 1) := by decide +kernel
theorem dX8_measures_55 : decode cX8_measures 55 = .ok (.iaload, 1) := by decide +kernel
theorem dX8_measures_56 : decode cX8_measures 56 = .ok (.if_icmp .ge 48, 3) := by decide +kernel
theorem dX8_measures_59 : decode cX8_measures 59 = .ok (.aload_n 0, 1) := by decide +kernel
theorem dX8_measures_60 : decode cX8_measures 60 = .ok (.iload 4, 2) := by decide +kernel
theorem dX8_measures_62 : decode cX8_measures 62 = .ok (.iload_n 2, 1) := by decide +kernel
theorem dX8_measures_63 : decode cX8_measures 63 = .ok (.invokevirtual 147, 3) := by decide +kernel
theorem dX8_measures_66 : decode cX8_measures 66 = .ok (.ifCond .ne 6, 3) := by decide +kernel
theorem dX8_measures_69 : decode cX8_measures 69 = .ok (.goto 29, 3) := by decide +kernel
theorem dX8_measures_72 : decode cX8_measures 72 = .ok (.aload_n 0, 1) := by decide +kernel
theorem dX8_measures_73 : decode cX8_measures 73 = .ok (.iload 4, 2) := by decide +kernel
theorem dX8_measures_75 : decode cX8_measures 75 = .ok (.aload_n 0, 1) := by decide +kernel
theorem dX8_measures_76 : decode cX8_measures 76 = .ok (.iload 4, 2) := by decide +kernel
theorem dX8_measures_78 : decode cX8_measures 78 = .ok (.iconst 0, 1) := by decide +kernel
theorem dX8_measures_79 : decode cX8_measures 79 = .ok (.invokevirtual 141, 3) := by decide +kernel
theorem dX8_measures_82 : decode cX8_measures 82 = .ok (.invokevirtual 150, 3) := by decide +kernel
theorem dX8_measures_85 : decode cX8_measures 85 = .ok (.aload_n 0, 1) := by decide +kernel
theorem dX8_measures_86 : decode cX8_measures 86 = .ok (.iload 4, 2) := by decide +kernel
theorem dX8_measures_88 : decode cX8_measures 88 = .ok (.aload_n 0, 1) := by decide +kernel
theorem dX8_measures_89 : decode cX8_measures 89 = .ok (.iload 4, 2) := by decide +kernel
theorem dX8_measures_91 : decode cX8_measures 91 = .ok (.iconst 1, 1) := by decide +kernel
theorem dX8_measures_92 : decode cX8_measures 92 = .ok (.invokevirtual 141, 3) := by decide +kernel
theorem dX8_measures_95 : decode cX8_measures 95 = .ok (.invokevirtual 150, 3) := by decide +kernel
theorem dX8_measures_98 : decode cX8_measures 98 = .ok (.iinc 4 1, 3) := by decide +kernel
theorem dX8_measures_101 : decode cX8_measures 101 = .ok (.goto (-53), 3) := by decide +kernel
theorem dX8_measures_104 : decode cX8_measures 104 = .ok (.iinc 3 1, 3) := by decide +kernel
theorem dX8_measures_107 : decode cX8_measures 107 = .ok (.goto (-68), 3) := by decide +kernel
theorem dX8_measures_110 : decode cX8_measures 110 = .ok (.return_, 1) := by decide +kernel
theorem dX8_finds_0 : decode cX8_finds 0 = .ok (.aload_n 0, 1) := by decide +kernel
theorem dX8_finds_1 : decode cX8_finds 1 = .ok (.iload_n 2, 1) := by decide +kernel
theorem dX8_finds_2 : decode cX8_finds 2 = .ok (.iload_n 3, 1) := by decide +kernel
theorem dX8_finds_3 : decode cX8_finds 3 = .ok (.invokevirtual 154, 3) := by decide +kernel
theorem dX8_finds_6 : decode cX8_finds 6 = .ok (.aload_n 0, 1) := by decide +kernel
theorem dX8_finds_7 : decode cX8_finds 7 = .ok (.iconst 0, 1) := by decide +kernel
theorem dX8_finds_8 : decode cX8_finds 8 = .ok (.putfield 50, 3) := by decide +kernel
theorem dX8_finds_11 : decode cX8_finds 11 = .ok (.aload_n 0, 1) := by decide +kernel
theorem dX8_finds_12 : decode cX8_finds 12 = .ok (.getfield 25, 3) := by decide +kernel
theorem dX8_finds_15 : decode cX8_finds 15 = .ok (.iload_n 1, 1) := by decide +kernel
theorem dX8_finds_16 : decode cX8_finds 16 = .ok (.iaload, 1) := by decide +kernel
theorem dX8_finds_17 : decode cX8_finds 17 = .ok (.sipush 9999, 3) := by decide +kernel
theorem dX8_finds_20 : decode cX8_finds 20 = .ok (.if_icmp .ne 5, 3) := by decide +kernel
theorem dX8_finds_23 : decode cX8_finds 23 = .ok (.iconst 0, 1) := by decide +kernel
theorem dX8_finds_24 : decode cX8_finds 24 = .ok (.ireturn, 1) := by decide +kernel
theorem dX8_finds_25 : decode cX8_finds 25 = .ok (.iload_n 1, 1) := by decide +kernel
theorem dX8_finds_26 : decode cX8_finds 26 = .ok (.istore 4, 2) := by decide +kernel
theorem dX8_finds_28 : decode cX8_finds 28 = .ok (.iload 4, 2) := by decide +kernel
theorem dX8_finds_30 : decode cX8_finds 30 = .ok (.iload_n 2, 1) := by decide +kernel
theorem dX8_finds_31 : decode cX8_finds 31 = .ok (.if_icmp .eq 123, 3) := by decide +kernel
theorem dX8_finds_34 : decode cX8_finds 34 = .ok (.iconst 0, 1) := by decide +kernel
theorem dX8_finds_35 : decode cX8_finds 35 = .ok (.istore 5, 2) := by decide +kernel
theorem dX8_finds_37 : decode cX8_finds 37 = .ok (.aload_n 0, 1) := by decide +kernel
theorem dX8_finds_38 : decode cX8_finds 38 = .ok (.iload 5, 2) := by decide +kernel
theorem dX8_finds_40 : decode cX8_finds 40 = .ok (.iload_n 3, 1) := by decide +kernel
theorem dX8_finds_41 : decode cX8_finds 41 = .ok (.invokevirtual 147, 3) := by decide +kernel
theorem dX8_finds_44 : decode cX8_finds 44 = .ok (.ifCond .eq 70, 3) := by decide +kernel
theorem dX8_finds_47 : decode cX8_finds 47 = .ok (.aload_n 0, 1) := by decide +kernel
theorem dX8_finds_48 : decode cX8_finds 48 = .ok (.iload 5, 2) := by decide +kernel
theorem dX8_finds_50 : decode cX8_finds 50 = .ok (.iload 4, 2) := by decide +kernel
theorem dX8_finds_52 : decode cX8_finds 52 = .ok (.invokevirtual 157, 3) := by decide +kernel
theorem dX8_finds_55 : decode cX8_finds 55 = .ok (.ifCond .eq 59, 3) := by decide +kernel
theorem dX8_finds_58 : decode cX8_finds 58 = .ok (.aload_n 0, 1) := by decide +kernel
theorem dX8_finds_59 : decode cX8_finds 59 = .ok (.getfield 25, 3) := by decide +kernel
theorem dX8_finds_62 : decode cX8_finds 62 = .ok (.iload 4, 2) := by decide +kernel
theorem dX8_finds_64 : decode cX8_finds 64 = .ok (.iaload, 1) := by decide +kernel
theorem dX8_finds_65 : decode cX8_finds 65 = .ok (.aload_n 0, 1) := by decide +kernel
theorem dX8_finds_66 : decode cX8_finds 66 = .ok (.iload 5, 2) := by decide +kernel
theorem dX8_finds_68 : decode cX8_finds 68 = .ok (.iconst 2, 1) := by decide +kernel
theorem dX8_finds_69 : decode cX8_finds 69 = .ok (.invokevirtual 141, 3) := by decide +kernel
theorem dX8_finds_72 : decode cX8_finds 72 = .ok (.aload_n 0, 1) := by decide +kernel
theorem dX8_finds_73 : decode cX8_finds 73 = .ok (.getfield 25, 3) := by decide +kernel
theorem dX8_finds_76 : decode cX8_finds 76 = .ok (.aload_n 0, 1) := by decide +kernel
theorem dX8_finds_77 : decode cX8_finds 77 = .ok (.iload 5, 2) := by decide +kernel
theorem dX8_finds_79 : decode cX8_finds 79 = .ok (.iload 4, 2) := by decide +kernel
theorem dX8_finds_81 : decode cX8_finds 81 = .ok (.invokevirtual 144, 3) := by decide +kernel
theorem dX8_finds_84 : decode cX8_finds 84 = .ok (.iaload, 1) := by decide +kernel
theorem dX8_finds_85 : decode cX8_finds 85 = .ok (.iadd, 1) := by decide +kernel
theorem dX8_finds_86 : decode cX8_finds 86 = .ok (.if_icmp .ne 28, 3) := by decide +kernel
theorem dX8_finds_89 : decode cX8_finds 89 = .ok (.aload_n 0, 1) := by decide +kernel
theorem dX8_finds_90 : decode cX8_finds 90 = .ok (.getfield 28, 3) := by decide +kernel
theorem dX8_finds_93 : decode cX8_finds 93 = .ok (.iload 4, 2) := by decide +kernel
theorem dX8_finds_95 : decode cX8_finds 95 = .ok (.iaload, 1) := by decide +kernel
theorem dX8_finds_96 : decode cX8_finds 96 = .ok (.iconst 1, 1) := by decide +kernel
theorem dX8_finds_97 : decode cX8_finds 97 = .ok (.aload_n 0, 1) := by decide +kernel
theorem dX8_finds_98 : decode cX8_finds 98 = .ok (.getfield 28, 3) := by decide +kernel
theorem dX8_finds_101 : decode cX8_finds 101 = .ok (.aload_n 0, 1) := by decide +kernel
theorem dX8_finds_102 : decode cX8_finds 102 = .ok (.iload 5, 2) := by decide +kernel
theorem dX8_finds_104 : decode cX8_finds 104 = .ok (.iload 4, 2) := by decide +kernel
theorem dX8_finds_106 : decode cX8_finds 106 = .ok (.invokevirtual 144, 3) := by decide +kernel
theorem dX8_finds_109 : decode cX8_finds 109 = .ok (.iaload, 1) := by decide +kernel
theorem dX8_finds_110 : decode cX8_finds 110 = .ok (.iadd, 1) := by decide +kernel
theorem dX8_finds_111 : decode cX8_finds 111 = .ok (.if_icmp .eq 9, 3) := by decide +kernel
theorem dX8_finds_114 : decode cX8_finds 114 = .ok (.iinc 5 1, 3) := by decide +kernel
theorem dX8_finds_117 : decode cX8_finds 117 = .ok (.goto (-80), 3) := by decide +kernel
theorem dX8_finds_120 : decode cX8_finds 120 = .ok (.aload_n 0, 1) := by decide +kernel
theorem dX8_finds_121 : decode cX8_finds 121 = .ok (.getfield 31, 3) := by decide +kernel
theorem dX8_finds_124 : decode cX8_finds 124 = .ok (.aload_n 0, 1) := by decide +kernel
theorem dX8_finds_125 : decode cX8_finds 125 = .ok (.getfield 50, 3) := by decide +kernel
theorem dX8_finds_128 : decode cX8_finds 128 = .ok (.iload 5, 2) := by decide +kernel
theorem dX8_finds_130 : decode cX8_finds 130 = .ok (.iastore, 1) := by decide +kernel
theorem dX8_finds_131 : decode cX8_finds 131 = .ok (.aload_n 0, 1) := by decide +kernel
theorem dX8_finds_132 : decode cX8_finds 132 = .ok (.dup, 1) := by decide +kernel
theorem dX8_finds_133 : decode cX8_finds 133 = .ok (.getfield 50, 3) := by decide +kernel
theorem dX8_finds_136 : decode cX8_finds 136 = .ok (.iconst 1, 1) := by decide +kernel
theorem dX8_finds_137 : decode cX8_finds 137 = .ok (.iadd, 1) := by decide +kernel
theorem dX8_finds_138 : decode cX8_finds 138 = .ok (.putfield 50, 3) := by decide +kernel
theorem dX8_finds_141 : decode cX8_finds 141 = .ok (.aload_n 0, 1) := by decide +kernel
theorem dX8_finds_142 : decode cX8_finds 142 = .ok (.iload 5, 2) := by decide +kernel
theorem dX8_finds_144 : decode cX8_finds 144 = .ok (.iload 4, 2) := by decide +kernel
theorem dX8_finds_146 : decode cX8_finds 146 = .ok (.invokevirtual 144, 3) := by decide +kernel
theorem dX8_finds_149 : decode cX8_finds 149 = .ok (.istore 4, 2) := by decide +kernel
theorem dX8_finds_151 : decode cX8_finds 151 = .ok (.goto (-123), 3) := by decide +kernel
theorem dX8_finds_154 : decode cX8_finds 154 = .ok (.iconst 1, 1) := by decide +kernel
theorem dX8_finds_155 : decode cX8_finds 155 = .ok (.ireturn, 1) := by decide +kernel
theorem dX8_takesRoute_0 : decode cX8_takesRoute 0 = .ok (.aload_n 0, 1) := by decide +kernel
theorem dX8_takesRoute_1 : decode cX8_takesRoute 1 = .ok (.iload_n 1, 1) := by decide +kernel
theorem dX8_takesRoute_2 : decode cX8_takesRoute 2 = .ok (.iconst 3, 1) := by decide +kernel
theorem dX8_takesRoute_3 : decode cX8_takesRoute 3 = .ok (.aload_n 0, 1) := by decide +kernel
theorem dX8_takesRoute_4 : decode cX8_takesRoute 4 = .ok (.getfield 50, 3) := by decide +kernel
theorem dX8_takesRoute_7 : decode cX8_takesRoute 7 = .ok (.invokevirtual 160, 3) := by decide +kernel
theorem dX8_takesRoute_10 : decode cX8_takesRoute 10 = .ok (.iconst 0, 1) := by decide +kernel
theorem dX8_takesRoute_11 : decode cX8_takesRoute 11 = .ok (.istore_n 2, 1) := by decide +kernel
theorem dX8_takesRoute_12 : decode cX8_takesRoute 12 = .ok (.iload_n 2, 1) := by decide +kernel
theorem dX8_takesRoute_13 : decode cX8_takesRoute 13 = .ok (.bipush 8, 2) := by decide +kernel
theorem dX8_takesRoute_15 : decode cX8_takesRoute 15 = .ok (.if_icmp .ge 35, 3) := by decide +kernel
theorem dX8_takesRoute_18 : decode cX8_takesRoute 18 = .ok (.aload_n 0, 1) := by decide +kernel
theorem dX8_takesRoute_19 : decode cX8_takesRoute 19 = .ok (.iload_n 1, 1) := by decide +kernel
theorem dX8_takesRoute_20 : decode cX8_takesRoute 20 = .ok (.iconst 4, 1) := by decide +kernel
theorem dX8_takesRoute_21 : decode cX8_takesRoute 21 = .ok (.iload_n 2, 1) := by decide +kernel
theorem dX8_takesRoute_22 : decode cX8_takesRoute 22 = .ok (.iadd, 1) := by decide +kernel
theorem dX8_takesRoute_23 : decode cX8_takesRoute 23 = .ok (.iload_n 2, 1) := by decide +kernel
theorem dX8_takesRoute_24 : decode cX8_takesRoute 24 = .ok (.aload_n 0, 1) := by decide +kernel
theorem dX8_takesRoute_25 : decode cX8_takesRoute 25 = .ok (.getfield 50, 3) := by decide +kernel
theorem dX8_takesRoute_28 : decode cX8_takesRoute 28 = .ok (.if_icmp .ge 12, 3) := by decide +kernel
theorem dX8_takesRoute_31 : decode cX8_takesRoute 31 = .ok (.aload_n 0, 1) := by decide +kernel
theorem dX8_takesRoute_32 : decode cX8_takesRoute 32 = .ok (.getfield 31, 3) := by decide +kernel
theorem dX8_takesRoute_35 : decode cX8_takesRoute 35 = .ok (.iload_n 2, 1) := by decide +kernel
theorem dX8_takesRoute_36 : decode cX8_takesRoute 36 = .ok (.iaload, 1) := by decide +kernel
theorem dX8_takesRoute_37 : decode cX8_takesRoute 37 = .ok (.goto 4, 3) := by decide +kernel
theorem dX8_takesRoute_40 : decode cX8_takesRoute 40 = .ok (.iconst 0, 1) := by decide +kernel
theorem dX8_takesRoute_41 : decode cX8_takesRoute 41 = .ok (.invokevirtual 160, 3) := by decide +kernel
theorem dX8_takesRoute_44 : decode cX8_takesRoute 44 = .ok (.iinc 2 1, 3) := by decide +kernel
theorem dX8_takesRoute_47 : decode cX8_takesRoute 47 = .ok (.goto (-35), 3) := by decide +kernel
theorem dX8_takesRoute_50 : decode cX8_takesRoute 50 = .ok (.return_, 1) := by decide +kernel
theorem dX8_lengthOf_0 : decode cX8_lengthOf 0 = .ok (.iconst 0, 1) := by decide +kernel
theorem dX8_lengthOf_1 : decode cX8_lengthOf 1 = .ok (.istore_n 2, 1) := by decide +kernel
theorem dX8_lengthOf_2 : decode cX8_lengthOf 2 = .ok (.iconst 0, 1) := by decide +kernel
theorem dX8_lengthOf_3 : decode cX8_lengthOf 3 = .ok (.istore_n 3, 1) := by decide +kernel
theorem dX8_lengthOf_4 : decode cX8_lengthOf 4 = .ok (.iload_n 3, 1) := by decide +kernel
theorem dX8_lengthOf_5 : decode cX8_lengthOf 5 = .ok (.aload_n 0, 1) := by decide +kernel
theorem dX8_lengthOf_6 : decode cX8_lengthOf 6 = .ok (.iload_n 1, 1) := by decide +kernel
theorem dX8_lengthOf_7 : decode cX8_lengthOf 7 = .ok (.iconst 3, 1) := by decide +kernel
theorem dX8_lengthOf_8 : decode cX8_lengthOf 8 = .ok (.invokevirtual 95, 3) := by decide +kernel
theorem dX8_lengthOf_11 : decode cX8_lengthOf 11 = .ok (.if_icmp .ge 25, 3) := by decide +kernel
theorem dX8_lengthOf_14 : decode cX8_lengthOf 14 = .ok (.iload_n 2, 1) := by decide +kernel
theorem dX8_lengthOf_15 : decode cX8_lengthOf 15 = .ok (.aload_n 0, 1) := by decide +kernel
theorem dX8_lengthOf_16 : decode cX8_lengthOf 16 = .ok (.aload_n 0, 1) := by decide +kernel
theorem dX8_lengthOf_17 : decode cX8_lengthOf 17 = .ok (.iload_n 1, 1) := by decide +kernel
theorem dX8_lengthOf_18 : decode cX8_lengthOf 18 = .ok (.iconst 4, 1) := by decide +kernel
theorem dX8_lengthOf_19 : decode cX8_lengthOf 19 = .ok (.iload_n 3, 1) := by decide +kernel
theorem dX8_lengthOf_20 : decode cX8_lengthOf 20 = .ok (.iadd, 1) := by decide +kernel
theorem dX8_lengthOf_21 : decode cX8_lengthOf 21 = .ok (.invokevirtual 95, 3) := by decide +kernel
theorem dX8_lengthOf_24 : decode cX8_lengthOf 24 = .ok (.iconst 2, 1) := by decide +kernel
theorem dX8_lengthOf_25 : decode cX8_lengthOf 25 = .ok (.invokevirtual 141, 3) := by decide +kernel
theorem dX8_lengthOf_28 : decode cX8_lengthOf 28 = .ok (.iadd, 1) := by decide +kernel
theorem dX8_lengthOf_29 : decode cX8_lengthOf 29 = .ok (.istore_n 2, 1) := by decide +kernel
theorem dX8_lengthOf_30 : decode cX8_lengthOf 30 = .ok (.iinc 3 1, 3) := by decide +kernel
theorem dX8_lengthOf_33 : decode cX8_lengthOf 33 = .ok (.goto (-29), 3) := by decide +kernel
theorem dX8_lengthOf_36 : decode cX8_lengthOf 36 = .ok (.iload_n 2, 1) := by decide +kernel
theorem dX8_lengthOf_37 : decode cX8_lengthOf 37 = .ok (.ireturn, 1) := by decide +kernel
theorem dX8_chargeOf_0 : decode cX8_chargeOf 0 = .ok (.aload_n 0, 1) := by decide +kernel
theorem dX8_chargeOf_1 : decode cX8_chargeOf 1 = .ok (.aload_n 0, 1) := by decide +kernel
theorem dX8_chargeOf_2 : decode cX8_chargeOf 2 = .ok (.iload_n 1, 1) := by decide +kernel
theorem dX8_chargeOf_3 : decode cX8_chargeOf 3 = .ok (.iconst 0, 1) := by decide +kernel
theorem dX8_chargeOf_4 : decode cX8_chargeOf 4 = .ok (.invokevirtual 95, 3) := by decide +kernel
theorem dX8_chargeOf_7 : decode cX8_chargeOf 7 = .ok (.iconst 1, 1) := by decide +kernel
theorem dX8_chargeOf_8 : decode cX8_chargeOf 8 = .ok (.invokevirtual 163, 3) := by decide +kernel
theorem dX8_chargeOf_11 : decode cX8_chargeOf 11 = .ok (.istore_n 2, 1) := by decide +kernel
theorem dX8_chargeOf_12 : decode cX8_chargeOf 12 = .ok (.aload_n 0, 1) := by decide +kernel
theorem dX8_chargeOf_13 : decode cX8_chargeOf 13 = .ok (.iload_n 1, 1) := by decide +kernel
theorem dX8_chargeOf_14 : decode cX8_chargeOf 14 = .ok (.iconst 2, 1) := by decide +kernel
theorem dX8_chargeOf_15 : decode cX8_chargeOf 15 = .ok (.invokevirtual 95, 3) := by decide +kernel
theorem dX8_chargeOf_18 : decode cX8_chargeOf 18 = .ok (.aload_n 0, 1) := by decide +kernel
theorem dX8_chargeOf_19 : decode cX8_chargeOf 19 = .ok (.iload_n 1, 1) := by decide +kernel
theorem dX8_chargeOf_20 : decode cX8_chargeOf 20 = .ok (.invokevirtual 166, 3) := by decide +kernel
theorem dX8_chargeOf_23 : decode cX8_chargeOf 23 = .ok (.iconst 1, 1) := by decide +kernel
theorem dX8_chargeOf_24 : decode cX8_chargeOf 24 = .ok (.iadd, 1) := by decide +kernel
theorem dX8_chargeOf_25 : decode cX8_chargeOf 25 = .ok (.imul, 1) := by decide +kernel
theorem dX8_chargeOf_26 : decode cX8_chargeOf 26 = .ok (.istore_n 3, 1) := by decide +kernel
theorem dX8_chargeOf_27 : decode cX8_chargeOf 27 = .ok (.iload_n 2, 1) := by decide +kernel
theorem dX8_chargeOf_28 : decode cX8_chargeOf 28 = .ok (.ifCond .ne 8, 3) := by decide +kernel
theorem dX8_chargeOf_31 : decode cX8_chargeOf 31 = .ok (.bipush 25, 2) := by decide +kernel
theorem dX8_chargeOf_33 : decode cX8_chargeOf 33 = .ok (.goto 17, 3) := by decide +kernel
theorem dX8_chargeOf_36 : decode cX8_chargeOf 36 = .ok (.iload_n 2, 1) := by decide +kernel
theorem dX8_chargeOf_37 : decode cX8_chargeOf 37 = .ok (.iconst 1, 1) := by decide +kernel
theorem dX8_chargeOf_38 : decode cX8_chargeOf 38 = .ok (.if_icmp .ne 7, 3) := by decide +kernel
theorem dX8_chargeOf_41 : decode cX8_chargeOf 41 = .ok (.iload_n 3, 1) := by decide +kernel
theorem dX8_chargeOf_42 : decode cX8_chargeOf 42 = .ok (.goto 8, 3) := by decide +kernel
theorem dX8_chargeOf_45 : decode cX8_chargeOf 45 = .ok (.iload_n 3, 1) := by decide +kernel
theorem dX8_chargeOf_46 : decode cX8_chargeOf 46 = .ok (.iconst 1, 1) := by decide +kernel
theorem dX8_chargeOf_47 : decode cX8_chargeOf 47 = .ok (.iadd, 1) := by decide +kernel
theorem dX8_chargeOf_48 : decode cX8_chargeOf 48 = .ok (.iconst 2, 1) := by decide +kernel
theorem dX8_chargeOf_49 : decode cX8_chargeOf 49 = .ok (.idiv, 1) := by decide +kernel
theorem dX8_chargeOf_50 : decode cX8_chargeOf 50 = .ok (.ireturn, 1) := by decide +kernel
theorem dX8_ends_0 : decode cX8_ends 0 = .ok (.aload_n 0, 1) := by decide +kernel
theorem dX8_ends_1 : decode cX8_ends 1 = .ok (.iload_n 1, 1) := by decide +kernel
theorem dX8_ends_2 : decode cX8_ends 2 = .ok (.invokevirtual 169, 3) := by decide +kernel
theorem dX8_ends_5 : decode cX8_ends 5 = .ok (.istore_n 2, 1) := by decide +kernel
theorem dX8_ends_6 : decode cX8_ends 6 = .ok (.aload_n 0, 1) := by decide +kernel
theorem dX8_ends_7 : decode cX8_ends 7 = .ok (.getfield 7, 3) := by decide +kernel
theorem dX8_ends_10 : decode cX8_ends 10 = .ok (.bipush 88, 2) := by decide +kernel
theorem dX8_ends_12 : decode cX8_ends 12 = .ok (.iconst 3, 1) := by decide +kernel
theorem dX8_ends_13 : decode cX8_ends 13 = .ok (.aload_n 0, 1) := by decide +kernel
theorem dX8_ends_14 : decode cX8_ends 14 = .ok (.iload_n 1, 1) := by decide +kernel
theorem dX8_ends_15 : decode cX8_ends 15 = .ok (.iconst 0, 1) := by decide +kernel
theorem dX8_ends_16 : decode cX8_ends 16 = .ok (.invokevirtual 95, 3) := by decide +kernel
theorem dX8_ends_19 : decode cX8_ends 19 = .ok (.imul, 1) := by decide +kernel
theorem dX8_ends_20 : decode cX8_ends 20 = .ok (.iadd, 1) := by decide +kernel
theorem dX8_ends_21 : decode cX8_ends 21 = .ok (.iconst 2, 1) := by decide +kernel
theorem dX8_ends_22 : decode cX8_ends 22 = .ok (.iadd, 1) := by decide +kernel
theorem dX8_ends_23 : decode cX8_ends 23 = .ok (.dup2, 1) := by decide +kernel
theorem dX8_ends_24 : decode cX8_ends 24 = .ok (.iaload, 1) := by decide +kernel
theorem dX8_ends_25 : decode cX8_ends 25 = .ok (.iload_n 2, 1) := by decide +kernel
theorem dX8_ends_26 : decode cX8_ends 26 = .ok (.iadd, 1) := by decide +kernel
theorem dX8_ends_27 : decode cX8_ends 27 = .ok (.iastore, 1) := by decide +kernel
theorem dX8_ends_28 : decode cX8_ends 28 = .ok (.aload_n 0, 1) := by decide +kernel
theorem dX8_ends_29 : decode cX8_ends 29 = .ok (.getfield 7, 3) := by decide +kernel
theorem dX8_ends_32 : decode cX8_ends 32 = .ok (.iconst 5, 1) := by decide +kernel
theorem dX8_ends_33 : decode cX8_ends 33 = .ok (.dup2, 1) := by decide +kernel
theorem dX8_ends_34 : decode cX8_ends 34 = .ok (.iaload, 1) := by decide +kernel
theorem dX8_ends_35 : decode cX8_ends 35 = .ok (.iload_n 2, 1) := by decide +kernel
theorem dX8_ends_36 : decode cX8_ends 36 = .ok (.iadd, 1) := by decide +kernel
theorem dX8_ends_37 : decode cX8_ends 37 = .ok (.iastore, 1) := by decide +kernel
theorem dX8_ends_38 : decode cX8_ends 38 = .ok (.aload_n 0, 1) := by decide +kernel
theorem dX8_ends_39 : decode cX8_ends 39 = .ok (.getfield 7, 3) := by decide +kernel
theorem dX8_ends_42 : decode cX8_ends 42 = .ok (.iconst 4, 1) := by decide +kernel
theorem dX8_ends_43 : decode cX8_ends 43 = .ok (.dup2, 1) := by decide +kernel
theorem dX8_ends_44 : decode cX8_ends 44 = .ok (.iaload, 1) := by decide +kernel
theorem dX8_ends_45 : decode cX8_ends 45 = .ok (.iconst 1, 1) := by decide +kernel
theorem dX8_ends_46 : decode cX8_ends 46 = .ok (.iadd, 1) := by decide +kernel
theorem dX8_ends_47 : decode cX8_ends 47 = .ok (.iastore, 1) := by decide +kernel
theorem dX8_ends_48 : decode cX8_ends 48 = .ok (.aload_n 0, 1) := by decide +kernel
theorem dX8_ends_49 : decode cX8_ends 49 = .ok (.getfield 7, 3) := by decide +kernel
theorem dX8_ends_52 : decode cX8_ends 52 = .ok (.iconst 3, 1) := by decide +kernel
theorem dX8_ends_53 : decode cX8_ends 53 = .ok (.dup2, 1) := by decide +kernel
theorem dX8_ends_54 : decode cX8_ends 54 = .ok (.iaload, 1) := by decide +kernel
theorem dX8_ends_55 : decode cX8_ends 55 = .ok (.iconst 1, 1) := by decide +kernel
theorem dX8_ends_56 : decode cX8_ends 56 = .ok (.isub, 1) := by decide +kernel
theorem dX8_ends_57 : decode cX8_ends 57 = .ok (.iastore, 1) := by decide +kernel
theorem dX8_ends_58 : decode cX8_ends 58 = .ok (.bipush 118, 2) := by decide +kernel
theorem dX8_ends_60 : decode cX8_ends 60 = .ok (.bipush 12, 2) := by decide +kernel
theorem dX8_ends_62 : decode cX8_ends 62 = .ok (.iload_n 1, 1) := by decide +kernel
theorem dX8_ends_63 : decode cX8_ends 63 = .ok (.imul, 1) := by decide +kernel
theorem dX8_ends_64 : decode cX8_ends 64 = .ok (.iadd, 1) := by decide +kernel
theorem dX8_ends_65 : decode cX8_ends 65 = .ok (.istore_n 3, 1) := by decide +kernel
theorem dX8_ends_66 : decode cX8_ends 66 = .ok (.iload_n 3, 1) := by decide +kernel
theorem dX8_ends_67 : decode cX8_ends 67 = .ok (.bipush 118, 2) := by decide +kernel
theorem dX8_ends_69 : decode cX8_ends 69 = .ok (.bipush 12, 2) := by decide +kernel
theorem dX8_ends_71 : decode cX8_ends 71 = .ok (.aload_n 0, 1) := by decide +kernel
theorem dX8_ends_72 : decode cX8_ends 72 = .ok (.getfield 7, 3) := by decide +kernel
theorem dX8_ends_75 : decode cX8_ends 75 = .ok (.iconst 3, 1) := by decide +kernel
theorem dX8_ends_76 : decode cX8_ends 76 = .ok (.iaload, 1) := by decide +kernel
theorem dX8_ends_77 : decode cX8_ends 77 = .ok (.imul, 1) := by decide +kernel
theorem dX8_ends_78 : decode cX8_ends 78 = .ok (.iadd, 1) := by decide +kernel
theorem dX8_ends_79 : decode cX8_ends 79 = .ok (.if_icmp .ge 24, 3) := by decide +kernel
theorem dX8_ends_82 : decode cX8_ends 82 = .ok (.aload_n 0, 1) := by decide +kernel
theorem dX8_ends_83 : decode cX8_ends 83 = .ok (.getfield 7, 3) := by decide +kernel
theorem dX8_ends_86 : decode cX8_ends 86 = .ok (.iload_n 3, 1) := by decide +kernel
theorem dX8_ends_87 : decode cX8_ends 87 = .ok (.aload_n 0, 1) := by decide +kernel
theorem dX8_ends_88 : decode cX8_ends 88 = .ok (.getfield 7, 3) := by decide +kernel
theorem dX8_ends_91 : decode cX8_ends 91 = .ok (.iload_n 3, 1) := by decide +kernel
theorem dX8_ends_92 : decode cX8_ends 92 = .ok (.bipush 12, 2) := by decide +kernel
theorem dX8_ends_94 : decode cX8_ends 94 = .ok (.iadd, 1) := by decide +kernel
theorem dX8_ends_95 : decode cX8_ends 95 = .ok (.iaload, 1) := by decide +kernel
theorem dX8_ends_96 : decode cX8_ends 96 = .ok (.iastore, 1) := by decide +kernel
theorem dX8_ends_97 : decode cX8_ends 97 = .ok (.iinc 3 1, 3) := by decide +kernel
theorem dX8_ends_100 : decode cX8_ends 100 = .ok (.goto (-34), 3) := by decide +kernel
theorem dX8_ends_103 : decode cX8_ends 103 = .ok (.iconst 0, 1) := by decide +kernel
theorem dX8_ends_104 : decode cX8_ends 104 = .ok (.istore_n 3, 1) := by decide +kernel
theorem dX8_ends_105 : decode cX8_ends 105 = .ok (.iload_n 3, 1) := by decide +kernel
theorem dX8_ends_106 : decode cX8_ends 106 = .ok (.bipush 12, 2) := by decide +kernel
theorem dX8_ends_108 : decode cX8_ends 108 = .ok (.if_icmp .ge 21, 3) := by decide +kernel
theorem dX8_ends_111 : decode cX8_ends 111 = .ok (.aload_n 0, 1) := by decide +kernel
theorem dX8_ends_112 : decode cX8_ends 112 = .ok (.aload_n 0, 1) := by decide +kernel
theorem dX8_ends_113 : decode cX8_ends 113 = .ok (.getfield 7, 3) := by decide +kernel
theorem dX8_ends_116 : decode cX8_ends 116 = .ok (.iconst 3, 1) := by decide +kernel
theorem dX8_ends_117 : decode cX8_ends 117 = .ok (.iaload, 1) := by decide +kernel
theorem dX8_ends_118 : decode cX8_ends 118 = .ok (.iload_n 3, 1) := by decide +kernel
theorem dX8_ends_119 : decode cX8_ends 119 = .ok (.iconst 0, 1) := by decide +kernel
theorem dX8_ends_120 : decode cX8_ends 120 = .ok (.invokevirtual 160, 3) := by decide +kernel
theorem dX8_ends_123 : decode cX8_ends 123 = .ok (.iinc 3 1, 3) := by decide +kernel
theorem dX8_ends_126 : decode cX8_ends 126 = .ok (.goto (-21), 3) := by decide +kernel
theorem dX8_ends_129 : decode cX8_ends 129 = .ok (.iload_n 2, 1) := by decide +kernel
theorem dX8_ends_130 : decode cX8_ends 130 = .ok (.ireturn, 1) := by decide +kernel
theorem dX8_cannotCut_0 : decode cX8_cannotCut 0 = .ok (.aload_n 0, 1) := by decide +kernel
theorem dX8_cannotCut_1 : decode cX8_cannotCut 1 = .ok (.iload_n 1, 1) := by decide +kernel
theorem dX8_cannotCut_2 : decode cX8_cannotCut 2 = .ok (.invokevirtual 172, 3) := by decide +kernel
theorem dX8_cannotCut_5 : decode cX8_cannotCut 5 = .ok (.ifCond .ne 7, 3) := by decide +kernel
theorem dX8_cannotCut_8 : decode cX8_cannotCut 8 = .ok (.iconst 1, 1) := by decide +kernel
theorem dX8_cannotCut_9 : decode cX8_cannotCut 9 = .ok (.goto 18, 3) := by decide +kernel
theorem dX8_cannotCut_12 : decode cX8_cannotCut 12 = .ok (.aload_n 0, 1) := by decide +kernel
theorem dX8_cannotCut_13 : decode cX8_cannotCut 13 = .ok (.iload_n 1, 1) := by decide +kernel
theorem dX8_cannotCut_14 : decode cX8_cannotCut 14 = .ok (.iconst 3, 1) := by decide +kernel
theorem dX8_cannotCut_15 : decode cX8_cannotCut 15 = .ok (.invokevirtual 141, 3) := by decide +kernel
theorem dX8_cannotCut_18 : decode cX8_cannotCut 18 = .ok (.iconst 1, 1) := by decide +kernel
theorem dX8_cannotCut_19 : decode cX8_cannotCut 19 = .ok (.if_icmp .ne 7, 3) := by decide +kernel
theorem dX8_cannotCut_22 : decode cX8_cannotCut 22 = .ok (.iconst 2, 1) := by decide +kernel
theorem dX8_cannotCut_23 : decode cX8_cannotCut 23 = .ok (.goto 4, 3) := by decide +kernel
theorem dX8_cannotCut_26 : decode cX8_cannotCut 26 = .ok (.iconst 0, 1) := by decide +kernel
theorem dX8_cannotCut_27 : decode cX8_cannotCut 27 = .ok (.ireturn, 1) := by decide +kernel
theorem dX8_cuts_0 : decode cX8_cuts 0 = .ok (.aload_n 0, 1) := by decide +kernel
theorem dX8_cuts_1 : decode cX8_cuts 1 = .ok (.iload_n 1, 1) := by decide +kernel
theorem dX8_cuts_2 : decode cX8_cuts 2 = .ok (.invokevirtual 138, 3) := by decide +kernel
theorem dX8_cuts_5 : decode cX8_cuts 5 = .ok (.istore_n 2, 1) := by decide +kernel
theorem dX8_cuts_6 : decode cX8_cuts 6 = .ok (.aload_n 0, 1) := by decide +kernel
theorem dX8_cuts_7 : decode cX8_cuts 7 = .ok (.iload_n 1, 1) := by decide +kernel
theorem dX8_cuts_8 : decode cX8_cuts 8 = .ok (.iconst 3, 1) := by decide +kernel
theorem dX8_cuts_9 : decode cX8_cuts 9 = .ok (.iconst 1, 1) := by decide +kernel
theorem dX8_cuts_10 : decode cX8_cuts 10 = .ok (.invokevirtual 121, 3) := by decide +kernel
theorem dX8_cuts_13 : decode cX8_cuts 13 = .ok (.iload_n 2, 1) := by decide +kernel
theorem dX8_cuts_14 : decode cX8_cuts 14 = .ok (.iconst (-1), 1) := by decide +kernel
theorem dX8_cuts_15 : decode cX8_cuts 15 = .ok (.if_icmp .ne 5, 3) := by decide +kernel
theorem dX8_cuts_18 : decode cX8_cuts 18 = .ok (.iconst 0, 1) := by decide +kernel
theorem dX8_cuts_19 : decode cX8_cuts 19 = .ok (.ireturn, 1) := by decide +kernel
theorem dX8_cuts_20 : decode cX8_cuts 20 = .ok (.aload_n 0, 1) := by decide +kernel
theorem dX8_cuts_21 : decode cX8_cuts 21 = .ok (.aload_n 0, 1) := by decide +kernel
theorem dX8_cuts_22 : decode cX8_cuts 22 = .ok (.aload_n 0, 1) := by decide +kernel
theorem dX8_cuts_23 : decode cX8_cuts 23 = .ok (.iload_n 2, 1) := by decide +kernel
theorem dX8_cuts_24 : decode cX8_cuts 24 = .ok (.iconst 0, 1) := by decide +kernel
theorem dX8_cuts_25 : decode cX8_cuts 25 = .ok (.invokevirtual 95, 3) := by decide +kernel
theorem dX8_cuts_28 : decode cX8_cuts 28 = .ok (.iconst 0, 1) := by decide +kernel
theorem dX8_cuts_29 : decode cX8_cuts 29 = .ok (.invokevirtual 163, 3) := by decide +kernel
theorem dX8_cuts_32 : decode cX8_cuts 32 = .ok (.aload_n 0, 1) := by decide +kernel
theorem dX8_cuts_33 : decode cX8_cuts 33 = .ok (.aload_n 0, 1) := by decide +kernel
theorem dX8_cuts_34 : decode cX8_cuts 34 = .ok (.iload_n 2, 1) := by decide +kernel
theorem dX8_cuts_35 : decode cX8_cuts 35 = .ok (.iconst 1, 1) := by decide +kernel
theorem dX8_cuts_36 : decode cX8_cuts 36 = .ok (.invokevirtual 95, 3) := by decide +kernel
theorem dX8_cuts_39 : decode cX8_cuts 39 = .ok (.iconst 0, 1) := by decide +kernel
theorem dX8_cuts_40 : decode cX8_cuts 40 = .ok (.invokevirtual 163, 3) := by decide +kernel
theorem dX8_cuts_43 : decode cX8_cuts 43 = .ok (.iload_n 2, 1) := by decide +kernel
theorem dX8_cuts_44 : decode cX8_cuts 44 = .ok (.invokevirtual 175, 3) := by decide +kernel
theorem dX8_cuts_47 : decode cX8_cuts 47 = .ok (.ifCond .ne 11, 3) := by decide +kernel
theorem dX8_cuts_50 : decode cX8_cuts 50 = .ok (.aload_n 0, 1) := by decide +kernel
theorem dX8_cuts_51 : decode cX8_cuts 51 = .ok (.iload_n 2, 1) := by decide +kernel
theorem dX8_cuts_52 : decode cX8_cuts 52 = .ok (.invokevirtual 178, 3) := by decide +kernel
theorem dX8_cuts_55 : decode cX8_cuts 55 = .ok (.istore_n 3, 1) := by decide +kernel
theorem dX8_cuts_56 : decode cX8_cuts 56 = .ok (.iconst 1, 1) := by decide +kernel
theorem dX8_cuts_57 : decode cX8_cuts 57 = .ok (.ireturn, 1) := by decide +kernel
theorem dX8_cuts_58 : decode cX8_cuts 58 = .ok (.aload_n 0, 1) := by decide +kernel
theorem dX8_cuts_59 : decode cX8_cuts 59 = .ok (.iload_n 2, 1) := by decide +kernel
theorem dX8_cuts_60 : decode cX8_cuts 60 = .ok (.invokevirtual 181, 3) := by decide +kernel
theorem dX8_cuts_63 : decode cX8_cuts 63 = .ok (.iconst 0, 1) := by decide +kernel
theorem dX8_cuts_64 : decode cX8_cuts 64 = .ok (.ireturn, 1) := by decide +kernel
theorem dX8_cut_0 : decode cX8_cut 0 = .ok (.aload_n 0, 1) := by decide +kernel
theorem dX8_cut_1 : decode cX8_cut 1 = .ok (.invokevirtual 103, 3) := by decide +kernel
theorem dX8_cut_4 : decode cX8_cut 4 = .ok (.aload_n 0, 1) := by decide +kernel
theorem dX8_cut_5 : decode cX8_cut 5 = .ok (.iload_n 1, 1) := by decide +kernel
theorem dX8_cut_6 : decode cX8_cut 6 = .ok (.invokevirtual 185, 3) := by decide +kernel
theorem dX8_cut_9 : decode cX8_cut 9 = .ok (.istore_n 2, 1) := by decide +kernel
theorem dX8_cut_10 : decode cX8_cut 10 = .ok (.iload_n 2, 1) := by decide +kernel
theorem dX8_cut_11 : decode cX8_cut 11 = .ok (.ifCond .le 11, 3) := by decide +kernel
theorem dX8_cut_14 : decode cX8_cut 14 = .ok (.aload_n 0, 1) := by decide +kernel
theorem dX8_cut_15 : decode cX8_cut 15 = .ok (.iload_n 2, 1) := by decide +kernel
theorem dX8_cut_16 : decode cX8_cut 16 = .ok (.invokevirtual 106, 3) := by decide +kernel
theorem dX8_cut_19 : decode cX8_cut 19 = .ok (.goto 12, 3) := by decide +kernel
theorem dX8_cut_22 : decode cX8_cut 22 = .ok (.aload_n 0, 1) := by decide +kernel
theorem dX8_cut_23 : decode cX8_cut 23 = .ok (.aload_n 0, 1) := by decide +kernel
theorem dX8_cut_24 : decode cX8_cut 24 = .ok (.iload_n 1, 1) := by decide +kernel
theorem dX8_cut_25 : decode cX8_cut 25 = .ok (.invokevirtual 188, 3) := by decide +kernel
theorem dX8_cut_28 : decode cX8_cut 28 = .ok (.invokevirtual 114, 3) := by decide +kernel
theorem dX8_cut_31 : decode cX8_cut 31 = .ok (.iconst 1, 1) := by decide +kernel
theorem dX8_cut_32 : decode cX8_cut 32 = .ok (.if_icmp .ne 7, 3) := by decide +kernel
theorem dX8_cut_35 : decode cX8_cut 35 = .ok (.iconst 1, 1) := by decide +kernel
theorem dX8_cut_36 : decode cX8_cut 36 = .ok (.goto 4, 3) := by decide +kernel
theorem dX8_cut_39 : decode cX8_cut 39 = .ok (.iconst 0, 1) := by decide +kernel
theorem dX8_cut_40 : decode cX8_cut 40 = .ok (.ireturn, 1) := by decide +kernel
theorem dX8_cannotMend_0 : decode cX8_cannotMend 0 = .ok (.aload_n 0, 1) := by decide +kernel
theorem dX8_cannotMend_1 : decode cX8_cannotMend 1 = .ok (.iload_n 1, 1) := by decide +kernel
theorem dX8_cannotMend_2 : decode cX8_cannotMend 2 = .ok (.invokevirtual 172, 3) := by decide +kernel
theorem dX8_cannotMend_5 : decode cX8_cannotMend 5 = .ok (.ifCond .ne 7, 3) := by decide +kernel
theorem dX8_cannotMend_8 : decode cX8_cannotMend 8 = .ok (.iconst 1, 1) := by decide +kernel
theorem dX8_cannotMend_9 : decode cX8_cannotMend 9 = .ok (.goto 17, 3) := by decide +kernel
theorem dX8_cannotMend_12 : decode cX8_cannotMend 12 = .ok (.aload_n 0, 1) := by decide +kernel
theorem dX8_cannotMend_13 : decode cX8_cannotMend 13 = .ok (.iload_n 1, 1) := by decide +kernel
theorem dX8_cannotMend_14 : decode cX8_cannotMend 14 = .ok (.iconst 3, 1) := by decide +kernel
theorem dX8_cannotMend_15 : decode cX8_cannotMend 15 = .ok (.invokevirtual 141, 3) := by decide +kernel
theorem dX8_cannotMend_18 : decode cX8_cannotMend 18 = .ok (.ifCond .ne 7, 3) := by decide +kernel
theorem dX8_cannotMend_21 : decode cX8_cannotMend 21 = .ok (.iconst 2, 1) := by decide +kernel
theorem dX8_cannotMend_22 : decode cX8_cannotMend 22 = .ok (.goto 4, 3) := by decide +kernel
theorem dX8_cannotMend_25 : decode cX8_cannotMend 25 = .ok (.iconst 0, 1) := by decide +kernel
theorem dX8_cannotMend_26 : decode cX8_cannotMend 26 = .ok (.ireturn, 1) := by decide +kernel
theorem dX8_mends_0 : decode cX8_mends 0 = .ok (.aload_n 0, 1) := by decide +kernel
theorem dX8_mends_1 : decode cX8_mends 1 = .ok (.iload_n 1, 1) := by decide +kernel
theorem dX8_mends_2 : decode cX8_mends 2 = .ok (.iconst 3, 1) := by decide +kernel
theorem dX8_mends_3 : decode cX8_mends 3 = .ok (.iconst 0, 1) := by decide +kernel
theorem dX8_mends_4 : decode cX8_mends 4 = .ok (.invokevirtual 121, 3) := by decide +kernel
theorem dX8_mends_7 : decode cX8_mends 7 = .ok (.iconst 0, 1) := by decide +kernel
theorem dX8_mends_8 : decode cX8_mends 8 = .ok (.istore_n 2, 1) := by decide +kernel
theorem dX8_mends_9 : decode cX8_mends 9 = .ok (.iconst 0, 1) := by decide +kernel
theorem dX8_mends_10 : decode cX8_mends 10 = .ok (.istore_n 3, 1) := by decide +kernel
theorem dX8_mends_11 : decode cX8_mends 11 = .ok (.iload_n 3, 1) := by decide +kernel
theorem dX8_mends_12 : decode cX8_mends 12 = .ok (.aload_n 0, 1) := by decide +kernel
theorem dX8_mends_13 : decode cX8_mends 13 = .ok (.getfield 7, 3) := by decide +kernel
theorem dX8_mends_16 : decode cX8_mends 16 = .ok (.iconst 1, 1) := by decide +kernel
theorem dX8_mends_17 : decode cX8_mends 17 = .ok (.iaload, 1) := by decide +kernel
theorem dX8_mends_18 : decode cX8_mends 18 = .ok (.if_icmp .ge 18, 3) := by decide +kernel
theorem dX8_mends_21 : decode cX8_mends 21 = .ok (.iload_n 2, 1) := by decide +kernel
theorem dX8_mends_22 : decode cX8_mends 22 = .ok (.aload_n 0, 1) := by decide +kernel
theorem dX8_mends_23 : decode cX8_mends 23 = .ok (.iload_n 3, 1) := by decide +kernel
theorem dX8_mends_24 : decode cX8_mends 24 = .ok (.iconst 3, 1) := by decide +kernel
theorem dX8_mends_25 : decode cX8_mends 25 = .ok (.invokevirtual 141, 3) := by decide +kernel
theorem dX8_mends_28 : decode cX8_mends 28 = .ok (.iadd, 1) := by decide +kernel
theorem dX8_mends_29 : decode cX8_mends 29 = .ok (.istore_n 2, 1) := by decide +kernel
theorem dX8_mends_30 : decode cX8_mends 30 = .ok (.iinc 3 1, 3) := by decide +kernel
theorem dX8_mends_33 : decode cX8_mends 33 = .ok (.goto (-22), 3) := by decide +kernel
theorem dX8_mends_36 : decode cX8_mends 36 = .ok (.iload_n 2, 1) := by decide +kernel
theorem dX8_mends_37 : decode cX8_mends 37 = .ok (.ireturn, 1) := by decide +kernel
theorem dX8_mend_0 : decode cX8_mend 0 = .ok (.aload_n 0, 1) := by decide +kernel
theorem dX8_mend_1 : decode cX8_mend 1 = .ok (.invokevirtual 103, 3) := by decide +kernel
theorem dX8_mend_4 : decode cX8_mend 4 = .ok (.aload_n 0, 1) := by decide +kernel
theorem dX8_mend_5 : decode cX8_mend 5 = .ok (.iload_n 1, 1) := by decide +kernel
theorem dX8_mend_6 : decode cX8_mend 6 = .ok (.invokevirtual 191, 3) := by decide +kernel
theorem dX8_mend_9 : decode cX8_mend 9 = .ok (.istore_n 2, 1) := by decide +kernel
theorem dX8_mend_10 : decode cX8_mend 10 = .ok (.iload_n 2, 1) := by decide +kernel
theorem dX8_mend_11 : decode cX8_mend 11 = .ok (.ifCond .le 11, 3) := by decide +kernel
theorem dX8_mend_14 : decode cX8_mend 14 = .ok (.aload_n 0, 1) := by decide +kernel
theorem dX8_mend_15 : decode cX8_mend 15 = .ok (.iload_n 2, 1) := by decide +kernel
theorem dX8_mend_16 : decode cX8_mend 16 = .ok (.invokevirtual 106, 3) := by decide +kernel
theorem dX8_mend_19 : decode cX8_mend 19 = .ok (.goto 12, 3) := by decide +kernel
theorem dX8_mend_22 : decode cX8_mend 22 = .ok (.aload_n 0, 1) := by decide +kernel
theorem dX8_mend_23 : decode cX8_mend 23 = .ok (.aload_n 0, 1) := by decide +kernel
theorem dX8_mend_24 : decode cX8_mend 24 = .ok (.iload_n 1, 1) := by decide +kernel
theorem dX8_mend_25 : decode cX8_mend 25 = .ok (.invokevirtual 194, 3) := by decide +kernel
theorem dX8_mend_28 : decode cX8_mend 28 = .ok (.invokevirtual 114, 3) := by decide +kernel
theorem dX8_mend_31 : decode cX8_mend 31 = .ok (.ireturn, 1) := by decide +kernel
theorem dX8_cannotCall_0 : decode cX8_cannotCall 0 = .ok (.aload_n 0, 1) := by decide +kernel
theorem dX8_cannotCall_1 : decode cX8_cannotCall 1 = .ok (.iload_n 1, 1) := by decide +kernel
theorem dX8_cannotCall_2 : decode cX8_cannotCall 2 = .ok (.invokevirtual 197, 3) := by decide +kernel
theorem dX8_cannotCall_5 : decode cX8_cannotCall 5 = .ok (.ifCond .eq 11, 3) := by decide +kernel
theorem dX8_cannotCall_8 : decode cX8_cannotCall 8 = .ok (.aload_n 0, 1) := by decide +kernel
theorem dX8_cannotCall_9 : decode cX8_cannotCall 9 = .ok (.iload_n 2, 1) := by decide +kernel
theorem dX8_cannotCall_10 : decode cX8_cannotCall 10 = .ok (.invokevirtual 197, 3) := by decide +kernel
theorem dX8_cannotCall_13 : decode cX8_cannotCall 13 = .ok (.ifCond .ne 5, 3) := by decide +kernel
theorem dX8_cannotCall_16 : decode cX8_cannotCall 16 = .ok (.iconst 1, 1) := by decide +kernel
theorem dX8_cannotCall_17 : decode cX8_cannotCall 17 = .ok (.ireturn, 1) := by decide +kernel
theorem dX8_cannotCall_18 : decode cX8_cannotCall 18 = .ok (.iload_n 1, 1) := by decide +kernel
theorem dX8_cannotCall_19 : decode cX8_cannotCall 19 = .ok (.iload_n 2, 1) := by decide +kernel
theorem dX8_cannotCall_20 : decode cX8_cannotCall 20 = .ok (.if_icmp .ne 5, 3) := by decide +kernel
theorem dX8_cannotCall_23 : decode cX8_cannotCall 23 = .ok (.iconst 2, 1) := by decide +kernel
theorem dX8_cannotCall_24 : decode cX8_cannotCall 24 = .ok (.ireturn, 1) := by decide +kernel
theorem dX8_cannotCall_25 : decode cX8_cannotCall 25 = .ok (.aload_n 0, 1) := by decide +kernel
theorem dX8_cannotCall_26 : decode cX8_cannotCall 26 = .ok (.iload_n 1, 1) := by decide +kernel
theorem dX8_cannotCall_27 : decode cX8_cannotCall 27 = .ok (.invokevirtual 200, 3) := by decide +kernel
theorem dX8_cannotCall_30 : decode cX8_cannotCall 30 = .ok (.ifCond .ge 11, 3) := by decide +kernel
theorem dX8_cannotCall_33 : decode cX8_cannotCall 33 = .ok (.aload_n 0, 1) := by decide +kernel
theorem dX8_cannotCall_34 : decode cX8_cannotCall 34 = .ok (.iload_n 2, 1) := by decide +kernel
theorem dX8_cannotCall_35 : decode cX8_cannotCall 35 = .ok (.invokevirtual 200, 3) := by decide +kernel
theorem dX8_cannotCall_38 : decode cX8_cannotCall 38 = .ok (.ifCond .lt 5, 3) := by decide +kernel
theorem dX8_cannotCall_41 : decode cX8_cannotCall 41 = .ok (.iconst 3, 1) := by decide +kernel
theorem dX8_cannotCall_42 : decode cX8_cannotCall 42 = .ok (.ireturn, 1) := by decide +kernel
theorem dX8_cannotCall_43 : decode cX8_cannotCall 43 = .ok (.aload_n 0, 1) := by decide +kernel
theorem dX8_cannotCall_44 : decode cX8_cannotCall 44 = .ok (.aload_n 0, 1) := by decide +kernel
theorem dX8_cannotCall_45 : decode cX8_cannotCall 45 = .ok (.iload_n 1, 1) := by decide +kernel
theorem dX8_cannotCall_46 : decode cX8_cannotCall 46 = .ok (.iconst 0, 1) := by decide +kernel
theorem dX8_cannotCall_47 : decode cX8_cannotCall 47 = .ok (.invokevirtual 163, 3) := by decide +kernel
theorem dX8_cannotCall_50 : decode cX8_cannotCall 50 = .ok (.aload_n 0, 1) := by decide +kernel
theorem dX8_cannotCall_51 : decode cX8_cannotCall 51 = .ok (.iload_n 2, 1) := by decide +kernel
theorem dX8_cannotCall_52 : decode cX8_cannotCall 52 = .ok (.iconst 0, 1) := by decide +kernel
theorem dX8_cannotCall_53 : decode cX8_cannotCall 53 = .ok (.invokevirtual 163, 3) := by decide +kernel
theorem dX8_cannotCall_56 : decode cX8_cannotCall 56 = .ok (.iconst (-1), 1) := by decide +kernel
theorem dX8_cannotCall_57 : decode cX8_cannotCall 57 = .ok (.invokevirtual 175, 3) := by decide +kernel
theorem dX8_cannotCall_60 : decode cX8_cannotCall 60 = .ok (.ifCond .eq 7, 3) := by decide +kernel
theorem dX8_cannotCall_63 : decode cX8_cannotCall 63 = .ok (.iconst 0, 1) := by decide +kernel
theorem dX8_cannotCall_64 : decode cX8_cannotCall 64 = .ok (.goto 4, 3) := by decide +kernel
theorem dX8_cannotCall_67 : decode cX8_cannotCall 67 = .ok (.iconst 4, 1) := by decide +kernel
theorem dX8_cannotCall_68 : decode cX8_cannotCall 68 = .ok (.ireturn, 1) := by decide +kernel
theorem dX8_connects_0 : decode cX8_connects 0 = .ok (.aload_n 0, 1) := by decide +kernel
theorem dX8_connects_1 : decode cX8_connects 1 = .ok (.getfield 7, 3) := by decide +kernel
theorem dX8_connects_4 : decode cX8_connects 4 = .ok (.iconst 3, 1) := by decide +kernel
theorem dX8_connects_5 : decode cX8_connects 5 = .ok (.iaload, 1) := by decide +kernel
theorem dX8_connects_6 : decode cX8_connects 6 = .ok (.istore_n 3, 1) := by decide +kernel
theorem dX8_connects_7 : decode cX8_connects 7 = .ok (.aload_n 0, 1) := by decide +kernel
theorem dX8_connects_8 : decode cX8_connects 8 = .ok (.iload_n 3, 1) := by decide +kernel
theorem dX8_connects_9 : decode cX8_connects 9 = .ok (.iconst 0, 1) := by decide +kernel
theorem dX8_connects_10 : decode cX8_connects 10 = .ok (.iload_n 1, 1) := by decide +kernel
theorem dX8_connects_11 : decode cX8_connects 11 = .ok (.invokevirtual 160, 3) := by decide +kernel
theorem dX8_connects_14 : decode cX8_connects 14 = .ok (.aload_n 0, 1) := by decide +kernel
theorem dX8_connects_15 : decode cX8_connects 15 = .ok (.iload_n 3, 1) := by decide +kernel
theorem dX8_connects_16 : decode cX8_connects 16 = .ok (.iconst 1, 1) := by decide +kernel
theorem dX8_connects_17 : decode cX8_connects 17 = .ok (.iload_n 2, 1) := by decide +kernel
theorem dX8_connects_18 : decode cX8_connects 18 = .ok (.invokevirtual 160, 3) := by decide +kernel
theorem dX8_connects_21 : decode cX8_connects 21 = .ok (.aload_n 0, 1) := by decide +kernel
theorem dX8_connects_22 : decode cX8_connects 22 = .ok (.iload_n 3, 1) := by decide +kernel
theorem dX8_connects_23 : decode cX8_connects 23 = .ok (.iconst 2, 1) := by decide +kernel
theorem dX8_connects_24 : decode cX8_connects 24 = .ok (.iconst 0, 1) := by decide +kernel
theorem dX8_connects_25 : decode cX8_connects 25 = .ok (.invokevirtual 160, 3) := by decide +kernel
theorem dX8_connects_28 : decode cX8_connects 28 = .ok (.aload_n 0, 1) := by decide +kernel
theorem dX8_connects_29 : decode cX8_connects 29 = .ok (.iload_n 3, 1) := by decide +kernel
theorem dX8_connects_30 : decode cX8_connects 30 = .ok (.invokevirtual 181, 3) := by decide +kernel
theorem dX8_connects_33 : decode cX8_connects 33 = .ok (.aload_n 0, 1) := by decide +kernel
theorem dX8_connects_34 : decode cX8_connects 34 = .ok (.getfield 7, 3) := by decide +kernel
theorem dX8_connects_37 : decode cX8_connects 37 = .ok (.iconst 3, 1) := by decide +kernel
theorem dX8_connects_38 : decode cX8_connects 38 = .ok (.dup2, 1) := by decide +kernel
theorem dX8_connects_39 : decode cX8_connects 39 = .ok (.iaload, 1) := by decide +kernel
theorem dX8_connects_40 : decode cX8_connects 40 = .ok (.iconst 1, 1) := by decide +kernel
theorem dX8_connects_41 : decode cX8_connects 41 = .ok (.iadd, 1) := by decide +kernel
theorem dX8_connects_42 : decode cX8_connects 42 = .ok (.iastore, 1) := by decide +kernel
theorem dX8_connects_43 : decode cX8_connects 43 = .ok (.aload_n 0, 1) := by decide +kernel
theorem dX8_connects_44 : decode cX8_connects 44 = .ok (.iload_n 3, 1) := by decide +kernel
theorem dX8_connects_45 : decode cX8_connects 45 = .ok (.invokevirtual 166, 3) := by decide +kernel
theorem dX8_connects_48 : decode cX8_connects 48 = .ok (.ireturn, 1) := by decide +kernel
theorem dX8_blocks_0 : decode cX8_blocks 0 = .ok (.iload_n 3, 1) := by decide +kernel
theorem dX8_blocks_1 : decode cX8_blocks 1 = .ok (.iconst 3, 1) := by decide +kernel
theorem dX8_blocks_2 : decode cX8_blocks 2 = .ok (.if_icmp .ge 4, 3) := by decide +kernel
theorem dX8_blocks_5 : decode cX8_blocks 5 = .ok (.return_, 1) := by decide +kernel
theorem dX8_blocks_6 : decode cX8_blocks 6 = .ok (.aload_n 0, 1) := by decide +kernel
theorem dX8_blocks_7 : decode cX8_blocks 7 = .ok (.getfield 47, 3) := by decide +kernel
theorem dX8_blocks_10 : decode cX8_blocks 10 = .ok (.bipush 8, 2) := by decide +kernel
theorem dX8_blocks_12 : decode cX8_blocks 12 = .ok (.if_icmp .ne 49, 3) := by decide +kernel
theorem dX8_blocks_15 : decode cX8_blocks 15 = .ok (.aload_n 0, 1) := by decide +kernel
theorem dX8_blocks_16 : decode cX8_blocks 16 = .ok (.dup, 1) := by decide +kernel
theorem dX8_blocks_17 : decode cX8_blocks 17 = .ok (.getfield 47, 3) := by decide +kernel
theorem dX8_blocks_20 : decode cX8_blocks 20 = .ok (.iconst 1, 1) := by decide +kernel
theorem dX8_blocks_21 : decode cX8_blocks 21 = .ok (.isub, 1) := by decide +kernel
theorem dX8_blocks_22 : decode cX8_blocks 22 = .ok (.putfield 47, 3) := by decide +kernel
theorem dX8_blocks_25 : decode cX8_blocks 25 = .ok (.iconst 0, 1) := by decide +kernel
theorem dX8_blocks_26 : decode cX8_blocks 26 = .ok (.istore 4, 2) := by decide +kernel
theorem dX8_blocks_28 : decode cX8_blocks 28 = .ok (.iload 4, 2) := by decide +kernel
theorem dX8_blocks_30 : decode cX8_blocks 30 = .ok (.iconst 3, 1) := by decide +kernel
theorem dX8_blocks_31 : decode cX8_blocks 31 = .ok (.aload_n 0, 1) := by decide +kernel
theorem dX8_blocks_32 : decode cX8_blocks 32 = .ok (.getfield 47, 3) := by decide +kernel
theorem dX8_blocks_35 : decode cX8_blocks 35 = .ok (.imul, 1) := by decide +kernel
theorem dX8_blocks_36 : decode cX8_blocks 36 = .ok (.if_icmp .ge 25, 3) := by decide +kernel
theorem dX8_blocks_39 : decode cX8_blocks 39 = .ok (.aload_n 0, 1) := by decide +kernel
theorem dX8_blocks_40 : decode cX8_blocks 40 = .ok (.getfield 22, 3) := by decide +kernel
theorem dX8_blocks_43 : decode cX8_blocks 43 = .ok (.iload 4, 2) := by decide +kernel
theorem dX8_blocks_45 : decode cX8_blocks 45 = .ok (.aload_n 0, 1) := by decide +kernel
theorem dX8_blocks_46 : decode cX8_blocks 46 = .ok (.getfield 22, 3) := by decide +kernel
theorem dX8_blocks_49 : decode cX8_blocks 49 = .ok (.iload 4, 2) := by decide +kernel
theorem dX8_blocks_51 : decode cX8_blocks 51 = .ok (.iconst 3, 1) := by decide +kernel
theorem dX8_blocks_52 : decode cX8_blocks 52 = .ok (.iadd, 1) := by decide +kernel
theorem dX8_blocks_53 : decode cX8_blocks 53 = .ok (.iaload, 1) := by decide +kernel
theorem dX8_blocks_54 : decode cX8_blocks 54 = .ok (.iastore, 1) := by decide +kernel
theorem dX8_blocks_55 : decode cX8_blocks 55 = .ok (.iinc 4 1, 3) := by decide +kernel
theorem dX8_blocks_58 : decode cX8_blocks 58 = .ok (.goto (-30), 3) := by decide +kernel
theorem dX8_blocks_61 : decode cX8_blocks 61 = .ok (.aload_n 0, 1) := by decide +kernel
theorem dX8_blocks_62 : decode cX8_blocks 62 = .ok (.getfield 22, 3) := by decide +kernel
theorem dX8_blocks_65 : decode cX8_blocks 65 = .ok (.iconst 3, 1) := by decide +kernel
theorem dX8_blocks_66 : decode cX8_blocks 66 = .ok (.aload_n 0, 1) := by decide +kernel
theorem dX8_blocks_67 : decode cX8_blocks 67 = .ok (.getfield 47, 3) := by decide +kernel
theorem dX8_blocks_70 : decode cX8_blocks 70 = .ok (.imul, 1) := by decide +kernel
theorem dX8_blocks_71 : decode cX8_blocks 71 = .ok (.iload_n 1, 1) := by decide +kernel
theorem dX8_blocks_72 : decode cX8_blocks 72 = .ok (.iastore, 1) := by decide +kernel
theorem dX8_blocks_73 : decode cX8_blocks 73 = .ok (.aload_n 0, 1) := by decide +kernel
theorem dX8_blocks_74 : decode cX8_blocks 74 = .ok (.getfield 22, 3) := by decide +kernel
theorem dX8_blocks_77 : decode cX8_blocks 77 = .ok (.iconst 3, 1) := by decide +kernel
theorem dX8_blocks_78 : decode cX8_blocks 78 = .ok (.aload_n 0, 1) := by decide +kernel
theorem dX8_blocks_79 : decode cX8_blocks 79 = .ok (.getfield 47, 3) := by decide +kernel
theorem dX8_blocks_82 : decode cX8_blocks 82 = .ok (.imul, 1) := by decide +kernel
theorem dX8_blocks_83 : decode cX8_blocks 83 = .ok (.iconst 1, 1) := by decide +kernel
theorem dX8_blocks_84 : decode cX8_blocks 84 = .ok (.iadd, 1) := by decide +kernel
theorem dX8_blocks_85 : decode cX8_blocks 85 = .ok (.iload_n 2, 1) := by decide +kernel
theorem dX8_blocks_86 : decode cX8_blocks 86 = .ok (.iastore, 1) := by decide +kernel
theorem dX8_blocks_87 : decode cX8_blocks 87 = .ok (.aload_n 0, 1) := by decide +kernel
theorem dX8_blocks_88 : decode cX8_blocks 88 = .ok (.getfield 22, 3) := by decide +kernel
theorem dX8_blocks_91 : decode cX8_blocks 91 = .ok (.iconst 3, 1) := by decide +kernel
theorem dX8_blocks_92 : decode cX8_blocks 92 = .ok (.aload_n 0, 1) := by decide +kernel
theorem dX8_blocks_93 : decode cX8_blocks 93 = .ok (.getfield 47, 3) := by decide +kernel
theorem dX8_blocks_96 : decode cX8_blocks 96 = .ok (.imul, 1) := by decide +kernel
theorem dX8_blocks_97 : decode cX8_blocks 97 = .ok (.iconst 2, 1) := by decide +kernel
theorem dX8_blocks_98 : decode cX8_blocks 98 = .ok (.iadd, 1) := by decide +kernel
theorem dX8_blocks_99 : decode cX8_blocks 99 = .ok (.iload_n 3, 1) := by decide +kernel
theorem dX8_blocks_100 : decode cX8_blocks 100 = .ok (.iconst 3, 1) := by decide +kernel
theorem dX8_blocks_101 : decode cX8_blocks 101 = .ok (.if_icmp .ne 8, 3) := by decide +kernel
theorem dX8_blocks_104 : decode cX8_blocks 104 = .ok (.bipush 98, 2) := by decide +kernel
theorem dX8_blocks_106 : decode cX8_blocks 106 = .ok (.goto 5, 3) := by decide +kernel
theorem dX8_blocks_109 : decode cX8_blocks 109 = .ok (.bipush 114, 2) := by decide +kernel
theorem dX8_blocks_111 : decode cX8_blocks 111 = .ok (.iastore, 1) := by decide +kernel
theorem dX8_blocks_112 : decode cX8_blocks 112 = .ok (.aload_n 0, 1) := by decide +kernel
theorem dX8_blocks_113 : decode cX8_blocks 113 = .ok (.dup, 1) := by decide +kernel
theorem dX8_blocks_114 : decode cX8_blocks 114 = .ok (.getfield 47, 3) := by decide +kernel
theorem dX8_blocks_117 : decode cX8_blocks 117 = .ok (.iconst 1, 1) := by decide +kernel
theorem dX8_blocks_118 : decode cX8_blocks 118 = .ok (.iadd, 1) := by decide +kernel
theorem dX8_blocks_119 : decode cX8_blocks 119 = .ok (.putfield 47, 3) := by decide +kernel
theorem dX8_blocks_122 : decode cX8_blocks 122 = .ok (.return_, 1) := by decide +kernel
theorem dX8_call_0 : decode cX8_call 0 = .ok (.aload_n 0, 1) := by decide +kernel
theorem dX8_call_1 : decode cX8_call 1 = .ok (.invokevirtual 103, 3) := by decide +kernel
theorem dX8_call_4 : decode cX8_call 4 = .ok (.aload_n 0, 1) := by decide +kernel
theorem dX8_call_5 : decode cX8_call 5 = .ok (.iload_n 1, 1) := by decide +kernel
theorem dX8_call_6 : decode cX8_call 6 = .ok (.iload_n 2, 1) := by decide +kernel
theorem dX8_call_7 : decode cX8_call 7 = .ok (.invokevirtual 203, 3) := by decide +kernel
theorem dX8_call_10 : decode cX8_call 10 = .ok (.istore_n 3, 1) := by decide +kernel
theorem dX8_call_11 : decode cX8_call 11 = .ok (.aload_n 0, 1) := by decide +kernel
theorem dX8_call_12 : decode cX8_call 12 = .ok (.iload_n 1, 1) := by decide +kernel
theorem dX8_call_13 : decode cX8_call 13 = .ok (.iload_n 2, 1) := by decide +kernel
theorem dX8_call_14 : decode cX8_call 14 = .ok (.iload_n 3, 1) := by decide +kernel
theorem dX8_call_15 : decode cX8_call 15 = .ok (.invokevirtual 206, 3) := by decide +kernel
theorem dX8_call_18 : decode cX8_call 18 = .ok (.iload_n 3, 1) := by decide +kernel
theorem dX8_call_19 : decode cX8_call 19 = .ok (.ifCond .le 11, 3) := by decide +kernel
theorem dX8_call_22 : decode cX8_call 22 = .ok (.aload_n 0, 1) := by decide +kernel
theorem dX8_call_23 : decode cX8_call 23 = .ok (.iload_n 3, 1) := by decide +kernel
theorem dX8_call_24 : decode cX8_call 24 = .ok (.invokevirtual 106, 3) := by decide +kernel
theorem dX8_call_27 : decode cX8_call 27 = .ok (.goto 13, 3) := by decide +kernel
theorem dX8_call_30 : decode cX8_call 30 = .ok (.aload_n 0, 1) := by decide +kernel
theorem dX8_call_31 : decode cX8_call 31 = .ok (.aload_n 0, 1) := by decide +kernel
theorem dX8_call_32 : decode cX8_call 32 = .ok (.iload_n 1, 1) := by decide +kernel
theorem dX8_call_33 : decode cX8_call 33 = .ok (.iload_n 2, 1) := by decide +kernel
theorem dX8_call_34 : decode cX8_call 34 = .ok (.invokevirtual 208, 3) := by decide +kernel
theorem dX8_call_37 : decode cX8_call 37 = .ok (.invokevirtual 114, 3) := by decide +kernel
theorem dX8_call_40 : decode cX8_call 40 = .ok (.ireturn, 1) := by decide +kernel
theorem dX8_cannotHang_0 : decode cX8_cannotHang 0 = .ok (.aload_n 0, 1) := by decide +kernel
theorem dX8_cannotHang_1 : decode cX8_cannotHang 1 = .ok (.iload_n 1, 1) := by decide +kernel
theorem dX8_cannotHang_2 : decode cX8_cannotHang 2 = .ok (.invokevirtual 197, 3) := by decide +kernel
theorem dX8_cannotHang_5 : decode cX8_cannotHang 5 = .ok (.ifCond .ne 7, 3) := by decide +kernel
theorem dX8_cannotHang_8 : decode cX8_cannotHang 8 = .ok (.iconst 1, 1) := by decide +kernel
theorem dX8_cannotHang_9 : decode cX8_cannotHang 9 = .ok (.goto 16, 3) := by decide +kernel
theorem dX8_cannotHang_12 : decode cX8_cannotHang 12 = .ok (.aload_n 0, 1) := by decide +kernel
theorem dX8_cannotHang_13 : decode cX8_cannotHang 13 = .ok (.iload_n 1, 1) := by decide +kernel
theorem dX8_cannotHang_14 : decode cX8_cannotHang 14 = .ok (.invokevirtual 200, 3) := by decide +kernel
theorem dX8_cannotHang_17 : decode cX8_cannotHang 17 = .ok (.ifCond .ge 7, 3) := by decide +kernel
theorem dX8_cannotHang_20 : decode cX8_cannotHang 20 = .ok (.iconst 2, 1) := by decide +kernel
theorem dX8_cannotHang_21 : decode cX8_cannotHang 21 = .ok (.goto 4, 3) := by decide +kernel
theorem dX8_cannotHang_24 : decode cX8_cannotHang 24 = .ok (.iconst 0, 1) := by decide +kernel
theorem dX8_cannotHang_25 : decode cX8_cannotHang 25 = .ok (.ireturn, 1) := by decide +kernel
theorem dX8_hangUp_0 : decode cX8_hangUp 0 = .ok (.aload_n 0, 1) := by decide +kernel
theorem dX8_hangUp_1 : decode cX8_hangUp 1 = .ok (.invokevirtual 103, 3) := by decide +kernel
theorem dX8_hangUp_4 : decode cX8_hangUp 4 = .ok (.aload_n 0, 1) := by decide +kernel
theorem dX8_hangUp_5 : decode cX8_hangUp 5 = .ok (.iload_n 1, 1) := by decide +kernel
theorem dX8_hangUp_6 : decode cX8_hangUp 6 = .ok (.invokevirtual 211, 3) := by decide +kernel
theorem dX8_hangUp_9 : decode cX8_hangUp 9 = .ok (.istore_n 2, 1) := by decide +kernel
theorem dX8_hangUp_10 : decode cX8_hangUp 10 = .ok (.iload_n 2, 1) := by decide +kernel
theorem dX8_hangUp_11 : decode cX8_hangUp 11 = .ok (.ifCond .le 11, 3) := by decide +kernel
theorem dX8_hangUp_14 : decode cX8_hangUp 14 = .ok (.aload_n 0, 1) := by decide +kernel
theorem dX8_hangUp_15 : decode cX8_hangUp 15 = .ok (.iload_n 2, 1) := by decide +kernel
theorem dX8_hangUp_16 : decode cX8_hangUp 16 = .ok (.invokevirtual 106, 3) := by decide +kernel
theorem dX8_hangUp_19 : decode cX8_hangUp 19 = .ok (.goto 16, 3) := by decide +kernel
theorem dX8_hangUp_22 : decode cX8_hangUp 22 = .ok (.aload_n 0, 1) := by decide +kernel
theorem dX8_hangUp_23 : decode cX8_hangUp 23 = .ok (.aload_n 0, 1) := by decide +kernel
theorem dX8_hangUp_24 : decode cX8_hangUp 24 = .ok (.aload_n 0, 1) := by decide +kernel
theorem dX8_hangUp_25 : decode cX8_hangUp 25 = .ok (.iload_n 1, 1) := by decide +kernel
theorem dX8_hangUp_26 : decode cX8_hangUp 26 = .ok (.invokevirtual 200, 3) := by decide +kernel
theorem dX8_hangUp_29 : decode cX8_hangUp 29 = .ok (.invokevirtual 178, 3) := by decide +kernel
theorem dX8_hangUp_32 : decode cX8_hangUp 32 = .ok (.invokevirtual 114, 3) := by decide +kernel
theorem dX8_hangUp_35 : decode cX8_hangUp 35 = .ok (.ireturn, 1) := by decide +kernel
theorem dX8_passes_0 : decode cX8_passes 0 = .ok (.iconst 0, 1) := by decide +kernel
theorem dX8_passes_1 : decode cX8_passes 1 = .ok (.istore_n 2, 1) := by decide +kernel
theorem dX8_passes_2 : decode cX8_passes 2 = .ok (.iload_n 2, 1) := by decide +kernel
theorem dX8_passes_3 : decode cX8_passes 3 = .ok (.aload_n 0, 1) := by decide +kernel
theorem dX8_passes_4 : decode cX8_passes 4 = .ok (.getfield 7, 3) := by decide +kernel
theorem dX8_passes_7 : decode cX8_passes 7 = .ok (.iconst 3, 1) := by decide +kernel
theorem dX8_passes_8 : decode cX8_passes 8 = .ok (.iaload, 1) := by decide +kernel
theorem dX8_passes_9 : decode cX8_passes 9 = .ok (.if_icmp .ge 69, 3) := by decide +kernel
theorem dX8_passes_12 : decode cX8_passes 12 = .ok (.aload_n 0, 1) := by decide +kernel
theorem dX8_passes_13 : decode cX8_passes 13 = .ok (.iload_n 2, 1) := by decide +kernel
theorem dX8_passes_14 : decode cX8_passes 14 = .ok (.iconst 2, 1) := by decide +kernel
theorem dX8_passes_15 : decode cX8_passes 15 = .ok (.aload_n 0, 1) := by decide +kernel
theorem dX8_passes_16 : decode cX8_passes 16 = .ok (.iload_n 2, 1) := by decide +kernel
theorem dX8_passes_17 : decode cX8_passes 17 = .ok (.iconst 2, 1) := by decide +kernel
theorem dX8_passes_18 : decode cX8_passes 18 = .ok (.invokevirtual 95, 3) := by decide +kernel
theorem dX8_passes_21 : decode cX8_passes 21 = .ok (.iload_n 1, 1) := by decide +kernel
theorem dX8_passes_22 : decode cX8_passes 22 = .ok (.iadd, 1) := by decide +kernel
theorem dX8_passes_23 : decode cX8_passes 23 = .ok (.invokevirtual 160, 3) := by decide +kernel
theorem dX8_passes_26 : decode cX8_passes 26 = .ok (.iconst 0, 1) := by decide +kernel
theorem dX8_passes_27 : decode cX8_passes 27 = .ok (.istore_n 3, 1) := by decide +kernel
theorem dX8_passes_28 : decode cX8_passes 28 = .ok (.iload_n 3, 1) := by decide +kernel
theorem dX8_passes_29 : decode cX8_passes 29 = .ok (.aload_n 0, 1) := by decide +kernel
theorem dX8_passes_30 : decode cX8_passes 30 = .ok (.iload_n 2, 1) := by decide +kernel
theorem dX8_passes_31 : decode cX8_passes 31 = .ok (.iconst 3, 1) := by decide +kernel
theorem dX8_passes_32 : decode cX8_passes 32 = .ok (.invokevirtual 95, 3) := by decide +kernel
theorem dX8_passes_35 : decode cX8_passes 35 = .ok (.if_icmp .ge 37, 3) := by decide +kernel
theorem dX8_passes_38 : decode cX8_passes 38 = .ok (.aload_n 0, 1) := by decide +kernel
theorem dX8_passes_39 : decode cX8_passes 39 = .ok (.aload_n 0, 1) := by decide +kernel
theorem dX8_passes_40 : decode cX8_passes 40 = .ok (.iload_n 2, 1) := by decide +kernel
theorem dX8_passes_41 : decode cX8_passes 41 = .ok (.iconst 4, 1) := by decide +kernel
theorem dX8_passes_42 : decode cX8_passes 42 = .ok (.iload_n 3, 1) := by decide +kernel
theorem dX8_passes_43 : decode cX8_passes 43 = .ok (.iadd, 1) := by decide +kernel
theorem dX8_passes_44 : decode cX8_passes 44 = .ok (.invokevirtual 95, 3) := by decide +kernel
theorem dX8_passes_47 : decode cX8_passes 47 = .ok (.iconst 4, 1) := by decide +kernel
theorem dX8_passes_48 : decode cX8_passes 48 = .ok (.aload_n 0, 1) := by decide +kernel
theorem dX8_passes_49 : decode cX8_passes 49 = .ok (.aload_n 0, 1) := by decide +kernel
theorem dX8_passes_50 : decode cX8_passes 50 = .ok (.iload_n 2, 1) := by decide +kernel
theorem dX8_passes_51 : decode cX8_passes 51 = .ok (.iconst 4, 1) := by decide +kernel
theorem dX8_passes_52 : decode cX8_passes 52 = .ok (.iload_n 3, 1) := by decide +kernel
theorem dX8_passes_53 : decode cX8_passes 53 = .ok (.iadd, 1) := by decide +kernel
theorem dX8_passes_54 : decode cX8_passes 54 = .ok (.invokevirtual 95, 3) := by decide +kernel
theorem dX8_passes_57 : decode cX8_passes 57 = .ok (.iconst 4, 1) := by decide +kernel
theorem dX8_passes_58 : decode cX8_passes 58 = .ok (.invokevirtual 141, 3) := by decide +kernel
theorem dX8_passes_61 : decode cX8_passes 61 = .ok (.iload_n 1, 1) := by decide +kernel
theorem dX8_passes_62 : decode cX8_passes 62 = .ok (.iadd, 1) := by decide +kernel
theorem dX8_passes_63 : decode cX8_passes 63 = .ok (.invokevirtual 121, 3) := by decide +kernel
theorem dX8_passes_66 : decode cX8_passes 66 = .ok (.iinc 3 1, 3) := by decide +kernel
theorem dX8_passes_69 : decode cX8_passes 69 = .ok (.goto (-41), 3) := by decide +kernel
theorem dX8_passes_72 : decode cX8_passes 72 = .ok (.iinc 2 1, 3) := by decide +kernel
theorem dX8_passes_75 : decode cX8_passes 75 = .ok (.goto (-73), 3) := by decide +kernel
theorem dX8_passes_78 : decode cX8_passes 78 = .ok (.aload_n 0, 1) := by decide +kernel
theorem dX8_passes_79 : decode cX8_passes 79 = .ok (.getfield 7, 3) := by decide +kernel
theorem dX8_passes_82 : decode cX8_passes 82 = .ok (.iconst 3, 1) := by decide +kernel
theorem dX8_passes_83 : decode cX8_passes 83 = .ok (.iaload, 1) := by decide +kernel
theorem dX8_passes_84 : decode cX8_passes 84 = .ok (.ireturn, 1) := by decide +kernel
theorem dX8_pass_0 : decode cX8_pass 0 = .ok (.aload_n 0, 1) := by decide +kernel
theorem dX8_pass_1 : decode cX8_pass 1 = .ok (.invokevirtual 103, 3) := by decide +kernel
theorem dX8_pass_4 : decode cX8_pass 4 = .ok (.iload_n 1, 1) := by decide +kernel
theorem dX8_pass_5 : decode cX8_pass 5 = .ok (.iconst 1, 1) := by decide +kernel
theorem dX8_pass_6 : decode cX8_pass 6 = .ok (.bipush 60, 2) := by decide +kernel
theorem dX8_pass_8 : decode cX8_pass 8 = .ok (.invokestatic 91, 3) := by decide +kernel
theorem dX8_pass_11 : decode cX8_pass 11 = .ok (.ifCond .eq 15, 3) := by decide +kernel
theorem dX8_pass_14 : decode cX8_pass 14 = .ok (.aload_n 0, 1) := by decide +kernel
theorem dX8_pass_15 : decode cX8_pass 15 = .ok (.aload_n 0, 1) := by decide +kernel
theorem dX8_pass_16 : decode cX8_pass 16 = .ok (.iload_n 1, 1) := by decide +kernel
theorem dX8_pass_17 : decode cX8_pass 17 = .ok (.invokevirtual 214, 3) := by decide +kernel
theorem dX8_pass_20 : decode cX8_pass 20 = .ok (.invokevirtual 114, 3) := by decide +kernel
theorem dX8_pass_23 : decode cX8_pass 23 = .ok (.goto 8, 3) := by decide +kernel
theorem dX8_pass_26 : decode cX8_pass 26 = .ok (.aload_n 0, 1) := by decide +kernel
theorem dX8_pass_27 : decode cX8_pass 27 = .ok (.iconst 1, 1) := by decide +kernel
theorem dX8_pass_28 : decode cX8_pass 28 = .ok (.invokevirtual 106, 3) := by decide +kernel
theorem dX8_pass_31 : decode cX8_pass 31 = .ok (.ireturn, 1) := by decide +kernel
theorem dX8_plain_0 : decode cX8_plain 0 = .ok (.aload_n 0, 1) := by decide +kernel
theorem dX8_plain_1 : decode cX8_plain 1 = .ok (.iconst 0, 1) := by decide +kernel
theorem dX8_plain_2 : decode cX8_plain 2 = .ok (.putfield 34, 3) := by decide +kernel
theorem dX8_plain_5 : decode cX8_plain 5 = .ok (.iload_n 1, 1) := by decide +kernel
theorem dX8_plain_6 : decode cX8_plain 6 = .ok (.ireturn, 1) := by decide +kernel
theorem dX8_checked_0 : decode cX8_checked 0 = .ok (.aload_n 0, 1) := by decide +kernel
theorem dX8_checked_1 : decode cX8_checked 1 = .ok (.iload_n 1, 1) := by decide +kernel
theorem dX8_checked_2 : decode cX8_checked 2 = .ok (.ifCond .eq 7, 3) := by decide +kernel
theorem dX8_checked_5 : decode cX8_checked 5 = .ok (.iconst 0, 1) := by decide +kernel
theorem dX8_checked_6 : decode cX8_checked 6 = .ok (.goto 4, 3) := by decide +kernel
theorem dX8_checked_9 : decode cX8_checked 9 = .ok (.iconst 1, 1) := by decide +kernel
theorem dX8_checked_10 : decode cX8_checked 10 = .ok (.putfield 34, 3) := by decide +kernel
theorem dX8_checked_13 : decode cX8_checked 13 = .ok (.aload_n 0, 1) := by decide +kernel
theorem dX8_checked_14 : decode cX8_checked 14 = .ok (.getfield 34, 3) := by decide +kernel
theorem dX8_checked_17 : decode cX8_checked 17 = .ok (.ireturn, 1) := by decide +kernel
theorem dX8_switches_0 : decode cX8_switches 0 = .ok (.aload_n 0, 1) := by decide +kernel
theorem dX8_switches_1 : decode cX8_switches 1 = .ok (.aload_n 0, 1) := by decide +kernel
theorem dX8_switches_2 : decode cX8_switches 2 = .ok (.getfield 7, 3) := by decide +kernel
theorem dX8_switches_5 : decode cX8_switches 5 = .ok (.iconst 0, 1) := by decide +kernel
theorem dX8_switches_6 : decode cX8_switches 6 = .ok (.iaload, 1) := by decide +kernel
theorem dX8_switches_7 : decode cX8_switches 7 = .ok (.invokevirtual 217, 3) := by decide +kernel
theorem dX8_switches_10 : decode cX8_switches 10 = .ok (.ireturn, 1) := by decide +kernel
theorem dX8_trunks_0 : decode cX8_trunks 0 = .ok (.aload_n 0, 1) := by decide +kernel
theorem dX8_trunks_1 : decode cX8_trunks 1 = .ok (.aload_n 0, 1) := by decide +kernel
theorem dX8_trunks_2 : decode cX8_trunks 2 = .ok (.getfield 7, 3) := by decide +kernel
theorem dX8_trunks_5 : decode cX8_trunks 5 = .ok (.iconst 1, 1) := by decide +kernel
theorem dX8_trunks_6 : decode cX8_trunks 6 = .ok (.iaload, 1) := by decide +kernel
theorem dX8_trunks_7 : decode cX8_trunks 7 = .ok (.invokevirtual 217, 3) := by decide +kernel
theorem dX8_trunks_10 : decode cX8_trunks 10 = .ok (.ireturn, 1) := by decide +kernel
theorem dX8_trunkLength_0 : decode cX8_trunkLength 0 = .ok (.aload_n 0, 1) := by decide +kernel
theorem dX8_trunkLength_1 : decode cX8_trunkLength 1 = .ok (.aload_n 0, 1) := by decide +kernel
theorem dX8_trunkLength_2 : decode cX8_trunkLength 2 = .ok (.iload_n 1, 1) := by decide +kernel
theorem dX8_trunkLength_3 : decode cX8_trunkLength 3 = .ok (.invokevirtual 172, 3) := by decide +kernel
theorem dX8_trunkLength_6 : decode cX8_trunkLength 6 = .ok (.invokevirtual 220, 3) := by decide +kernel
theorem dX8_trunkLength_9 : decode cX8_trunkLength 9 = .ok (.ifCond .le 7, 3) := by decide +kernel
theorem dX8_trunkLength_12 : decode cX8_trunkLength 12 = .ok (.iconst 0, 1) := by decide +kernel
theorem dX8_trunkLength_13 : decode cX8_trunkLength 13 = .ok (.goto 9, 3) := by decide +kernel
theorem dX8_trunkLength_16 : decode cX8_trunkLength 16 = .ok (.aload_n 0, 1) := by decide +kernel
theorem dX8_trunkLength_17 : decode cX8_trunkLength 17 = .ok (.iload_n 1, 1) := by decide +kernel
theorem dX8_trunkLength_18 : decode cX8_trunkLength 18 = .ok (.iconst 2, 1) := by decide +kernel
theorem dX8_trunkLength_19 : decode cX8_trunkLength 19 = .ok (.invokevirtual 141, 3) := by decide +kernel
theorem dX8_trunkLength_22 : decode cX8_trunkLength 22 = .ok (.ireturn, 1) := by decide +kernel
theorem dX8_otherEnd_0 : decode cX8_otherEnd 0 = .ok (.aload_n 0, 1) := by decide +kernel
theorem dX8_otherEnd_1 : decode cX8_otherEnd 1 = .ok (.aload_n 0, 1) := by decide +kernel
theorem dX8_otherEnd_2 : decode cX8_otherEnd 2 = .ok (.iload_n 1, 1) := by decide +kernel
theorem dX8_otherEnd_3 : decode cX8_otherEnd 3 = .ok (.invokevirtual 172, 3) := by decide +kernel
theorem dX8_otherEnd_6 : decode cX8_otherEnd 6 = .ok (.ifCond .ne 7, 3) := by decide +kernel
theorem dX8_otherEnd_9 : decode cX8_otherEnd 9 = .ok (.iconst 1, 1) := by decide +kernel
theorem dX8_otherEnd_10 : decode cX8_otherEnd 10 = .ok (.goto 17, 3) := by decide +kernel
theorem dX8_otherEnd_13 : decode cX8_otherEnd 13 = .ok (.aload_n 0, 1) := by decide +kernel
theorem dX8_otherEnd_14 : decode cX8_otherEnd 14 = .ok (.iload_n 1, 1) := by decide +kernel
theorem dX8_otherEnd_15 : decode cX8_otherEnd 15 = .ok (.iload_n 2, 1) := by decide +kernel
theorem dX8_otherEnd_16 : decode cX8_otherEnd 16 = .ok (.invokevirtual 157, 3) := by decide +kernel
theorem dX8_otherEnd_19 : decode cX8_otherEnd 19 = .ok (.ifCond .ne 7, 3) := by decide +kernel
theorem dX8_otherEnd_22 : decode cX8_otherEnd 22 = .ok (.iconst 2, 1) := by decide +kernel
theorem dX8_otherEnd_23 : decode cX8_otherEnd 23 = .ok (.goto 4, 3) := by decide +kernel
theorem dX8_otherEnd_26 : decode cX8_otherEnd 26 = .ok (.iconst 0, 1) := by decide +kernel
theorem dX8_otherEnd_27 : decode cX8_otherEnd 27 = .ok (.putfield 34, 3) := by decide +kernel
theorem dX8_otherEnd_30 : decode cX8_otherEnd 30 = .ok (.aload_n 0, 1) := by decide +kernel
theorem dX8_otherEnd_31 : decode cX8_otherEnd 31 = .ok (.getfield 34, 3) := by decide +kernel
theorem dX8_otherEnd_34 : decode cX8_otherEnd 34 = .ok (.ifCond .le 7, 3) := by decide +kernel
theorem dX8_otherEnd_37 : decode cX8_otherEnd 37 = .ok (.iconst 0, 1) := by decide +kernel
theorem dX8_otherEnd_38 : decode cX8_otherEnd 38 = .ok (.goto 9, 3) := by decide +kernel
theorem dX8_otherEnd_41 : decode cX8_otherEnd 41 = .ok (.aload_n 0, 1) := by decide +kernel
theorem dX8_otherEnd_42 : decode cX8_otherEnd 42 = .ok (.iload_n 1, 1) := by decide +kernel
theorem dX8_otherEnd_43 : decode cX8_otherEnd 43 = .ok (.iload_n 2, 1) := by decide +kernel
theorem dX8_otherEnd_44 : decode cX8_otherEnd 44 = .ok (.invokevirtual 144, 3) := by decide +kernel
theorem dX8_otherEnd_47 : decode cX8_otherEnd 47 = .ok (.ireturn, 1) := by decide +kernel
theorem dX8_isCut_0 : decode cX8_isCut 0 = .ok (.aload_n 0, 1) := by decide +kernel
theorem dX8_isCut_1 : decode cX8_isCut 1 = .ok (.aload_n 0, 1) := by decide +kernel
theorem dX8_isCut_2 : decode cX8_isCut 2 = .ok (.iload_n 1, 1) := by decide +kernel
theorem dX8_isCut_3 : decode cX8_isCut 3 = .ok (.invokevirtual 172, 3) := by decide +kernel
theorem dX8_isCut_6 : decode cX8_isCut 6 = .ok (.invokevirtual 220, 3) := by decide +kernel
theorem dX8_isCut_9 : decode cX8_isCut 9 = .ok (.ifCond .ne 17, 3) := by decide +kernel
theorem dX8_isCut_12 : decode cX8_isCut 12 = .ok (.aload_n 0, 1) := by decide +kernel
theorem dX8_isCut_13 : decode cX8_isCut 13 = .ok (.iload_n 1, 1) := by decide +kernel
theorem dX8_isCut_14 : decode cX8_isCut 14 = .ok (.iconst 3, 1) := by decide +kernel
theorem dX8_isCut_15 : decode cX8_isCut 15 = .ok (.invokevirtual 141, 3) := by decide +kernel
theorem dX8_isCut_18 : decode cX8_isCut 18 = .ok (.iconst 1, 1) := by decide +kernel
theorem dX8_isCut_19 : decode cX8_isCut 19 = .ok (.if_icmp .ne 7, 3) := by decide +kernel
theorem dX8_isCut_22 : decode cX8_isCut 22 = .ok (.iconst 1, 1) := by decide +kernel
theorem dX8_isCut_23 : decode cX8_isCut 23 = .ok (.goto 4, 3) := by decide +kernel
theorem dX8_isCut_26 : decode cX8_isCut 26 = .ok (.iconst 0, 1) := by decide +kernel
theorem dX8_isCut_27 : decode cX8_isCut 27 = .ok (.ireturn, 1) := by decide +kernel
theorem dX8_userOf_0 : decode cX8_userOf 0 = .ok (.aload_n 0, 1) := by decide +kernel
theorem dX8_userOf_1 : decode cX8_userOf 1 = .ok (.aload_n 0, 1) := by decide +kernel
theorem dX8_userOf_2 : decode cX8_userOf 2 = .ok (.iload_n 1, 1) := by decide +kernel
theorem dX8_userOf_3 : decode cX8_userOf 3 = .ok (.invokevirtual 172, 3) := by decide +kernel
theorem dX8_userOf_6 : decode cX8_userOf 6 = .ok (.ifCond .ne 7, 3) := by decide +kernel
theorem dX8_userOf_9 : decode cX8_userOf 9 = .ok (.iconst 1, 1) := by decide +kernel
theorem dX8_userOf_10 : decode cX8_userOf 10 = .ok (.goto 16, 3) := by decide +kernel
theorem dX8_userOf_13 : decode cX8_userOf 13 = .ok (.aload_n 0, 1) := by decide +kernel
theorem dX8_userOf_14 : decode cX8_userOf 14 = .ok (.iload_n 1, 1) := by decide +kernel
theorem dX8_userOf_15 : decode cX8_userOf 15 = .ok (.invokevirtual 138, 3) := by decide +kernel
theorem dX8_userOf_18 : decode cX8_userOf 18 = .ok (.ifCond .ge 7, 3) := by decide +kernel
theorem dX8_userOf_21 : decode cX8_userOf 21 = .ok (.iconst 2, 1) := by decide +kernel
theorem dX8_userOf_22 : decode cX8_userOf 22 = .ok (.goto 4, 3) := by decide +kernel
theorem dX8_userOf_25 : decode cX8_userOf 25 = .ok (.iconst 0, 1) := by decide +kernel
theorem dX8_userOf_26 : decode cX8_userOf 26 = .ok (.putfield 34, 3) := by decide +kernel
theorem dX8_userOf_29 : decode cX8_userOf 29 = .ok (.aload_n 0, 1) := by decide +kernel
theorem dX8_userOf_30 : decode cX8_userOf 30 = .ok (.getfield 34, 3) := by decide +kernel
theorem dX8_userOf_33 : decode cX8_userOf 33 = .ok (.ifCond .le 7, 3) := by decide +kernel
theorem dX8_userOf_36 : decode cX8_userOf 36 = .ok (.iconst 0, 1) := by decide +kernel
theorem dX8_userOf_37 : decode cX8_userOf 37 = .ok (.goto 13, 3) := by decide +kernel
theorem dX8_userOf_40 : decode cX8_userOf 40 = .ok (.aload_n 0, 1) := by decide +kernel
theorem dX8_userOf_41 : decode cX8_userOf 41 = .ok (.aload_n 0, 1) := by decide +kernel
theorem dX8_userOf_42 : decode cX8_userOf 42 = .ok (.iload_n 1, 1) := by decide +kernel
theorem dX8_userOf_43 : decode cX8_userOf 43 = .ok (.invokevirtual 138, 3) := by decide +kernel
theorem dX8_userOf_46 : decode cX8_userOf 46 = .ok (.iconst 0, 1) := by decide +kernel
theorem dX8_userOf_47 : decode cX8_userOf 47 = .ok (.invokevirtual 95, 3) := by decide +kernel
theorem dX8_userOf_50 : decode cX8_userOf 50 = .ok (.ireturn, 1) := by decide +kernel
theorem dX8_minutesOn_0 : decode cX8_minutesOn 0 = .ok (.aload_n 0, 1) := by decide +kernel
theorem dX8_minutesOn_1 : decode cX8_minutesOn 1 = .ok (.aload_n 0, 1) := by decide +kernel
theorem dX8_minutesOn_2 : decode cX8_minutesOn 2 = .ok (.iload_n 1, 1) := by decide +kernel
theorem dX8_minutesOn_3 : decode cX8_minutesOn 3 = .ok (.invokevirtual 172, 3) := by decide +kernel
theorem dX8_minutesOn_6 : decode cX8_minutesOn 6 = .ok (.invokevirtual 220, 3) := by decide +kernel
theorem dX8_minutesOn_9 : decode cX8_minutesOn 9 = .ok (.ifCond .le 7, 3) := by decide +kernel
theorem dX8_minutesOn_12 : decode cX8_minutesOn 12 = .ok (.iconst 0, 1) := by decide +kernel
theorem dX8_minutesOn_13 : decode cX8_minutesOn 13 = .ok (.goto 9, 3) := by decide +kernel
theorem dX8_minutesOn_16 : decode cX8_minutesOn 16 = .ok (.aload_n 0, 1) := by decide +kernel
theorem dX8_minutesOn_17 : decode cX8_minutesOn 17 = .ok (.iload_n 1, 1) := by decide +kernel
theorem dX8_minutesOn_18 : decode cX8_minutesOn 18 = .ok (.iconst 4, 1) := by decide +kernel
theorem dX8_minutesOn_19 : decode cX8_minutesOn 19 = .ok (.invokevirtual 141, 3) := by decide +kernel
theorem dX8_minutesOn_22 : decode cX8_minutesOn 22 = .ok (.ireturn, 1) := by decide +kernel
theorem dX8_shortest_0 : decode cX8_shortest 0 = .ok (.aload_n 0, 1) := by decide +kernel
theorem dX8_shortest_1 : decode cX8_shortest 1 = .ok (.aload_n 0, 1) := by decide +kernel
theorem dX8_shortest_2 : decode cX8_shortest 2 = .ok (.iload_n 1, 1) := by decide +kernel
theorem dX8_shortest_3 : decode cX8_shortest 3 = .ok (.invokevirtual 117, 3) := by decide +kernel
theorem dX8_shortest_6 : decode cX8_shortest 6 = .ok (.ifCond .eq 15, 3) := by decide +kernel
theorem dX8_shortest_9 : decode cX8_shortest 9 = .ok (.aload_n 0, 1) := by decide +kernel
theorem dX8_shortest_10 : decode cX8_shortest 10 = .ok (.iload_n 2, 1) := by decide +kernel
theorem dX8_shortest_11 : decode cX8_shortest 11 = .ok (.invokevirtual 117, 3) := by decide +kernel
theorem dX8_shortest_14 : decode cX8_shortest 14 = .ok (.ifCond .eq 7, 3) := by decide +kernel
theorem dX8_shortest_17 : decode cX8_shortest 17 = .ok (.iconst 1, 1) := by decide +kernel
theorem dX8_shortest_18 : decode cX8_shortest 18 = .ok (.goto 4, 3) := by decide +kernel
theorem dX8_shortest_21 : decode cX8_shortest 21 = .ok (.iconst 0, 1) := by decide +kernel
theorem dX8_shortest_22 : decode cX8_shortest 22 = .ok (.invokevirtual 220, 3) := by decide +kernel
theorem dX8_shortest_25 : decode cX8_shortest 25 = .ok (.ifCond .le 5, 3) := by decide +kernel
theorem dX8_shortest_28 : decode cX8_shortest 28 = .ok (.iconst 0, 1) := by decide +kernel
theorem dX8_shortest_29 : decode cX8_shortest 29 = .ok (.ireturn, 1) := by decide +kernel
theorem dX8_shortest_30 : decode cX8_shortest 30 = .ok (.aload_n 0, 1) := by decide +kernel
theorem dX8_shortest_31 : decode cX8_shortest 31 = .ok (.iload_n 2, 1) := by decide +kernel
theorem dX8_shortest_32 : decode cX8_shortest 32 = .ok (.iconst (-1), 1) := by decide +kernel
theorem dX8_shortest_33 : decode cX8_shortest 33 = .ok (.invokevirtual 154, 3) := by decide +kernel
theorem dX8_shortest_36 : decode cX8_shortest 36 = .ok (.aload_n 0, 1) := by decide +kernel
theorem dX8_shortest_37 : decode cX8_shortest 37 = .ok (.getfield 25, 3) := by decide +kernel
theorem dX8_shortest_40 : decode cX8_shortest 40 = .ok (.iload_n 1, 1) := by decide +kernel
theorem dX8_shortest_41 : decode cX8_shortest 41 = .ok (.iaload, 1) := by decide +kernel
theorem dX8_shortest_42 : decode cX8_shortest 42 = .ok (.sipush 9999, 3) := by decide +kernel
theorem dX8_shortest_45 : decode cX8_shortest 45 = .ok (.if_icmp .ne 11, 3) := by decide +kernel
theorem dX8_shortest_48 : decode cX8_shortest 48 = .ok (.aload_n 0, 1) := by decide +kernel
theorem dX8_shortest_49 : decode cX8_shortest 49 = .ok (.iconst 2, 1) := by decide +kernel
theorem dX8_shortest_50 : decode cX8_shortest 50 = .ok (.invokevirtual 106, 3) := by decide +kernel
theorem dX8_shortest_53 : decode cX8_shortest 53 = .ok (.goto 9, 3) := by decide +kernel
theorem dX8_shortest_56 : decode cX8_shortest 56 = .ok (.aload_n 0, 1) := by decide +kernel
theorem dX8_shortest_57 : decode cX8_shortest 57 = .ok (.getfield 25, 3) := by decide +kernel
theorem dX8_shortest_60 : decode cX8_shortest 60 = .ok (.iload_n 1, 1) := by decide +kernel
theorem dX8_shortest_61 : decode cX8_shortest 61 = .ok (.iaload, 1) := by decide +kernel
theorem dX8_shortest_62 : decode cX8_shortest 62 = .ok (.ireturn, 1) := by decide +kernel
theorem dX8_routeLength_0 : decode cX8_routeLength 0 = .ok (.aload_n 0, 1) := by decide +kernel
theorem dX8_routeLength_1 : decode cX8_routeLength 1 = .ok (.iload_n 1, 1) := by decide +kernel
theorem dX8_routeLength_2 : decode cX8_routeLength 2 = .ok (.iload_n 2, 1) := by decide +kernel
theorem dX8_routeLength_3 : decode cX8_routeLength 3 = .ok (.invokevirtual 224, 3) := by decide +kernel
theorem dX8_routeLength_6 : decode cX8_routeLength 6 = .ok (.ireturn, 1) := by decide +kernel
theorem dX8_routeLengthByRelaxation_0 : decode cX8_routeLengthByRelaxation 0 = .ok (.aload_n 0, 1) := by decide +kernel
theorem dX8_routeLengthByRelaxation_1 : decode cX8_routeLengthByRelaxation 1 = .ok (.iload_n 1, 1) := by decide +kernel
theorem dX8_routeLengthByRelaxation_2 : decode cX8_routeLengthByRelaxation 2 = .ok (.iload_n 2, 1) := by decide +kernel
theorem dX8_routeLengthByRelaxation_3 : decode cX8_routeLengthByRelaxation 3 = .ok (.invokevirtual 224, 3) := by decide +kernel
theorem dX8_routeLengthByRelaxation_6 : decode cX8_routeLengthByRelaxation 6 = .ok (.ireturn, 1) := by decide +kernel
theorem dX8_border_0 : decode cX8_border 0 = .ok (.iconst 0, 1) := by decide +kernel
theorem dX8_border_1 : decode cX8_border 1 = .ok (.istore_n 2, 1) := by decide +kernel
theorem dX8_border_2 : decode cX8_border 2 = .ok (.iconst 0, 1) := by decide +kernel
theorem dX8_border_3 : decode cX8_border 3 = .ok (.istore_n 3, 1) := by decide +kernel
theorem dX8_border_4 : decode cX8_border 4 = .ok (.iload_n 3, 1) := by decide +kernel
theorem dX8_border_5 : decode cX8_border 5 = .ok (.aload_n 0, 1) := by decide +kernel
theorem dX8_border_6 : decode cX8_border 6 = .ok (.getfield 7, 3) := by decide +kernel
theorem dX8_border_9 : decode cX8_border 9 = .ok (.iconst 1, 1) := by decide +kernel
theorem dX8_border_10 : decode cX8_border 10 = .ok (.iaload, 1) := by decide +kernel
theorem dX8_border_11 : decode cX8_border 11 = .ok (.if_icmp .ge 49, 3) := by decide +kernel
theorem dX8_border_14 : decode cX8_border 14 = .ok (.iload_n 2, 1) := by decide +kernel
theorem dX8_border_15 : decode cX8_border 15 = .ok (.aload_n 0, 1) := by decide +kernel
theorem dX8_border_16 : decode cX8_border 16 = .ok (.iload_n 3, 1) := by decide +kernel
theorem dX8_border_17 : decode cX8_border 17 = .ok (.iconst (-1), 1) := by decide +kernel
theorem dX8_border_18 : decode cX8_border 18 = .ok (.invokevirtual 147, 3) := by decide +kernel
theorem dX8_border_21 : decode cX8_border 21 = .ok (.ifCond .eq 30, 3) := by decide +kernel
theorem dX8_border_24 : decode cX8_border 24 = .ok (.iload_n 1, 1) := by decide +kernel
theorem dX8_border_25 : decode cX8_border 25 = .ok (.aload_n 0, 1) := by decide +kernel
theorem dX8_border_26 : decode cX8_border 26 = .ok (.iload_n 3, 1) := by decide +kernel
theorem dX8_border_27 : decode cX8_border 27 = .ok (.iconst 0, 1) := by decide +kernel
theorem dX8_border_28 : decode cX8_border 28 = .ok (.invokevirtual 141, 3) := by decide +kernel
theorem dX8_border_31 : decode cX8_border 31 = .ok (.ishr, 1) := by decide +kernel
theorem dX8_border_32 : decode cX8_border 32 = .ok (.iconst 1, 1) := by decide +kernel
theorem dX8_border_33 : decode cX8_border 33 = .ok (.iand, 1) := by decide +kernel
theorem dX8_border_34 : decode cX8_border 34 = .ok (.iload_n 1, 1) := by decide +kernel
theorem dX8_border_35 : decode cX8_border 35 = .ok (.aload_n 0, 1) := by decide +kernel
theorem dX8_border_36 : decode cX8_border 36 = .ok (.iload_n 3, 1) := by decide +kernel
theorem dX8_border_37 : decode cX8_border 37 = .ok (.iconst 1, 1) := by decide +kernel
theorem dX8_border_38 : decode cX8_border 38 = .ok (.invokevirtual 141, 3) := by decide +kernel
theorem dX8_border_41 : decode cX8_border 41 = .ok (.ishr, 1) := by decide +kernel
theorem dX8_border_42 : decode cX8_border 42 = .ok (.iconst 1, 1) := by decide +kernel
theorem dX8_border_43 : decode cX8_border 43 = .ok (.iand, 1) := by decide +kernel
theorem dX8_border_44 : decode cX8_border 44 = .ok (.if_icmp .eq 7, 3) := by decide +kernel
theorem dX8_border_47 : decode cX8_border 47 = .ok (.iconst 1, 1) := by decide +kernel
theorem dX8_border_48 : decode cX8_border 48 = .ok (.goto 4, 3) := by decide +kernel
theorem dX8_border_51 : decode cX8_border 51 = .ok (.iconst 0, 1) := by decide +kernel
theorem dX8_border_52 : decode cX8_border 52 = .ok (.iadd, 1) := by decide +kernel
theorem dX8_border_53 : decode cX8_border 53 = .ok (.istore_n 2, 1) := by decide +kernel
theorem dX8_border_54 : decode cX8_border 54 = .ok (.iinc 3 1, 3) := by decide +kernel
theorem dX8_border_57 : decode cX8_border 57 = .ok (.goto (-53), 3) := by decide +kernel
theorem dX8_border_60 : decode cX8_border 60 = .ok (.iload_n 2, 1) := by decide +kernel
theorem dX8_border_61 : decode cX8_border 61 = .ok (.ireturn, 1) := by decide +kernel
theorem dX8_least_0 : decode cX8_least 0 = .ok (.aload_n 0, 1) := by decide +kernel
theorem dX8_least_1 : decode cX8_least 1 = .ok (.aload_n 0, 1) := by decide +kernel
theorem dX8_least_2 : decode cX8_least 2 = .ok (.iload_n 1, 1) := by decide +kernel
theorem dX8_least_3 : decode cX8_least 3 = .ok (.invokevirtual 117, 3) := by decide +kernel
theorem dX8_least_6 : decode cX8_least 6 = .ok (.ifCond .eq 11, 3) := by decide +kernel
theorem dX8_least_9 : decode cX8_least 9 = .ok (.aload_n 0, 1) := by decide +kernel
theorem dX8_least_10 : decode cX8_least 10 = .ok (.iload_n 2, 1) := by decide +kernel
theorem dX8_least_11 : decode cX8_least 11 = .ok (.invokevirtual 117, 3) := by decide +kernel
theorem dX8_least_14 : decode cX8_least 14 = .ok (.ifCond .ne 7, 3) := by decide +kernel
theorem dX8_least_17 : decode cX8_least 17 = .ok (.iconst 1, 1) := by decide +kernel
theorem dX8_least_18 : decode cX8_least 18 = .ok (.goto 13, 3) := by decide +kernel
theorem dX8_least_21 : decode cX8_least 21 = .ok (.iload_n 1, 1) := by decide +kernel
theorem dX8_least_22 : decode cX8_least 22 = .ok (.iload_n 2, 1) := by decide +kernel
theorem dX8_least_23 : decode cX8_least 23 = .ok (.if_icmp .ne 7, 3) := by decide +kernel
theorem dX8_least_26 : decode cX8_least 26 = .ok (.iconst 2, 1) := by decide +kernel
theorem dX8_least_27 : decode cX8_least 27 = .ok (.goto 4, 3) := by decide +kernel
theorem dX8_least_30 : decode cX8_least 30 = .ok (.iconst 0, 1) := by decide +kernel
theorem dX8_least_31 : decode cX8_least 31 = .ok (.putfield 34, 3) := by decide +kernel
theorem dX8_least_34 : decode cX8_least 34 = .ok (.aload_n 0, 1) := by decide +kernel
theorem dX8_least_35 : decode cX8_least 35 = .ok (.getfield 34, 3) := by decide +kernel
theorem dX8_least_38 : decode cX8_least 38 = .ok (.ifCond .le 5, 3) := by decide +kernel
theorem dX8_least_41 : decode cX8_least 41 = .ok (.iconst 0, 1) := by decide +kernel
theorem dX8_least_42 : decode cX8_least 42 = .ok (.ireturn, 1) := by decide +kernel
theorem dX8_least_43 : decode cX8_least 43 = .ok (.bipush 16, 2) := by decide +kernel
theorem dX8_least_45 : decode cX8_least 45 = .ok (.istore_n 3, 1) := by decide +kernel
theorem dX8_least_46 : decode cX8_least 46 = .ok (.iconst 0, 1) := by decide +kernel
theorem dX8_least_47 : decode cX8_least 47 = .ok (.istore 4, 2) := by decide +kernel
theorem dX8_least_49 : decode cX8_least 49 = .ok (.iload 4, 2) := by decide +kernel
theorem dX8_least_51 : decode cX8_least 51 = .ok (.iconst 1, 1) := by decide +kernel
theorem dX8_least_52 : decode cX8_least 52 = .ok (.aload_n 0, 1) := by decide +kernel
theorem dX8_least_53 : decode cX8_least 53 = .ok (.getfield 7, 3) := by decide +kernel
theorem dX8_least_56 : decode cX8_least 56 = .ok (.iconst 0, 1) := by decide +kernel
theorem dX8_least_57 : decode cX8_least 57 = .ok (.iaload, 1) := by decide +kernel
theorem dX8_least_58 : decode cX8_least 58 = .ok (.ishl, 1) := by decide +kernel
theorem dX8_least_59 : decode cX8_least 59 = .ok (.if_icmp .ge 52, 3) := by decide +kernel
theorem dX8_least_62 : decode cX8_least 62 = .ok (.iload 4, 2) := by decide +kernel
theorem dX8_least_64 : decode cX8_least 64 = .ok (.iload_n 1, 1) := by decide +kernel
theorem dX8_least_65 : decode cX8_least 65 = .ok (.ishr, 1) := by decide +kernel
theorem dX8_least_66 : decode cX8_least 66 = .ok (.iconst 1, 1) := by decide +kernel
theorem dX8_least_67 : decode cX8_least 67 = .ok (.iand, 1) := by decide +kernel
theorem dX8_least_68 : decode cX8_least 68 = .ok (.ifCond .eq 37, 3) := by decide +kernel
theorem dX8_least_71 : decode cX8_least 71 = .ok (.iload 4, 2) := by decide +kernel
theorem dX8_least_73 : decode cX8_least 73 = .ok (.iload_n 2, 1) := by decide +kernel
theorem dX8_least_74 : decode cX8_least 74 = .ok (.ishr, 1) := by decide +kernel
theorem dX8_least_75 : decode cX8_least 75 = .ok (.iconst 1, 1) := by decide +kernel
theorem dX8_least_76 : decode cX8_least 76 = .ok (.iand, 1) := by decide +kernel
theorem dX8_least_77 : decode cX8_least 77 = .ok (.iconst 1, 1) := by decide +kernel
theorem dX8_least_78 : decode cX8_least 78 = .ok (.if_icmp .ne 6, 3) := by decide +kernel
theorem dX8_least_81 : decode cX8_least 81 = .ok (.goto 24, 3) := by decide +kernel
theorem dX8_least_84 : decode cX8_least 84 = .ok (.aload_n 0, 1) := by decide +kernel
theorem dX8_least_85 : decode cX8_least 85 = .ok (.iload 4, 2) := by decide +kernel
theorem dX8_least_87 : decode cX8_least 87 = .ok (.invokevirtual 227, 3) := by decide +kernel
theorem dX8_least_90 : decode cX8_least 90 = .ok (.istore 5, 2) := by decide +kernel
theorem dX8_least_92 : decode cX8_least 92 = .ok (.iload 5, 2) := by decide +kernel
theorem dX8_least_94 : decode cX8_least 94 = .ok (.iload_n 3, 1) := by decide +kernel
theorem dX8_least_95 : decode cX8_least 95 = .ok (.if_icmp .ge 8, 3) := by decide +kernel
theorem dX8_least_98 : decode cX8_least 98 = .ok (.iload 5, 2) := by decide +kernel
theorem dX8_least_100 : decode cX8_least 100 = .ok (.goto 4, 3) := by decide +kernel
theorem dX8_least_103 : decode cX8_least 103 = .ok (.iload_n 3, 1) := by decide +kernel
theorem dX8_least_104 : decode cX8_least 104 = .ok (.istore_n 3, 1) := by decide +kernel
theorem dX8_least_105 : decode cX8_least 105 = .ok (.iinc 4 1, 3) := by decide +kernel
theorem dX8_least_108 : decode cX8_least 108 = .ok (.goto (-59), 3) := by decide +kernel
theorem dX8_least_111 : decode cX8_least 111 = .ok (.iload_n 3, 1) := by decide +kernel
theorem dX8_least_112 : decode cX8_least 112 = .ok (.ireturn, 1) := by decide +kernel
theorem dX8_disjointRoutes_0 : decode cX8_disjointRoutes 0 = .ok (.aload_n 0, 1) := by decide +kernel
theorem dX8_disjointRoutes_1 : decode cX8_disjointRoutes 1 = .ok (.iload_n 1, 1) := by decide +kernel
theorem dX8_disjointRoutes_2 : decode cX8_disjointRoutes 2 = .ok (.iload_n 2, 1) := by decide +kernel
theorem dX8_disjointRoutes_3 : decode cX8_disjointRoutes 3 = .ok (.invokevirtual 230, 3) := by decide +kernel
theorem dX8_disjointRoutes_6 : decode cX8_disjointRoutes 6 = .ok (.ireturn, 1) := by decide +kernel
theorem dX8_minimalCut_0 : decode cX8_minimalCut 0 = .ok (.aload_n 0, 1) := by decide +kernel
theorem dX8_minimalCut_1 : decode cX8_minimalCut 1 = .ok (.iload_n 1, 1) := by decide +kernel
theorem dX8_minimalCut_2 : decode cX8_minimalCut 2 = .ok (.iload_n 2, 1) := by decide +kernel
theorem dX8_minimalCut_3 : decode cX8_minimalCut 3 = .ok (.invokevirtual 230, 3) := by decide +kernel
theorem dX8_minimalCut_6 : decode cX8_minimalCut 6 = .ok (.ireturn, 1) := by decide +kernel
theorem dX8_subscribers_0 : decode cX8_subscribers 0 = .ok (.aload_n 0, 1) := by decide +kernel
theorem dX8_subscribers_1 : decode cX8_subscribers 1 = .ok (.aload_n 0, 1) := by decide +kernel
theorem dX8_subscribers_2 : decode cX8_subscribers 2 = .ok (.getfield 7, 3) := by decide +kernel
theorem dX8_subscribers_5 : decode cX8_subscribers 5 = .ok (.iconst 2, 1) := by decide +kernel
theorem dX8_subscribers_6 : decode cX8_subscribers 6 = .ok (.iaload, 1) := by decide +kernel
theorem dX8_subscribers_7 : decode cX8_subscribers 7 = .ok (.invokevirtual 217, 3) := by decide +kernel
theorem dX8_subscribers_10 : decode cX8_subscribers 10 = .ok (.ireturn, 1) := by decide +kernel
theorem dX8_ofUser_0 : decode cX8_ofUser 0 = .ok (.aload_n 0, 1) := by decide +kernel
theorem dX8_ofUser_1 : decode cX8_ofUser 1 = .ok (.aload_n 0, 1) := by decide +kernel
theorem dX8_ofUser_2 : decode cX8_ofUser 2 = .ok (.iload_n 1, 1) := by decide +kernel
theorem dX8_ofUser_3 : decode cX8_ofUser 3 = .ok (.invokevirtual 197, 3) := by decide +kernel
theorem dX8_ofUser_6 : decode cX8_ofUser 6 = .ok (.invokevirtual 220, 3) := by decide +kernel
theorem dX8_ofUser_9 : decode cX8_ofUser 9 = .ok (.ifCond .le 7, 3) := by decide +kernel
theorem dX8_ofUser_12 : decode cX8_ofUser 12 = .ok (.iconst 0, 1) := by decide +kernel
theorem dX8_ofUser_13 : decode cX8_ofUser 13 = .ok (.goto 9, 3) := by decide +kernel
theorem dX8_ofUser_16 : decode cX8_ofUser 16 = .ok (.aload_n 0, 1) := by decide +kernel
theorem dX8_ofUser_17 : decode cX8_ofUser 17 = .ok (.iload_n 1, 1) := by decide +kernel
theorem dX8_ofUser_18 : decode cX8_ofUser 18 = .ok (.iload_n 2, 1) := by decide +kernel
theorem dX8_ofUser_19 : decode cX8_ofUser 19 = .ok (.invokevirtual 163, 3) := by decide +kernel
theorem dX8_ofUser_22 : decode cX8_ofUser 22 = .ok (.ireturn, 1) := by decide +kernel
theorem dX8_home_0 : decode cX8_home 0 = .ok (.aload_n 0, 1) := by decide +kernel
theorem dX8_home_1 : decode cX8_home 1 = .ok (.iload_n 1, 1) := by decide +kernel
theorem dX8_home_2 : decode cX8_home 2 = .ok (.iconst 0, 1) := by decide +kernel
theorem dX8_home_3 : decode cX8_home 3 = .ok (.invokevirtual 233, 3) := by decide +kernel
theorem dX8_home_6 : decode cX8_home 6 = .ok (.ireturn, 1) := by decide +kernel
theorem dX8_tariff_0 : decode cX8_tariff 0 = .ok (.aload_n 0, 1) := by decide +kernel
theorem dX8_tariff_1 : decode cX8_tariff 1 = .ok (.iload_n 1, 1) := by decide +kernel
theorem dX8_tariff_2 : decode cX8_tariff 2 = .ok (.iconst 1, 1) := by decide +kernel
theorem dX8_tariff_3 : decode cX8_tariff 3 = .ok (.invokevirtual 233, 3) := by decide +kernel
theorem dX8_tariff_6 : decode cX8_tariff 6 = .ok (.ireturn, 1) := by decide +kernel
theorem dX8_bill_0 : decode cX8_bill 0 = .ok (.aload_n 0, 1) := by decide +kernel
theorem dX8_bill_1 : decode cX8_bill 1 = .ok (.iload_n 1, 1) := by decide +kernel
theorem dX8_bill_2 : decode cX8_bill 2 = .ok (.iconst 2, 1) := by decide +kernel
theorem dX8_bill_3 : decode cX8_bill 3 = .ok (.invokevirtual 233, 3) := by decide +kernel
theorem dX8_bill_6 : decode cX8_bill 6 = .ok (.ireturn, 1) := by decide +kernel
theorem dX8_isTalking_0 : decode cX8_isTalking 0 = .ok (.aload_n 0, 1) := by decide +kernel
theorem dX8_isTalking_1 : decode cX8_isTalking 1 = .ok (.aload_n 0, 1) := by decide +kernel
theorem dX8_isTalking_2 : decode cX8_isTalking 2 = .ok (.iload_n 1, 1) := by decide +kernel
theorem dX8_isTalking_3 : decode cX8_isTalking 3 = .ok (.invokevirtual 197, 3) := by decide +kernel
theorem dX8_isTalking_6 : decode cX8_isTalking 6 = .ok (.invokevirtual 220, 3) := by decide +kernel
theorem dX8_isTalking_9 : decode cX8_isTalking 9 = .ok (.ifCond .ne 15, 3) := by decide +kernel
theorem dX8_isTalking_12 : decode cX8_isTalking 12 = .ok (.aload_n 0, 1) := by decide +kernel
theorem dX8_isTalking_13 : decode cX8_isTalking 13 = .ok (.iload_n 1, 1) := by decide +kernel
theorem dX8_isTalking_14 : decode cX8_isTalking 14 = .ok (.invokevirtual 200, 3) := by decide +kernel
theorem dX8_isTalking_17 : decode cX8_isTalking 17 = .ok (.ifCond .lt 7, 3) := by decide +kernel
theorem dX8_isTalking_20 : decode cX8_isTalking 20 = .ok (.iconst 1, 1) := by decide +kernel
theorem dX8_isTalking_21 : decode cX8_isTalking 21 = .ok (.goto 4, 3) := by decide +kernel
theorem dX8_isTalking_24 : decode cX8_isTalking 24 = .ok (.iconst 0, 1) := by decide +kernel
theorem dX8_isTalking_25 : decode cX8_isTalking 25 = .ok (.ireturn, 1) := by decide +kernel
theorem dX8_talks_0 : decode cX8_talks 0 = .ok (.aload_n 0, 1) := by decide +kernel
theorem dX8_talks_1 : decode cX8_talks 1 = .ok (.aload_n 0, 1) := by decide +kernel
theorem dX8_talks_2 : decode cX8_talks 2 = .ok (.iload_n 1, 1) := by decide +kernel
theorem dX8_talks_3 : decode cX8_talks 3 = .ok (.invokevirtual 211, 3) := by decide +kernel
theorem dX8_talks_6 : decode cX8_talks 6 = .ok (.putfield 34, 3) := by decide +kernel
theorem dX8_talks_9 : decode cX8_talks 9 = .ok (.aload_n 0, 1) := by decide +kernel
theorem dX8_talks_10 : decode cX8_talks 10 = .ok (.getfield 34, 3) := by decide +kernel
theorem dX8_talks_13 : decode cX8_talks 13 = .ok (.ifCond .le 7, 3) := by decide +kernel
theorem dX8_talks_16 : decode cX8_talks 16 = .ok (.iconst 0, 1) := by decide +kernel
theorem dX8_talks_17 : decode cX8_talks 17 = .ok (.goto 8, 3) := by decide +kernel
theorem dX8_talks_20 : decode cX8_talks 20 = .ok (.aload_n 0, 1) := by decide +kernel
theorem dX8_talks_21 : decode cX8_talks 21 = .ok (.iload_n 1, 1) := by decide +kernel
theorem dX8_talks_22 : decode cX8_talks 22 = .ok (.invokevirtual 200, 3) := by decide +kernel
theorem dX8_talks_25 : decode cX8_talks 25 = .ok (.ireturn, 1) := by decide +kernel
theorem dX8_partner_0 : decode cX8_partner 0 = .ok (.aload_n 0, 1) := by decide +kernel
theorem dX8_partner_1 : decode cX8_partner 1 = .ok (.iload_n 1, 1) := by decide +kernel
theorem dX8_partner_2 : decode cX8_partner 2 = .ok (.invokevirtual 236, 3) := by decide +kernel
theorem dX8_partner_5 : decode cX8_partner 5 = .ok (.istore_n 2, 1) := by decide +kernel
theorem dX8_partner_6 : decode cX8_partner 6 = .ok (.aload_n 0, 1) := by decide +kernel
theorem dX8_partner_7 : decode cX8_partner 7 = .ok (.getfield 34, 3) := by decide +kernel
theorem dX8_partner_10 : decode cX8_partner 10 = .ok (.ifCond .le 7, 3) := by decide +kernel
theorem dX8_partner_13 : decode cX8_partner 13 = .ok (.iconst 0, 1) := by decide +kernel
theorem dX8_partner_14 : decode cX8_partner 14 = .ok (.goto 18, 3) := by decide +kernel
theorem dX8_partner_17 : decode cX8_partner 17 = .ok (.aload_n 0, 1) := by decide +kernel
theorem dX8_partner_18 : decode cX8_partner 18 = .ok (.iload_n 2, 1) := by decide +kernel
theorem dX8_partner_19 : decode cX8_partner 19 = .ok (.iconst 0, 1) := by decide +kernel
theorem dX8_partner_20 : decode cX8_partner 20 = .ok (.invokevirtual 95, 3) := by decide +kernel
theorem dX8_partner_23 : decode cX8_partner 23 = .ok (.aload_n 0, 1) := by decide +kernel
theorem dX8_partner_24 : decode cX8_partner 24 = .ok (.iload_n 2, 1) := by decide +kernel
theorem dX8_partner_25 : decode cX8_partner 25 = .ok (.iconst 1, 1) := by decide +kernel
theorem dX8_partner_26 : decode cX8_partner 26 = .ok (.invokevirtual 95, 3) := by decide +kernel
theorem dX8_partner_29 : decode cX8_partner 29 = .ok (.iadd, 1) := by decide +kernel
theorem dX8_partner_30 : decode cX8_partner 30 = .ok (.iload_n 1, 1) := by decide +kernel
theorem dX8_partner_31 : decode cX8_partner 31 = .ok (.isub, 1) := by decide +kernel
theorem dX8_partner_32 : decode cX8_partner 32 = .ok (.ireturn, 1) := by decide +kernel
theorem dX8_minutes_0 : decode cX8_minutes 0 = .ok (.aload_n 0, 1) := by decide +kernel
theorem dX8_minutes_1 : decode cX8_minutes 1 = .ok (.iload_n 1, 1) := by decide +kernel
theorem dX8_minutes_2 : decode cX8_minutes 2 = .ok (.invokevirtual 236, 3) := by decide +kernel
theorem dX8_minutes_5 : decode cX8_minutes 5 = .ok (.istore_n 2, 1) := by decide +kernel
theorem dX8_minutes_6 : decode cX8_minutes 6 = .ok (.aload_n 0, 1) := by decide +kernel
theorem dX8_minutes_7 : decode cX8_minutes 7 = .ok (.getfield 34, 3) := by decide +kernel
theorem dX8_minutes_10 : decode cX8_minutes 10 = .ok (.ifCond .le 7, 3) := by decide +kernel
theorem dX8_minutes_13 : decode cX8_minutes 13 = .ok (.iconst 0, 1) := by decide +kernel
theorem dX8_minutes_14 : decode cX8_minutes 14 = .ok (.goto 9, 3) := by decide +kernel
theorem dX8_minutes_17 : decode cX8_minutes 17 = .ok (.aload_n 0, 1) := by decide +kernel
theorem dX8_minutes_18 : decode cX8_minutes 18 = .ok (.iload_n 2, 1) := by decide +kernel
theorem dX8_minutes_19 : decode cX8_minutes 19 = .ok (.iconst 2, 1) := by decide +kernel
theorem dX8_minutes_20 : decode cX8_minutes 20 = .ok (.invokevirtual 95, 3) := by decide +kernel
theorem dX8_minutes_23 : decode cX8_minutes 23 = .ok (.ireturn, 1) := by decide +kernel
theorem dX8_routeSize_0 : decode cX8_routeSize 0 = .ok (.aload_n 0, 1) := by decide +kernel
theorem dX8_routeSize_1 : decode cX8_routeSize 1 = .ok (.iload_n 1, 1) := by decide +kernel
theorem dX8_routeSize_2 : decode cX8_routeSize 2 = .ok (.invokevirtual 236, 3) := by decide +kernel
theorem dX8_routeSize_5 : decode cX8_routeSize 5 = .ok (.istore_n 2, 1) := by decide +kernel
theorem dX8_routeSize_6 : decode cX8_routeSize 6 = .ok (.aload_n 0, 1) := by decide +kernel
theorem dX8_routeSize_7 : decode cX8_routeSize 7 = .ok (.getfield 34, 3) := by decide +kernel
theorem dX8_routeSize_10 : decode cX8_routeSize 10 = .ok (.ifCond .le 7, 3) := by decide +kernel
theorem dX8_routeSize_13 : decode cX8_routeSize 13 = .ok (.iconst 0, 1) := by decide +kernel
theorem dX8_routeSize_14 : decode cX8_routeSize 14 = .ok (.goto 9, 3) := by decide +kernel
theorem dX8_routeSize_17 : decode cX8_routeSize 17 = .ok (.aload_n 0, 1) := by decide +kernel
theorem dX8_routeSize_18 : decode cX8_routeSize 18 = .ok (.iload_n 2, 1) := by decide +kernel
theorem dX8_routeSize_19 : decode cX8_routeSize 19 = .ok (.iconst 3, 1) := by decide +kernel
theorem dX8_routeSize_20 : decode cX8_routeSize 20 = .ok (.invokevirtual 95, 3) := by decide +kernel
theorem dX8_routeSize_23 : decode cX8_routeSize 23 = .ok (.ireturn, 1) := by decide +kernel
theorem dX8_routeTrunk_0 : decode cX8_routeTrunk 0 = .ok (.aload_n 0, 1) := by decide +kernel
theorem dX8_routeTrunk_1 : decode cX8_routeTrunk 1 = .ok (.iload_n 1, 1) := by decide +kernel
theorem dX8_routeTrunk_2 : decode cX8_routeTrunk 2 = .ok (.invokevirtual 236, 3) := by decide +kernel
theorem dX8_routeTrunk_5 : decode cX8_routeTrunk 5 = .ok (.istore_n 3, 1) := by decide +kernel
theorem dX8_routeTrunk_6 : decode cX8_routeTrunk 6 = .ok (.aload_n 0, 1) := by decide +kernel
theorem dX8_routeTrunk_7 : decode cX8_routeTrunk 7 = .ok (.getfield 34, 3) := by decide +kernel
theorem dX8_routeTrunk_10 : decode cX8_routeTrunk 10 = .ok (.ifCond .le 5, 3) := by decide +kernel
theorem dX8_routeTrunk_13 : decode cX8_routeTrunk 13 = .ok (.iconst 0, 1) := by decide +kernel
theorem dX8_routeTrunk_14 : decode cX8_routeTrunk 14 = .ok (.ireturn, 1) := by decide +kernel
theorem dX8_routeTrunk_15 : decode cX8_routeTrunk 15 = .ok (.iload_n 2, 1) := by decide +kernel
theorem dX8_routeTrunk_16 : decode cX8_routeTrunk 16 = .ok (.iconst 0, 1) := by decide +kernel
theorem dX8_routeTrunk_17 : decode cX8_routeTrunk 17 = .ok (.aload_n 0, 1) := by decide +kernel
theorem dX8_routeTrunk_18 : decode cX8_routeTrunk 18 = .ok (.iload_n 3, 1) := by decide +kernel
theorem dX8_routeTrunk_19 : decode cX8_routeTrunk 19 = .ok (.iconst 3, 1) := by decide +kernel
theorem dX8_routeTrunk_20 : decode cX8_routeTrunk 20 = .ok (.invokevirtual 95, 3) := by decide +kernel
theorem dX8_routeTrunk_23 : decode cX8_routeTrunk 23 = .ok (.iconst 1, 1) := by decide +kernel
theorem dX8_routeTrunk_24 : decode cX8_routeTrunk 24 = .ok (.isub, 1) := by decide +kernel
theorem dX8_routeTrunk_25 : decode cX8_routeTrunk 25 = .ok (.invokestatic 91, 3) := by decide +kernel
theorem dX8_routeTrunk_28 : decode cX8_routeTrunk 28 = .ok (.ifCond .eq 14, 3) := by decide +kernel
theorem dX8_routeTrunk_31 : decode cX8_routeTrunk 31 = .ok (.aload_n 0, 1) := by decide +kernel
theorem dX8_routeTrunk_32 : decode cX8_routeTrunk 32 = .ok (.iload_n 3, 1) := by decide +kernel
theorem dX8_routeTrunk_33 : decode cX8_routeTrunk 33 = .ok (.iconst 4, 1) := by decide +kernel
theorem dX8_routeTrunk_34 : decode cX8_routeTrunk 34 = .ok (.iload_n 2, 1) := by decide +kernel
theorem dX8_routeTrunk_35 : decode cX8_routeTrunk 35 = .ok (.iadd, 1) := by decide +kernel
theorem dX8_routeTrunk_36 : decode cX8_routeTrunk 36 = .ok (.invokevirtual 95, 3) := by decide +kernel
theorem dX8_routeTrunk_39 : decode cX8_routeTrunk 39 = .ok (.goto 8, 3) := by decide +kernel
theorem dX8_routeTrunk_42 : decode cX8_routeTrunk 42 = .ok (.aload_n 0, 1) := by decide +kernel
theorem dX8_routeTrunk_43 : decode cX8_routeTrunk 43 = .ok (.iconst 2, 1) := by decide +kernel
theorem dX8_routeTrunk_44 : decode cX8_routeTrunk 44 = .ok (.invokevirtual 106, 3) := by decide +kernel
theorem dX8_routeTrunk_47 : decode cX8_routeTrunk 47 = .ok (.ireturn, 1) := by decide +kernel
theorem dX8_chargeNow_0 : decode cX8_chargeNow 0 = .ok (.aload_n 0, 1) := by decide +kernel
theorem dX8_chargeNow_1 : decode cX8_chargeNow 1 = .ok (.iload_n 1, 1) := by decide +kernel
theorem dX8_chargeNow_2 : decode cX8_chargeNow 2 = .ok (.invokevirtual 236, 3) := by decide +kernel
theorem dX8_chargeNow_5 : decode cX8_chargeNow 5 = .ok (.istore_n 2, 1) := by decide +kernel
theorem dX8_chargeNow_6 : decode cX8_chargeNow 6 = .ok (.aload_n 0, 1) := by decide +kernel
theorem dX8_chargeNow_7 : decode cX8_chargeNow 7 = .ok (.getfield 34, 3) := by decide +kernel
theorem dX8_chargeNow_10 : decode cX8_chargeNow 10 = .ok (.ifCond .le 7, 3) := by decide +kernel
theorem dX8_chargeNow_13 : decode cX8_chargeNow 13 = .ok (.iconst 0, 1) := by decide +kernel
theorem dX8_chargeNow_14 : decode cX8_chargeNow 14 = .ok (.goto 8, 3) := by decide +kernel
theorem dX8_chargeNow_17 : decode cX8_chargeNow 17 = .ok (.aload_n 0, 1) := by decide +kernel
theorem dX8_chargeNow_18 : decode cX8_chargeNow 18 = .ok (.iload_n 2, 1) := by decide +kernel
theorem dX8_chargeNow_19 : decode cX8_chargeNow 19 = .ok (.invokevirtual 169, 3) := by decide +kernel
theorem dX8_chargeNow_22 : decode cX8_chargeNow 22 = .ok (.ireturn, 1) := by decide +kernel
theorem dX8_calls_0 : decode cX8_calls 0 = .ok (.aload_n 0, 1) := by decide +kernel
theorem dX8_calls_1 : decode cX8_calls 1 = .ok (.aload_n 0, 1) := by decide +kernel
theorem dX8_calls_2 : decode cX8_calls 2 = .ok (.getfield 7, 3) := by decide +kernel
theorem dX8_calls_5 : decode cX8_calls 5 = .ok (.iconst 3, 1) := by decide +kernel
theorem dX8_calls_6 : decode cX8_calls 6 = .ok (.iaload, 1) := by decide +kernel
theorem dX8_calls_7 : decode cX8_calls 7 = .ok (.invokevirtual 217, 3) := by decide +kernel
theorem dX8_calls_10 : decode cX8_calls 10 = .ok (.ireturn, 1) := by decide +kernel
theorem dX8_blockedCalls_0 : decode cX8_blockedCalls 0 = .ok (.aload_n 0, 1) := by decide +kernel
theorem dX8_blockedCalls_1 : decode cX8_blockedCalls 1 = .ok (.aload_n 0, 1) := by decide +kernel
theorem dX8_blockedCalls_2 : decode cX8_blockedCalls 2 = .ok (.getfield 47, 3) := by decide +kernel
theorem dX8_blockedCalls_5 : decode cX8_blockedCalls 5 = .ok (.invokevirtual 217, 3) := by decide +kernel
theorem dX8_blockedCalls_8 : decode cX8_blockedCalls 8 = .ok (.ireturn, 1) := by decide +kernel
theorem dX8_ofBlocked_0 : decode cX8_ofBlocked 0 = .ok (.aload_n 0, 1) := by decide +kernel
theorem dX8_ofBlocked_1 : decode cX8_ofBlocked 1 = .ok (.iload_n 1, 1) := by decide +kernel
theorem dX8_ofBlocked_2 : decode cX8_ofBlocked 2 = .ok (.iconst 0, 1) := by decide +kernel
theorem dX8_ofBlocked_3 : decode cX8_ofBlocked 3 = .ok (.aload_n 0, 1) := by decide +kernel
theorem dX8_ofBlocked_4 : decode cX8_ofBlocked 4 = .ok (.getfield 47, 3) := by decide +kernel
theorem dX8_ofBlocked_7 : decode cX8_ofBlocked 7 = .ok (.iconst 1, 1) := by decide +kernel
theorem dX8_ofBlocked_8 : decode cX8_ofBlocked 8 = .ok (.isub, 1) := by decide +kernel
theorem dX8_ofBlocked_9 : decode cX8_ofBlocked 9 = .ok (.invokestatic 91, 3) := by decide +kernel
theorem dX8_ofBlocked_12 : decode cX8_ofBlocked 12 = .ok (.invokevirtual 220, 3) := by decide +kernel
theorem dX8_ofBlocked_15 : decode cX8_ofBlocked 15 = .ok (.ifCond .le 7, 3) := by decide +kernel
theorem dX8_ofBlocked_18 : decode cX8_ofBlocked 18 = .ok (.iconst 0, 1) := by decide +kernel
theorem dX8_ofBlocked_19 : decode cX8_ofBlocked 19 = .ok (.goto 13, 3) := by decide +kernel
theorem dX8_ofBlocked_22 : decode cX8_ofBlocked 22 = .ok (.aload_n 0, 1) := by decide +kernel
theorem dX8_ofBlocked_23 : decode cX8_ofBlocked 23 = .ok (.getfield 22, 3) := by decide +kernel
theorem dX8_ofBlocked_26 : decode cX8_ofBlocked 26 = .ok (.iconst 3, 1) := by decide +kernel
theorem dX8_ofBlocked_27 : decode cX8_ofBlocked 27 = .ok (.iload_n 1, 1) := by decide +kernel
theorem dX8_ofBlocked_28 : decode cX8_ofBlocked 28 = .ok (.imul, 1) := by decide +kernel
theorem dX8_ofBlocked_29 : decode cX8_ofBlocked 29 = .ok (.iload_n 2, 1) := by decide +kernel
theorem dX8_ofBlocked_30 : decode cX8_ofBlocked 30 = .ok (.iadd, 1) := by decide +kernel
theorem dX8_ofBlocked_31 : decode cX8_ofBlocked 31 = .ok (.iaload, 1) := by decide +kernel
theorem dX8_ofBlocked_32 : decode cX8_ofBlocked 32 = .ok (.ireturn, 1) := by decide +kernel
theorem dX8_blockedCaller_0 : decode cX8_blockedCaller 0 = .ok (.aload_n 0, 1) := by decide +kernel
theorem dX8_blockedCaller_1 : decode cX8_blockedCaller 1 = .ok (.iload_n 1, 1) := by decide +kernel
theorem dX8_blockedCaller_2 : decode cX8_blockedCaller 2 = .ok (.iconst 0, 1) := by decide +kernel
theorem dX8_blockedCaller_3 : decode cX8_blockedCaller 3 = .ok (.invokevirtual 239, 3) := by decide +kernel
theorem dX8_blockedCaller_6 : decode cX8_blockedCaller 6 = .ok (.ireturn, 1) := by decide +kernel
theorem dX8_blockedCallee_0 : decode cX8_blockedCallee 0 = .ok (.aload_n 0, 1) := by decide +kernel
theorem dX8_blockedCallee_1 : decode cX8_blockedCallee 1 = .ok (.iload_n 1, 1) := by decide +kernel
theorem dX8_blockedCallee_2 : decode cX8_blockedCallee 2 = .ok (.iconst 1, 1) := by decide +kernel
theorem dX8_blockedCallee_3 : decode cX8_blockedCallee 3 = .ok (.invokevirtual 239, 3) := by decide +kernel
theorem dX8_blockedCallee_6 : decode cX8_blockedCallee 6 = .ok (.ireturn, 1) := by decide +kernel
theorem dX8_blockedReason_0 : decode cX8_blockedReason 0 = .ok (.aload_n 0, 1) := by decide +kernel
theorem dX8_blockedReason_1 : decode cX8_blockedReason 1 = .ok (.iload_n 1, 1) := by decide +kernel
theorem dX8_blockedReason_2 : decode cX8_blockedReason 2 = .ok (.iconst 2, 1) := by decide +kernel
theorem dX8_blockedReason_3 : decode cX8_blockedReason 3 = .ok (.invokevirtual 239, 3) := by decide +kernel
theorem dX8_blockedReason_6 : decode cX8_blockedReason 6 = .ok (.istore_n 2, 1) := by decide +kernel
theorem dX8_blockedReason_7 : decode cX8_blockedReason 7 = .ok (.aload_n 0, 1) := by decide +kernel
theorem dX8_blockedReason_8 : decode cX8_blockedReason 8 = .ok (.getfield 34, 3) := by decide +kernel
theorem dX8_blockedReason_11 : decode cX8_blockedReason 11 = .ok (.ifCond .le 8, 3) := by decide +kernel
theorem dX8_blockedReason_14 : decode cX8_blockedReason 14 = .ok (.bipush 32, 2) := by decide +kernel
theorem dX8_blockedReason_16 : decode cX8_blockedReason 16 = .ok (.goto 5, 3) := by decide +kernel
theorem dX8_blockedReason_19 : decode cX8_blockedReason 19 = .ok (.iload_n 2, 1) := by decide +kernel
theorem dX8_blockedReason_20 : decode cX8_blockedReason 20 = .ok (.i2c, 1) := by decide +kernel
theorem dX8_blockedReason_21 : decode cX8_blockedReason 21 = .ok (.ireturn, 1) := by decide +kernel
theorem dX8_totalBills_0 : decode cX8_totalBills 0 = .ok (.aload_n 0, 1) := by decide +kernel
theorem dX8_totalBills_1 : decode cX8_totalBills 1 = .ok (.aload_n 0, 1) := by decide +kernel
theorem dX8_totalBills_2 : decode cX8_totalBills 2 = .ok (.getfield 7, 3) := by decide +kernel
theorem dX8_totalBills_5 : decode cX8_totalBills 5 = .ok (.iconst 5, 1) := by decide +kernel
theorem dX8_totalBills_6 : decode cX8_totalBills 6 = .ok (.iaload, 1) := by decide +kernel
theorem dX8_totalBills_7 : decode cX8_totalBills 7 = .ok (.invokevirtual 217, 3) := by decide +kernel
theorem dX8_totalBills_10 : decode cX8_totalBills 10 = .ok (.i2l, 1) := by decide +kernel
theorem dX8_totalBills_11 : decode cX8_totalBills 11 = .ok (.lreturn, 1) := by decide +kernel
theorem dX8_totalCharges_0 : decode cX8_totalCharges 0 = .ok (.aload_n 0, 1) := by decide +kernel
theorem dX8_totalCharges_1 : decode cX8_totalCharges 1 = .ok (.aload_n 0, 1) := by decide +kernel
theorem dX8_totalCharges_2 : decode cX8_totalCharges 2 = .ok (.getfield 7, 3) := by decide +kernel
theorem dX8_totalCharges_5 : decode cX8_totalCharges 5 = .ok (.iconst 5, 1) := by decide +kernel
theorem dX8_totalCharges_6 : decode cX8_totalCharges 6 = .ok (.iaload, 1) := by decide +kernel
theorem dX8_totalCharges_7 : decode cX8_totalCharges 7 = .ok (.invokevirtual 217, 3) := by decide +kernel
theorem dX8_totalCharges_10 : decode cX8_totalCharges 10 = .ok (.i2l, 1) := by decide +kernel
theorem dX8_totalCharges_11 : decode cX8_totalCharges 11 = .ok (.lreturn, 1) := by decide +kernel
theorem dX8_subscriberByBill_0 : decode cX8_subscriberByBill 0 = .ok (.aload_n 0, 1) := by decide +kernel
theorem dX8_subscriberByBill_1 : decode cX8_subscriberByBill 1 = .ok (.iconst 0, 1) := by decide +kernel
theorem dX8_subscriberByBill_2 : decode cX8_subscriberByBill 2 = .ok (.putfield 34, 3) := by decide +kernel
theorem dX8_subscriberByBill_5 : decode cX8_subscriberByBill 5 = .ok (.iconst 0, 1) := by decide +kernel
theorem dX8_subscriberByBill_6 : decode cX8_subscriberByBill 6 = .ok (.istore_n 2, 1) := by decide +kernel
theorem dX8_subscriberByBill_7 : decode cX8_subscriberByBill 7 = .ok (.iload_n 2, 1) := by decide +kernel
theorem dX8_subscriberByBill_8 : decode cX8_subscriberByBill 8 = .ok (.aload_n 0, 1) := by decide +kernel
theorem dX8_subscriberByBill_9 : decode cX8_subscriberByBill 9 = .ok (.getfield 7, 3) := by decide +kernel
theorem dX8_subscriberByBill_12 : decode cX8_subscriberByBill 12 = .ok (.iconst 2, 1) := by decide +kernel
theorem dX8_subscriberByBill_13 : decode cX8_subscriberByBill 13 = .ok (.iaload, 1) := by decide +kernel
theorem dX8_subscriberByBill_14 : decode cX8_subscriberByBill 14 = .ok (.if_icmp .ge 84, 3) := by decide +kernel
theorem dX8_subscriberByBill_17 : decode cX8_subscriberByBill 17 = .ok (.iconst 0, 1) := by decide +kernel
theorem dX8_subscriberByBill_18 : decode cX8_subscriberByBill 18 = .ok (.istore_n 3, 1) := by decide +kernel
theorem dX8_subscriberByBill_19 : decode cX8_subscriberByBill 19 = .ok (.iconst 0, 1) := by decide +kernel
theorem dX8_subscriberByBill_20 : decode cX8_subscriberByBill 20 = .ok (.istore 4, 2) := by decide +kernel
theorem dX8_subscriberByBill_22 : decode cX8_subscriberByBill 22 = .ok (.iload 4, 2) := by decide +kernel
theorem dX8_subscriberByBill_24 : decode cX8_subscriberByBill 24 = .ok (.aload_n 0, 1) := by decide +kernel
theorem dX8_subscriberByBill_25 : decode cX8_subscriberByBill 25 = .ok (.getfield 7, 3) := by decide +kernel
theorem dX8_subscriberByBill_28 : decode cX8_subscriberByBill 28 = .ok (.iconst 2, 1) := by decide +kernel
theorem dX8_subscriberByBill_29 : decode cX8_subscriberByBill 29 = .ok (.iaload, 1) := by decide +kernel
theorem dX8_subscriberByBill_30 : decode cX8_subscriberByBill 30 = .ok (.if_icmp .ge 55, 3) := by decide +kernel
theorem dX8_subscriberByBill_33 : decode cX8_subscriberByBill 33 = .ok (.iload_n 3, 1) := by decide +kernel
theorem dX8_subscriberByBill_34 : decode cX8_subscriberByBill 34 = .ok (.aload_n 0, 1) := by decide +kernel
theorem dX8_subscriberByBill_35 : decode cX8_subscriberByBill 35 = .ok (.iload 4, 2) := by decide +kernel
theorem dX8_subscriberByBill_37 : decode cX8_subscriberByBill 37 = .ok (.iconst 2, 1) := by decide +kernel
theorem dX8_subscriberByBill_38 : decode cX8_subscriberByBill 38 = .ok (.invokevirtual 163, 3) := by decide +kernel
theorem dX8_subscriberByBill_41 : decode cX8_subscriberByBill 41 = .ok (.aload_n 0, 1) := by decide +kernel
theorem dX8_subscriberByBill_42 : decode cX8_subscriberByBill 42 = .ok (.iload_n 2, 1) := by decide +kernel
theorem dX8_subscriberByBill_43 : decode cX8_subscriberByBill 43 = .ok (.iconst 2, 1) := by decide +kernel
theorem dX8_subscriberByBill_44 : decode cX8_subscriberByBill 44 = .ok (.invokevirtual 163, 3) := by decide +kernel
theorem dX8_subscriberByBill_47 : decode cX8_subscriberByBill 47 = .ok (.if_icmp .gt 25, 3) := by decide +kernel
theorem dX8_subscriberByBill_50 : decode cX8_subscriberByBill 50 = .ok (.aload_n 0, 1) := by decide +kernel
theorem dX8_subscriberByBill_51 : decode cX8_subscriberByBill 51 = .ok (.iload 4, 2) := by decide +kernel
theorem dX8_subscriberByBill_53 : decode cX8_subscriberByBill 53 = .ok (.iconst 2, 1) := by decide +kernel
theorem dX8_subscriberByBill_54 : decode cX8_subscriberByBill 54 = .ok (.invokevirtual 163, 3) := by decide +kernel
theorem dX8_subscriberByBill_57 : decode cX8_subscriberByBill 57 = .ok (.aload_n 0, 1) := by decide +kernel
theorem dX8_subscriberByBill_58 : decode cX8_subscriberByBill 58 = .ok (.iload_n 2, 1) := by decide +kernel
theorem dX8_subscriberByBill_59 : decode cX8_subscriberByBill 59 = .ok (.iconst 2, 1) := by decide +kernel
theorem dX8_subscriberByBill_60 : decode cX8_subscriberByBill 60 = .ok (.invokevirtual 163, 3) := by decide +kernel
theorem dX8_subscriberByBill_63 : decode cX8_subscriberByBill 63 = .ok (.if_icmp .ne 13, 3) := by decide +kernel
theorem dX8_subscriberByBill_66 : decode cX8_subscriberByBill 66 = .ok (.iload 4, 2) := by decide +kernel
theorem dX8_subscriberByBill_68 : decode cX8_subscriberByBill 68 = .ok (.iload_n 2, 1) := by decide +kernel
theorem dX8_subscriberByBill_69 : decode cX8_subscriberByBill 69 = .ok (.if_icmp .ge 7, 3) := by decide +kernel
theorem dX8_subscriberByBill_72 : decode cX8_subscriberByBill 72 = .ok (.iconst 1, 1) := by decide +kernel
theorem dX8_subscriberByBill_73 : decode cX8_subscriberByBill 73 = .ok (.goto 4, 3) := by decide +kernel
theorem dX8_subscriberByBill_76 : decode cX8_subscriberByBill 76 = .ok (.iconst 0, 1) := by decide +kernel
theorem dX8_subscriberByBill_77 : decode cX8_subscriberByBill 77 = .ok (.iadd, 1) := by decide +kernel
theorem dX8_subscriberByBill_78 : decode cX8_subscriberByBill 78 = .ok (.istore_n 3, 1) := by decide +kernel
theorem dX8_subscriberByBill_79 : decode cX8_subscriberByBill 79 = .ok (.iinc 4 1, 3) := by decide +kernel
theorem dX8_subscriberByBill_82 : decode cX8_subscriberByBill 82 = .ok (.goto (-60), 3) := by decide +kernel
theorem dX8_subscriberByBill_85 : decode cX8_subscriberByBill 85 = .ok (.iload_n 3, 1) := by decide +kernel
theorem dX8_subscriberByBill_86 : decode cX8_subscriberByBill 86 = .ok (.iload_n 1, 1) := by decide +kernel
theorem dX8_subscriberByBill_87 : decode cX8_subscriberByBill 87 = .ok (.if_icmp .ne 5, 3) := by decide +kernel
theorem dX8_subscriberByBill_90 : decode cX8_subscriberByBill 90 = .ok (.iload_n 2, 1) := by decide +kernel
theorem dX8_subscriberByBill_91 : decode cX8_subscriberByBill 91 = .ok (.ireturn, 1) := by decide +kernel
theorem dX8_subscriberByBill_92 : decode cX8_subscriberByBill 92 = .ok (.iinc 2 1, 3) := by decide +kernel
theorem dX8_subscriberByBill_95 : decode cX8_subscriberByBill 95 = .ok (.goto (-88), 3) := by decide +kernel
theorem dX8_subscriberByBill_98 : decode cX8_subscriberByBill 98 = .ok (.aload_n 0, 1) := by decide +kernel
theorem dX8_subscriberByBill_99 : decode cX8_subscriberByBill 99 = .ok (.iconst 1, 1) := by decide +kernel
theorem dX8_subscriberByBill_100 : decode cX8_subscriberByBill 100 = .ok (.invokevirtual 106, 3) := by decide +kernel
theorem dX8_subscriberByBill_103 : decode cX8_subscriberByBill 103 = .ok (.ireturn, 1) := by decide +kernel
theorem dX8_meanCharge_0 : decode cX8_meanCharge 0 = .ok (.aload_n 0, 1) := by decide +kernel
theorem dX8_meanCharge_1 : decode cX8_meanCharge 1 = .ok (.aload_n 0, 1) := by decide +kernel
theorem dX8_meanCharge_2 : decode cX8_meanCharge 2 = .ok (.getfield 7, 3) := by decide +kernel
theorem dX8_meanCharge_5 : decode cX8_meanCharge 5 = .ok (.iconst 4, 1) := by decide +kernel
theorem dX8_meanCharge_6 : decode cX8_meanCharge 6 = .ok (.iaload, 1) := by decide +kernel
theorem dX8_meanCharge_7 : decode cX8_meanCharge 7 = .ok (.ifCond .le 7, 3) := by decide +kernel
theorem dX8_meanCharge_10 : decode cX8_meanCharge 10 = .ok (.iconst 1, 1) := by decide +kernel
theorem dX8_meanCharge_11 : decode cX8_meanCharge 11 = .ok (.goto 4, 3) := by decide +kernel
theorem dX8_meanCharge_14 : decode cX8_meanCharge 14 = .ok (.iconst 0, 1) := by decide +kernel
theorem dX8_meanCharge_15 : decode cX8_meanCharge 15 = .ok (.invokevirtual 220, 3) := by decide +kernel
theorem dX8_meanCharge_18 : decode cX8_meanCharge 18 = .ok (.ifCond .le 7, 3) := by decide +kernel
theorem dX8_meanCharge_21 : decode cX8_meanCharge 21 = .ok (.dconst 0, 1) := by decide +kernel
theorem dX8_meanCharge_22 : decode cX8_meanCharge 22 = .ok (.goto 18, 3) := by decide +kernel
theorem dX8_meanCharge_25 : decode cX8_meanCharge 25 = .ok (.aload_n 0, 1) := by decide +kernel
theorem dX8_meanCharge_26 : decode cX8_meanCharge 26 = .ok (.getfield 7, 3) := by decide +kernel
theorem dX8_meanCharge_29 : decode cX8_meanCharge 29 = .ok (.iconst 5, 1) := by decide +kernel
theorem dX8_meanCharge_30 : decode cX8_meanCharge 30 = .ok (.iaload, 1) := by decide +kernel
theorem dX8_meanCharge_31 : decode cX8_meanCharge 31 = .ok (.i2d, 1) := by decide +kernel
theorem dX8_meanCharge_32 : decode cX8_meanCharge 32 = .ok (.aload_n 0, 1) := by decide +kernel
theorem dX8_meanCharge_33 : decode cX8_meanCharge 33 = .ok (.getfield 7, 3) := by decide +kernel
theorem dX8_meanCharge_36 : decode cX8_meanCharge 36 = .ok (.iconst 4, 1) := by decide +kernel
theorem dX8_meanCharge_37 : decode cX8_meanCharge 37 = .ok (.iaload, 1) := by decide +kernel
theorem dX8_meanCharge_38 : decode cX8_meanCharge 38 = .ok (.i2d, 1) := by decide +kernel
theorem dX8_meanCharge_39 : decode cX8_meanCharge 39 = .ok (.ddiv, 1) := by decide +kernel
theorem dX8_meanCharge_40 : decode cX8_meanCharge 40 = .ok (.dreturn, 1) := by decide +kernel
theorem dX8_usedShare_0 : decode cX8_usedShare 0 = .ok (.aload_n 0, 1) := by decide +kernel
theorem dX8_usedShare_1 : decode cX8_usedShare 1 = .ok (.aload_n 0, 1) := by decide +kernel
theorem dX8_usedShare_2 : decode cX8_usedShare 2 = .ok (.getfield 7, 3) := by decide +kernel
theorem dX8_usedShare_5 : decode cX8_usedShare 5 = .ok (.iconst 1, 1) := by decide +kernel
theorem dX8_usedShare_6 : decode cX8_usedShare 6 = .ok (.iaload, 1) := by decide +kernel
theorem dX8_usedShare_7 : decode cX8_usedShare 7 = .ok (.ifCond .le 7, 3) := by decide +kernel
theorem dX8_usedShare_10 : decode cX8_usedShare 10 = .ok (.iconst 1, 1) := by decide +kernel
theorem dX8_usedShare_11 : decode cX8_usedShare 11 = .ok (.goto 4, 3) := by decide +kernel
theorem dX8_usedShare_14 : decode cX8_usedShare 14 = .ok (.iconst 0, 1) := by decide +kernel
theorem dX8_usedShare_15 : decode cX8_usedShare 15 = .ok (.invokevirtual 220, 3) := by decide +kernel
theorem dX8_usedShare_18 : decode cX8_usedShare 18 = .ok (.ifCond .le 5, 3) := by decide +kernel
theorem dX8_usedShare_21 : decode cX8_usedShare 21 = .ok (.fconst 0, 1) := by decide +kernel
theorem dX8_usedShare_22 : decode cX8_usedShare 22 = .ok (.freturn, 1) := by decide +kernel
theorem dX8_usedShare_23 : decode cX8_usedShare 23 = .ok (.iconst 0, 1) := by decide +kernel
theorem dX8_usedShare_24 : decode cX8_usedShare 24 = .ok (.istore_n 1, 1) := by decide +kernel
theorem dX8_usedShare_25 : decode cX8_usedShare 25 = .ok (.iconst 0, 1) := by decide +kernel
theorem dX8_usedShare_26 : decode cX8_usedShare 26 = .ok (.istore_n 2, 1) := by decide +kernel
theorem dX8_usedShare_27 : decode cX8_usedShare 27 = .ok (.iload_n 2, 1) := by decide +kernel
theorem dX8_usedShare_28 : decode cX8_usedShare 28 = .ok (.aload_n 0, 1) := by decide +kernel
theorem dX8_usedShare_29 : decode cX8_usedShare 29 = .ok (.getfield 7, 3) := by decide +kernel
theorem dX8_usedShare_32 : decode cX8_usedShare 32 = .ok (.iconst 1, 1) := by decide +kernel
theorem dX8_usedShare_33 : decode cX8_usedShare 33 = .ok (.iaload, 1) := by decide +kernel
theorem dX8_usedShare_34 : decode cX8_usedShare 34 = .ok (.if_icmp .ge 25, 3) := by decide +kernel
theorem dX8_usedShare_37 : decode cX8_usedShare 37 = .ok (.iload_n 1, 1) := by decide +kernel
theorem dX8_usedShare_38 : decode cX8_usedShare 38 = .ok (.aload_n 0, 1) := by decide +kernel
theorem dX8_usedShare_39 : decode cX8_usedShare 39 = .ok (.iload_n 2, 1) := by decide +kernel
theorem dX8_usedShare_40 : decode cX8_usedShare 40 = .ok (.invokevirtual 138, 3) := by decide +kernel
theorem dX8_usedShare_43 : decode cX8_usedShare 43 = .ok (.ifCond .lt 7, 3) := by decide +kernel
theorem dX8_usedShare_46 : decode cX8_usedShare 46 = .ok (.iconst 1, 1) := by decide +kernel
theorem dX8_usedShare_47 : decode cX8_usedShare 47 = .ok (.goto 4, 3) := by decide +kernel
theorem dX8_usedShare_50 : decode cX8_usedShare 50 = .ok (.iconst 0, 1) := by decide +kernel
theorem dX8_usedShare_51 : decode cX8_usedShare 51 = .ok (.iadd, 1) := by decide +kernel
theorem dX8_usedShare_52 : decode cX8_usedShare 52 = .ok (.istore_n 1, 1) := by decide +kernel
theorem dX8_usedShare_53 : decode cX8_usedShare 53 = .ok (.iinc 2 1, 3) := by decide +kernel
theorem dX8_usedShare_56 : decode cX8_usedShare 56 = .ok (.goto (-29), 3) := by decide +kernel
theorem dX8_usedShare_59 : decode cX8_usedShare 59 = .ok (.iload_n 1, 1) := by decide +kernel
theorem dX8_usedShare_60 : decode cX8_usedShare 60 = .ok (.i2f, 1) := by decide +kernel
theorem dX8_usedShare_61 : decode cX8_usedShare 61 = .ok (.aload_n 0, 1) := by decide +kernel
theorem dX8_usedShare_62 : decode cX8_usedShare 62 = .ok (.getfield 7, 3) := by decide +kernel
theorem dX8_usedShare_65 : decode cX8_usedShare 65 = .ok (.iconst 1, 1) := by decide +kernel
theorem dX8_usedShare_66 : decode cX8_usedShare 66 = .ok (.iaload, 1) := by decide +kernel
theorem dX8_usedShare_67 : decode cX8_usedShare 67 = .ok (.i2f, 1) := by decide +kernel
theorem dX8_usedShare_68 : decode cX8_usedShare 68 = .ok (.fdiv, 1) := by decide +kernel
theorem dX8_usedShare_69 : decode cX8_usedShare 69 = .ok (.freturn, 1) := by decide +kernel
theorem dX8_isConsistent_0 : decode cX8_isConsistent 0 = .ok (.aload_n 0, 1) := by decide +kernel
theorem dX8_isConsistent_1 : decode cX8_isConsistent 1 = .ok (.iconst 1, 1) := by decide +kernel
theorem dX8_isConsistent_2 : decode cX8_isConsistent 2 = .ok (.invokevirtual 217, 3) := by decide +kernel
theorem dX8_isConsistent_5 : decode cX8_isConsistent 5 = .ok (.iconst 1, 1) := by decide +kernel
theorem dX8_isConsistent_6 : decode cX8_isConsistent 6 = .ok (.if_icmp .ne 7, 3) := by decide +kernel
theorem dX8_isConsistent_9 : decode cX8_isConsistent 9 = .ok (.iconst 1, 1) := by decide +kernel
theorem dX8_isConsistent_10 : decode cX8_isConsistent 10 = .ok (.goto 4, 3) := by decide +kernel
theorem dX8_isConsistent_13 : decode cX8_isConsistent 13 = .ok (.iconst 0, 1) := by decide +kernel
theorem dX8_isConsistent_14 : decode cX8_isConsistent 14 = .ok (.ireturn, 1) := by decide +kernel
theorem dX8_write_0 : decode cX8_write 0 = .ok (.aload_n 0, 1) := by decide +kernel
theorem dX8_write_1 : decode cX8_write 1 = .ok (.getfield 57, 3) := by decide +kernel
theorem dX8_write_4 : decode cX8_write 4 = .ok (.aload_n 0, 1) := by decide +kernel
theorem dX8_write_5 : decode cX8_write 5 = .ok (.getfield 60, 3) := by decide +kernel
theorem dX8_write_8 : decode cX8_write 8 = .ok (.iload_n 1, 1) := by decide +kernel
theorem dX8_write_9 : decode cX8_write 9 = .ok (.iastore, 1) := by decide +kernel
theorem dX8_write_10 : decode cX8_write 10 = .ok (.aload_n 0, 1) := by decide +kernel
theorem dX8_write_11 : decode cX8_write 11 = .ok (.dup, 1) := by decide +kernel
theorem dX8_write_12 : decode cX8_write 12 = .ok (.getfield 60, 3) := by decide +kernel
theorem dX8_write_15 : decode cX8_write 15 = .ok (.iconst 1, 1) := by decide +kernel
theorem dX8_write_16 : decode cX8_write 16 = .ok (.iadd, 1) := by decide +kernel
theorem dX8_write_17 : decode cX8_write 17 = .ok (.putfield 60, 3) := by decide +kernel
theorem dX8_write_20 : decode cX8_write 20 = .ok (.return_, 1) := by decide +kernel
theorem dX8_writeNumber_0 : decode cX8_writeNumber 0 = .ok (.iconst 1, 1) := by decide +kernel
theorem dX8_writeNumber_1 : decode cX8_writeNumber 1 = .ok (.istore_n 2, 1) := by decide +kernel
theorem dX8_writeNumber_2 : decode cX8_writeNumber 2 = .ok (.iload_n 1, 1) := by decide +kernel
theorem dX8_writeNumber_3 : decode cX8_writeNumber 3 = .ok (.iload_n 2, 1) := by decide +kernel
theorem dX8_writeNumber_4 : decode cX8_writeNumber 4 = .ok (.idiv, 1) := by decide +kernel
theorem dX8_writeNumber_5 : decode cX8_writeNumber 5 = .ok (.bipush 9, 2) := by decide +kernel
theorem dX8_writeNumber_7 : decode cX8_writeNumber 7 = .ok (.if_icmp .le 11, 3) := by decide +kernel
theorem dX8_writeNumber_10 : decode cX8_writeNumber 10 = .ok (.iload_n 2, 1) := by decide +kernel
theorem dX8_writeNumber_11 : decode cX8_writeNumber 11 = .ok (.bipush 10, 2) := by decide +kernel
theorem dX8_writeNumber_13 : decode cX8_writeNumber 13 = .ok (.imul, 1) := by decide +kernel
theorem dX8_writeNumber_14 : decode cX8_writeNumber 14 = .ok (.istore_n 2, 1) := by decide +kernel
theorem dX8_writeNumber_15 : decode cX8_writeNumber 15 = .ok (.goto (-13), 3) := by decide +kernel
theorem dX8_writeNumber_18 : decode cX8_writeNumber 18 = .ok (.iload_n 2, 1) := by decide +kernel
theorem dX8_writeNumber_19 : decode cX8_writeNumber 19 = .ok (.ifCond .le 24, 3) := by decide +kernel
theorem dX8_writeNumber_22 : decode cX8_writeNumber 22 = .ok (.aload_n 0, 1) := by decide +kernel
theorem dX8_writeNumber_23 : decode cX8_writeNumber 23 = .ok (.bipush 48, 2) := by decide +kernel
theorem dX8_writeNumber_25 : decode cX8_writeNumber 25 = .ok (.iload_n 1, 1) := by decide +kernel
theorem dX8_writeNumber_26 : decode cX8_writeNumber 26 = .ok (.iload_n 2, 1) := by decide +kernel
theorem dX8_writeNumber_27 : decode cX8_writeNumber 27 = .ok (.idiv, 1) := by decide +kernel
theorem dX8_writeNumber_28 : decode cX8_writeNumber 28 = .ok (.bipush 10, 2) := by decide +kernel
theorem dX8_writeNumber_30 : decode cX8_writeNumber 30 = .ok (.irem, 1) := by decide +kernel
theorem dX8_writeNumber_31 : decode cX8_writeNumber 31 = .ok (.iadd, 1) := by decide +kernel
theorem dX8_writeNumber_32 : decode cX8_writeNumber 32 = .ok (.invokevirtual 242, 3) := by decide +kernel
theorem dX8_writeNumber_35 : decode cX8_writeNumber 35 = .ok (.iload_n 2, 1) := by decide +kernel
theorem dX8_writeNumber_36 : decode cX8_writeNumber 36 = .ok (.bipush 10, 2) := by decide +kernel
theorem dX8_writeNumber_38 : decode cX8_writeNumber 38 = .ok (.idiv, 1) := by decide +kernel
theorem dX8_writeNumber_39 : decode cX8_writeNumber 39 = .ok (.istore_n 2, 1) := by decide +kernel
theorem dX8_writeNumber_40 : decode cX8_writeNumber 40 = .ok (.goto (-22), 3) := by decide +kernel
theorem dX8_writeNumber_43 : decode cX8_writeNumber 43 = .ok (.return_, 1) := by decide +kernel
theorem dX8_writeTrunk_0 : decode cX8_writeTrunk 0 = .ok (.aload_n 0, 1) := by decide +kernel
theorem dX8_writeTrunk_1 : decode cX8_writeTrunk 1 = .ok (.aload_n 0, 1) := by decide +kernel
theorem dX8_writeTrunk_2 : decode cX8_writeTrunk 2 = .ok (.iload_n 1, 1) := by decide +kernel
theorem dX8_writeTrunk_3 : decode cX8_writeTrunk 3 = .ok (.invokevirtual 172, 3) := by decide +kernel
theorem dX8_writeTrunk_6 : decode cX8_writeTrunk 6 = .ok (.invokevirtual 220, 3) := by decide +kernel
theorem dX8_writeTrunk_9 : decode cX8_writeTrunk 9 = .ok (.ifCond .le 5, 3) := by decide +kernel
theorem dX8_writeTrunk_12 : decode cX8_writeTrunk 12 = .ok (.iconst 0, 1) := by decide +kernel
theorem dX8_writeTrunk_13 : decode cX8_writeTrunk 13 = .ok (.ireturn, 1) := by decide +kernel
theorem dX8_writeTrunk_14 : decode cX8_writeTrunk 14 = .ok (.aload_n 0, 1) := by decide +kernel
theorem dX8_writeTrunk_15 : decode cX8_writeTrunk 15 = .ok (.iconst 0, 1) := by decide +kernel
theorem dX8_writeTrunk_16 : decode cX8_writeTrunk 16 = .ok (.putfield 60, 3) := by decide +kernel
theorem dX8_writeTrunk_19 : decode cX8_writeTrunk 19 = .ok (.aload_n 0, 1) := by decide +kernel
theorem dX8_writeTrunk_20 : decode cX8_writeTrunk 20 = .ok (.iload_n 1, 1) := by decide +kernel
theorem dX8_writeTrunk_21 : decode cX8_writeTrunk 21 = .ok (.iconst 0, 1) := by decide +kernel
theorem dX8_writeTrunk_22 : decode cX8_writeTrunk 22 = .ok (.invokevirtual 141, 3) := by decide +kernel
theorem dX8_writeTrunk_25 : decode cX8_writeTrunk 25 = .ok (.aload_n 0, 1) := by decide +kernel
theorem dX8_writeTrunk_26 : decode cX8_writeTrunk 26 = .ok (.iload_n 1, 1) := by decide +kernel
theorem dX8_writeTrunk_27 : decode cX8_writeTrunk 27 = .ok (.iconst 1, 1) := by decide +kernel
theorem dX8_writeTrunk_28 : decode cX8_writeTrunk 28 = .ok (.invokevirtual 141, 3) := by decide +kernel
theorem dX8_writeTrunk_31 : decode cX8_writeTrunk 31 = .ok (.if_icmp .ge 12, 3) := by decide +kernel
theorem dX8_writeTrunk_34 : decode cX8_writeTrunk 34 = .ok (.aload_n 0, 1) := by decide +kernel
theorem dX8_writeTrunk_35 : decode cX8_writeTrunk 35 = .ok (.iload_n 1, 1) := by decide +kernel
theorem dX8_writeTrunk_36 : decode cX8_writeTrunk 36 = .ok (.iconst 0, 1) := by decide +kernel
theorem dX8_writeTrunk_37 : decode cX8_writeTrunk 37 = .ok (.invokevirtual 141, 3) := by decide +kernel
theorem dX8_writeTrunk_40 : decode cX8_writeTrunk 40 = .ok (.goto 9, 3) := by decide +kernel
theorem dX8_writeTrunk_43 : decode cX8_writeTrunk 43 = .ok (.aload_n 0, 1) := by decide +kernel
theorem dX8_writeTrunk_44 : decode cX8_writeTrunk 44 = .ok (.iload_n 1, 1) := by decide +kernel
theorem dX8_writeTrunk_45 : decode cX8_writeTrunk 45 = .ok (.iconst 1, 1) := by decide +kernel
theorem dX8_writeTrunk_46 : decode cX8_writeTrunk 46 = .ok (.invokevirtual 141, 3) := by decide +kernel
theorem dX8_writeTrunk_49 : decode cX8_writeTrunk 49 = .ok (.istore_n 2, 1) := by decide +kernel
theorem dX8_writeTrunk_50 : decode cX8_writeTrunk 50 = .ok (.aload_n 0, 1) := by decide +kernel
theorem dX8_writeTrunk_51 : decode cX8_writeTrunk 51 = .ok (.iload_n 2, 1) := by decide +kernel
theorem dX8_writeTrunk_52 : decode cX8_writeTrunk 52 = .ok (.invokevirtual 245, 3) := by decide +kernel
theorem dX8_writeTrunk_55 : decode cX8_writeTrunk 55 = .ok (.aload_n 0, 1) := by decide +kernel
theorem dX8_writeTrunk_56 : decode cX8_writeTrunk 56 = .ok (.bipush 45, 2) := by decide +kernel
theorem dX8_writeTrunk_58 : decode cX8_writeTrunk 58 = .ok (.invokevirtual 242, 3) := by decide +kernel
theorem dX8_writeTrunk_61 : decode cX8_writeTrunk 61 = .ok (.aload_n 0, 1) := by decide +kernel
theorem dX8_writeTrunk_62 : decode cX8_writeTrunk 62 = .ok (.aload_n 0, 1) := by decide +kernel
theorem dX8_writeTrunk_63 : decode cX8_writeTrunk 63 = .ok (.iload_n 1, 1) := by decide +kernel
theorem dX8_writeTrunk_64 : decode cX8_writeTrunk 64 = .ok (.iload_n 2, 1) := by decide +kernel
theorem dX8_writeTrunk_65 : decode cX8_writeTrunk 65 = .ok (.invokevirtual 144, 3) := by decide +kernel
theorem dX8_writeTrunk_68 : decode cX8_writeTrunk 68 = .ok (.invokevirtual 245, 3) := by decide +kernel
theorem dX8_writeTrunk_71 : decode cX8_writeTrunk 71 = .ok (.aload_n 0, 1) := by decide +kernel
theorem dX8_writeTrunk_72 : decode cX8_writeTrunk 72 = .ok (.bipush 61, 2) := by decide +kernel
theorem dX8_writeTrunk_74 : decode cX8_writeTrunk 74 = .ok (.invokevirtual 242, 3) := by decide +kernel
theorem dX8_writeTrunk_77 : decode cX8_writeTrunk 77 = .ok (.aload_n 0, 1) := by decide +kernel
theorem dX8_writeTrunk_78 : decode cX8_writeTrunk 78 = .ok (.aload_n 0, 1) := by decide +kernel
theorem dX8_writeTrunk_79 : decode cX8_writeTrunk 79 = .ok (.iload_n 1, 1) := by decide +kernel
theorem dX8_writeTrunk_80 : decode cX8_writeTrunk 80 = .ok (.iconst 2, 1) := by decide +kernel
theorem dX8_writeTrunk_81 : decode cX8_writeTrunk 81 = .ok (.invokevirtual 141, 3) := by decide +kernel
theorem dX8_writeTrunk_84 : decode cX8_writeTrunk 84 = .ok (.invokevirtual 245, 3) := by decide +kernel
theorem dX8_writeTrunk_87 : decode cX8_writeTrunk 87 = .ok (.aload_n 0, 1) := by decide +kernel
theorem dX8_writeTrunk_88 : decode cX8_writeTrunk 88 = .ok (.iload_n 1, 1) := by decide +kernel
theorem dX8_writeTrunk_89 : decode cX8_writeTrunk 89 = .ok (.iconst 3, 1) := by decide +kernel
theorem dX8_writeTrunk_90 : decode cX8_writeTrunk 90 = .ok (.invokevirtual 141, 3) := by decide +kernel
theorem dX8_writeTrunk_93 : decode cX8_writeTrunk 93 = .ok (.iconst 1, 1) := by decide +kernel
theorem dX8_writeTrunk_94 : decode cX8_writeTrunk 94 = .ok (.if_icmp .ne 12, 3) := by decide +kernel
theorem dX8_writeTrunk_97 : decode cX8_writeTrunk 97 = .ok (.aload_n 0, 1) := by decide +kernel
theorem dX8_writeTrunk_98 : decode cX8_writeTrunk 98 = .ok (.bipush 120, 2) := by decide +kernel
theorem dX8_writeTrunk_100 : decode cX8_writeTrunk 100 = .ok (.invokevirtual 242, 3) := by decide +kernel
theorem dX8_writeTrunk_103 : decode cX8_writeTrunk 103 = .ok (.goto 17, 3) := by decide +kernel
theorem dX8_writeTrunk_106 : decode cX8_writeTrunk 106 = .ok (.aload_n 0, 1) := by decide +kernel
theorem dX8_writeTrunk_107 : decode cX8_writeTrunk 107 = .ok (.iload_n 1, 1) := by decide +kernel
theorem dX8_writeTrunk_108 : decode cX8_writeTrunk 108 = .ok (.invokevirtual 138, 3) := by decide +kernel
theorem dX8_writeTrunk_111 : decode cX8_writeTrunk 111 = .ok (.ifCond .lt 9, 3) := by decide +kernel
theorem dX8_writeTrunk_114 : decode cX8_writeTrunk 114 = .ok (.aload_n 0, 1) := by decide +kernel
theorem dX8_writeTrunk_115 : decode cX8_writeTrunk 115 = .ok (.bipush 42, 2) := by decide +kernel
theorem dX8_writeTrunk_117 : decode cX8_writeTrunk 117 = .ok (.invokevirtual 242, 3) := by decide +kernel
theorem dX8_writeTrunk_120 : decode cX8_writeTrunk 120 = .ok (.aload_n 0, 1) := by decide +kernel
theorem dX8_writeTrunk_121 : decode cX8_writeTrunk 121 = .ok (.getfield 60, 3) := by decide +kernel
theorem dX8_writeTrunk_124 : decode cX8_writeTrunk 124 = .ok (.ireturn, 1) := by decide +kernel
theorem dX8_writeCalls_0 : decode cX8_writeCalls 0 = .ok (.aload_n 0, 1) := by decide +kernel
theorem dX8_writeCalls_1 : decode cX8_writeCalls 1 = .ok (.iconst 0, 1) := by decide +kernel
theorem dX8_writeCalls_2 : decode cX8_writeCalls 2 = .ok (.putfield 34, 3) := by decide +kernel
theorem dX8_writeCalls_5 : decode cX8_writeCalls 5 = .ok (.aload_n 0, 1) := by decide +kernel
theorem dX8_writeCalls_6 : decode cX8_writeCalls 6 = .ok (.iconst 0, 1) := by decide +kernel
theorem dX8_writeCalls_7 : decode cX8_writeCalls 7 = .ok (.putfield 60, 3) := by decide +kernel
theorem dX8_writeCalls_10 : decode cX8_writeCalls 10 = .ok (.iconst 0, 1) := by decide +kernel
theorem dX8_writeCalls_11 : decode cX8_writeCalls 11 = .ok (.istore_n 1, 1) := by decide +kernel
theorem dX8_writeCalls_12 : decode cX8_writeCalls 12 = .ok (.iload_n 1, 1) := by decide +kernel
theorem dX8_writeCalls_13 : decode cX8_writeCalls 13 = .ok (.aload_n 0, 1) := by decide +kernel
theorem dX8_writeCalls_14 : decode cX8_writeCalls 14 = .ok (.getfield 7, 3) := by decide +kernel
theorem dX8_writeCalls_17 : decode cX8_writeCalls 17 = .ok (.iconst 3, 1) := by decide +kernel
theorem dX8_writeCalls_18 : decode cX8_writeCalls 18 = .ok (.iaload, 1) := by decide +kernel
theorem dX8_writeCalls_19 : decode cX8_writeCalls 19 = .ok (.if_icmp .ge 61, 3) := by decide +kernel
theorem dX8_writeCalls_22 : decode cX8_writeCalls 22 = .ok (.iload_n 1, 1) := by decide +kernel
theorem dX8_writeCalls_23 : decode cX8_writeCalls 23 = .ok (.ifCond .le 9, 3) := by decide +kernel
theorem dX8_writeCalls_26 : decode cX8_writeCalls 26 = .ok (.aload_n 0, 1) := by decide +kernel
theorem dX8_writeCalls_27 : decode cX8_writeCalls 27 = .ok (.bipush 32, 2) := by decide +kernel
theorem dX8_writeCalls_29 : decode cX8_writeCalls 29 = .ok (.invokevirtual 242, 3) := by decide +kernel
theorem dX8_writeCalls_32 : decode cX8_writeCalls 32 = .ok (.aload_n 0, 1) := by decide +kernel
theorem dX8_writeCalls_33 : decode cX8_writeCalls 33 = .ok (.aload_n 0, 1) := by decide +kernel
theorem dX8_writeCalls_34 : decode cX8_writeCalls 34 = .ok (.iload_n 1, 1) := by decide +kernel
theorem dX8_writeCalls_35 : decode cX8_writeCalls 35 = .ok (.iconst 0, 1) := by decide +kernel
theorem dX8_writeCalls_36 : decode cX8_writeCalls 36 = .ok (.invokevirtual 95, 3) := by decide +kernel
theorem dX8_writeCalls_39 : decode cX8_writeCalls 39 = .ok (.invokevirtual 245, 3) := by decide +kernel
theorem dX8_writeCalls_42 : decode cX8_writeCalls 42 = .ok (.aload_n 0, 1) := by decide +kernel
theorem dX8_writeCalls_43 : decode cX8_writeCalls 43 = .ok (.bipush 62, 2) := by decide +kernel
theorem dX8_writeCalls_45 : decode cX8_writeCalls 45 = .ok (.invokevirtual 242, 3) := by decide +kernel
theorem dX8_writeCalls_48 : decode cX8_writeCalls 48 = .ok (.aload_n 0, 1) := by decide +kernel
theorem dX8_writeCalls_49 : decode cX8_writeCalls 49 = .ok (.aload_n 0, 1) := by decide +kernel
theorem dX8_writeCalls_50 : decode cX8_writeCalls 50 = .ok (.iload_n 1, 1) := by decide +kernel
theorem dX8_writeCalls_51 : decode cX8_writeCalls 51 = .ok (.iconst 1, 1) := by decide +kernel
theorem dX8_writeCalls_52 : decode cX8_writeCalls 52 = .ok (.invokevirtual 95, 3) := by decide +kernel
theorem dX8_writeCalls_55 : decode cX8_writeCalls 55 = .ok (.invokevirtual 245, 3) := by decide +kernel
theorem dX8_writeCalls_58 : decode cX8_writeCalls 58 = .ok (.aload_n 0, 1) := by decide +kernel
theorem dX8_writeCalls_59 : decode cX8_writeCalls 59 = .ok (.bipush 58, 2) := by decide +kernel
theorem dX8_writeCalls_61 : decode cX8_writeCalls 61 = .ok (.invokevirtual 242, 3) := by decide +kernel
theorem dX8_writeCalls_64 : decode cX8_writeCalls 64 = .ok (.aload_n 0, 1) := by decide +kernel
theorem dX8_writeCalls_65 : decode cX8_writeCalls 65 = .ok (.aload_n 0, 1) := by decide +kernel
theorem dX8_writeCalls_66 : decode cX8_writeCalls 66 = .ok (.iload_n 1, 1) := by decide +kernel
theorem dX8_writeCalls_67 : decode cX8_writeCalls 67 = .ok (.iconst 2, 1) := by decide +kernel
theorem dX8_writeCalls_68 : decode cX8_writeCalls 68 = .ok (.invokevirtual 95, 3) := by decide +kernel
theorem dX8_writeCalls_71 : decode cX8_writeCalls 71 = .ok (.invokevirtual 245, 3) := by decide +kernel
theorem dX8_writeCalls_74 : decode cX8_writeCalls 74 = .ok (.iinc 1 1, 3) := by decide +kernel
theorem dX8_writeCalls_77 : decode cX8_writeCalls 77 = .ok (.goto (-65), 3) := by decide +kernel
theorem dX8_writeCalls_80 : decode cX8_writeCalls 80 = .ok (.aload_n 0, 1) := by decide +kernel
theorem dX8_writeCalls_81 : decode cX8_writeCalls 81 = .ok (.getfield 60, 3) := by decide +kernel
theorem dX8_writeCalls_84 : decode cX8_writeCalls 84 = .ok (.ireturn, 1) := by decide +kernel
theorem dX8_charAt_0 : decode cX8_charAt 0 = .ok (.aload_n 0, 1) := by decide +kernel
theorem dX8_charAt_1 : decode cX8_charAt 1 = .ok (.iload_n 1, 1) := by decide +kernel
theorem dX8_charAt_2 : decode cX8_charAt 2 = .ok (.iconst 0, 1) := by decide +kernel
theorem dX8_charAt_3 : decode cX8_charAt 3 = .ok (.aload_n 0, 1) := by decide +kernel
theorem dX8_charAt_4 : decode cX8_charAt 4 = .ok (.getfield 60, 3) := by decide +kernel
theorem dX8_charAt_7 : decode cX8_charAt 7 = .ok (.iconst 1, 1) := by decide +kernel
theorem dX8_charAt_8 : decode cX8_charAt 8 = .ok (.isub, 1) := by decide +kernel
theorem dX8_charAt_9 : decode cX8_charAt 9 = .ok (.invokestatic 91, 3) := by decide +kernel
theorem dX8_charAt_12 : decode cX8_charAt 12 = .ok (.invokevirtual 220, 3) := by decide +kernel
theorem dX8_charAt_15 : decode cX8_charAt 15 = .ok (.ifCond .le 8, 3) := by decide +kernel
theorem dX8_charAt_18 : decode cX8_charAt 18 = .ok (.bipush 32, 2) := by decide +kernel
theorem dX8_charAt_20 : decode cX8_charAt 20 = .ok (.goto 10, 3) := by decide +kernel
theorem dX8_charAt_23 : decode cX8_charAt 23 = .ok (.aload_n 0, 1) := by decide +kernel
theorem dX8_charAt_24 : decode cX8_charAt 24 = .ok (.getfield 57, 3) := by decide +kernel
theorem dX8_charAt_27 : decode cX8_charAt 27 = .ok (.iload_n 1, 1) := by decide +kernel
theorem dX8_charAt_28 : decode cX8_charAt 28 = .ok (.iaload, 1) := by decide +kernel
theorem dX8_charAt_29 : decode cX8_charAt 29 = .ok (.i2c, 1) := by decide +kernel
theorem dX8_charAt_30 : decode cX8_charAt 30 = .ok (.ireturn, 1) := by decide +kernel
theorem dX8_type_0 : decode cX8_type 0 = .ok (.aload_n 0, 1) := by decide +kernel
theorem dX8_type_1 : decode cX8_type 1 = .ok (.aload_n 0, 1) := by decide +kernel
theorem dX8_type_2 : decode cX8_type 2 = .ok (.getfield 72, 3) := by decide +kernel
theorem dX8_type_5 : decode cX8_type 5 = .ok (.bipush 60, 2) := by decide +kernel
theorem dX8_type_7 : decode cX8_type 7 = .ok (.if_icmp .ge 7, 3) := by decide +kernel
theorem dX8_type_10 : decode cX8_type 10 = .ok (.iconst 1, 1) := by decide +kernel
theorem dX8_type_11 : decode cX8_type 11 = .ok (.goto 4, 3) := by decide +kernel
theorem dX8_type_14 : decode cX8_type 14 = .ok (.iconst 0, 1) := by decide +kernel
theorem dX8_type_15 : decode cX8_type 15 = .ok (.invokevirtual 220, 3) := by decide +kernel
theorem dX8_type_18 : decode cX8_type 18 = .ok (.ifCond .le 5, 3) := by decide +kernel
theorem dX8_type_21 : decode cX8_type 21 = .ok (.iconst 0, 1) := by decide +kernel
theorem dX8_type_22 : decode cX8_type 22 = .ok (.ireturn, 1) := by decide +kernel
theorem dX8_type_23 : decode cX8_type 23 = .ok (.aload_n 0, 1) := by decide +kernel
theorem dX8_type_24 : decode cX8_type 24 = .ok (.getfield 63, 3) := by decide +kernel
theorem dX8_type_27 : decode cX8_type 27 = .ok (.aload_n 0, 1) := by decide +kernel
theorem dX8_type_28 : decode cX8_type 28 = .ok (.getfield 72, 3) := by decide +kernel
theorem dX8_type_31 : decode cX8_type 31 = .ok (.iload_n 1, 1) := by decide +kernel
theorem dX8_type_32 : decode cX8_type 32 = .ok (.iastore, 1) := by decide +kernel
theorem dX8_type_33 : decode cX8_type 33 = .ok (.aload_n 0, 1) := by decide +kernel
theorem dX8_type_34 : decode cX8_type 34 = .ok (.dup, 1) := by decide +kernel
theorem dX8_type_35 : decode cX8_type 35 = .ok (.getfield 72, 3) := by decide +kernel
theorem dX8_type_38 : decode cX8_type 38 = .ok (.iconst 1, 1) := by decide +kernel
theorem dX8_type_39 : decode cX8_type 39 = .ok (.iadd, 1) := by decide +kernel
theorem dX8_type_40 : decode cX8_type 40 = .ok (.putfield 72, 3) := by decide +kernel
theorem dX8_type_43 : decode cX8_type 43 = .ok (.aload_n 0, 1) := by decide +kernel
theorem dX8_type_44 : decode cX8_type 44 = .ok (.getfield 72, 3) := by decide +kernel
theorem dX8_type_47 : decode cX8_type 47 = .ok (.ireturn, 1) := by decide +kernel
theorem dX8_mark_0 : decode cX8_mark 0 = .ok (.aload_n 0, 1) := by decide +kernel
theorem dX8_mark_1 : decode cX8_mark 1 = .ok (.getfield 84, 3) := by decide +kernel
theorem dX8_mark_4 : decode cX8_mark 4 = .ok (.ifCond .ne 26, 3) := by decide +kernel
theorem dX8_mark_7 : decode cX8_mark 7 = .ok (.aload_n 0, 1) := by decide +kernel
theorem dX8_mark_8 : decode cX8_mark 8 = .ok (.getfield 78, 3) := by decide +kernel
theorem dX8_mark_11 : decode cX8_mark 11 = .ok (.aload_n 0, 1) := by decide +kernel
theorem dX8_mark_12 : decode cX8_mark 12 = .ok (.getfield 75, 3) := by decide +kernel
theorem dX8_mark_15 : decode cX8_mark 15 = .ok (.if_icmp .ge 15, 3) := by decide +kernel
theorem dX8_mark_18 : decode cX8_mark 18 = .ok (.aload_n 0, 1) := by decide +kernel
theorem dX8_mark_19 : decode cX8_mark 19 = .ok (.getfield 63, 3) := by decide +kernel
theorem dX8_mark_22 : decode cX8_mark 22 = .ok (.aload_n 0, 1) := by decide +kernel
theorem dX8_mark_23 : decode cX8_mark 23 = .ok (.getfield 78, 3) := by decide +kernel
theorem dX8_mark_26 : decode cX8_mark 26 = .ok (.iaload, 1) := by decide +kernel
theorem dX8_mark_27 : decode cX8_mark 27 = .ok (.goto 4, 3) := by decide +kernel
theorem dX8_mark_30 : decode cX8_mark 30 = .ok (.iconst (-1), 1) := by decide +kernel
theorem dX8_mark_31 : decode cX8_mark 31 = .ok (.ireturn, 1) := by decide +kernel
theorem dX8_expect_0 : decode cX8_expect 0 = .ok (.aload_n 0, 1) := by decide +kernel
theorem dX8_expect_1 : decode cX8_expect 1 = .ok (.dup, 1) := by decide +kernel
theorem dX8_expect_2 : decode cX8_expect 2 = .ok (.getfield 84, 3) := by decide +kernel
theorem dX8_expect_5 : decode cX8_expect 5 = .ok (.aload_n 0, 1) := by decide +kernel
theorem dX8_expect_6 : decode cX8_expect 6 = .ok (.invokevirtual 248, 3) := by decide +kernel
theorem dX8_expect_9 : decode cX8_expect 9 = .ok (.iload_n 1, 1) := by decide +kernel
theorem dX8_expect_10 : decode cX8_expect 10 = .ok (.if_icmp .eq 7, 3) := by decide +kernel
theorem dX8_expect_13 : decode cX8_expect 13 = .ok (.iconst 1, 1) := by decide +kernel
theorem dX8_expect_14 : decode cX8_expect 14 = .ok (.goto 4, 3) := by decide +kernel
theorem dX8_expect_17 : decode cX8_expect 17 = .ok (.iconst 0, 1) := by decide +kernel
theorem dX8_expect_18 : decode cX8_expect 18 = .ok (.ior, 1) := by decide +kernel
theorem dX8_expect_19 : decode cX8_expect 19 = .ok (.putfield 84, 3) := by decide +kernel
theorem dX8_expect_22 : decode cX8_expect 22 = .ok (.aload_n 0, 1) := by decide +kernel
theorem dX8_expect_23 : decode cX8_expect 23 = .ok (.dup, 1) := by decide +kernel
theorem dX8_expect_24 : decode cX8_expect 24 = .ok (.getfield 78, 3) := by decide +kernel
theorem dX8_expect_27 : decode cX8_expect 27 = .ok (.aload_n 0, 1) := by decide +kernel
theorem dX8_expect_28 : decode cX8_expect 28 = .ok (.getfield 84, 3) := by decide +kernel
theorem dX8_expect_31 : decode cX8_expect 31 = .ok (.ifCond .eq 7, 3) := by decide +kernel
theorem dX8_expect_34 : decode cX8_expect 34 = .ok (.iconst 0, 1) := by decide +kernel
theorem dX8_expect_35 : decode cX8_expect 35 = .ok (.goto 4, 3) := by decide +kernel
theorem dX8_expect_38 : decode cX8_expect 38 = .ok (.iconst 1, 1) := by decide +kernel
theorem dX8_expect_39 : decode cX8_expect 39 = .ok (.iadd, 1) := by decide +kernel
theorem dX8_expect_40 : decode cX8_expect 40 = .ok (.putfield 78, 3) := by decide +kernel
theorem dX8_expect_43 : decode cX8_expect 43 = .ok (.return_, 1) := by decide +kernel
theorem dX8_number_0 : decode cX8_number 0 = .ok (.aload_n 0, 1) := by decide +kernel
theorem dX8_number_1 : decode cX8_number 1 = .ok (.dup, 1) := by decide +kernel
theorem dX8_number_2 : decode cX8_number 2 = .ok (.getfield 84, 3) := by decide +kernel
theorem dX8_number_5 : decode cX8_number 5 = .ok (.aload_n 0, 1) := by decide +kernel
theorem dX8_number_6 : decode cX8_number 6 = .ok (.invokevirtual 248, 3) := by decide +kernel
theorem dX8_number_9 : decode cX8_number 9 = .ok (.bipush 48, 2) := by decide +kernel
theorem dX8_number_11 : decode cX8_number 11 = .ok (.bipush 57, 2) := by decide +kernel
theorem dX8_number_13 : decode cX8_number 13 = .ok (.invokestatic 91, 3) := by decide +kernel
theorem dX8_number_16 : decode cX8_number 16 = .ok (.ifCond .ne 7, 3) := by decide +kernel
theorem dX8_number_19 : decode cX8_number 19 = .ok (.iconst 1, 1) := by decide +kernel
theorem dX8_number_20 : decode cX8_number 20 = .ok (.goto 4, 3) := by decide +kernel
theorem dX8_number_23 : decode cX8_number 23 = .ok (.iconst 0, 1) := by decide +kernel
theorem dX8_number_24 : decode cX8_number 24 = .ok (.ior, 1) := by decide +kernel
theorem dX8_number_25 : decode cX8_number 25 = .ok (.putfield 84, 3) := by decide +kernel
theorem dX8_number_28 : decode cX8_number 28 = .ok (.iconst 0, 1) := by decide +kernel
theorem dX8_number_29 : decode cX8_number 29 = .ok (.istore_n 2, 1) := by decide +kernel
theorem dX8_number_30 : decode cX8_number 30 = .ok (.iconst 0, 1) := by decide +kernel
theorem dX8_number_31 : decode cX8_number 31 = .ok (.istore_n 3, 1) := by decide +kernel
theorem dX8_number_32 : decode cX8_number 32 = .ok (.iload_n 3, 1) := by decide +kernel
theorem dX8_number_33 : decode cX8_number 33 = .ok (.iload_n 1, 1) := by decide +kernel
theorem dX8_number_34 : decode cX8_number 34 = .ok (.if_icmp .ge 51, 3) := by decide +kernel
theorem dX8_number_37 : decode cX8_number 37 = .ok (.aload_n 0, 1) := by decide +kernel
theorem dX8_number_38 : decode cX8_number 38 = .ok (.invokevirtual 248, 3) := by decide +kernel
theorem dX8_number_41 : decode cX8_number 41 = .ok (.bipush 48, 2) := by decide +kernel
theorem dX8_number_43 : decode cX8_number 43 = .ok (.bipush 57, 2) := by decide +kernel
theorem dX8_number_45 : decode cX8_number 45 = .ok (.invokestatic 91, 3) := by decide +kernel
theorem dX8_number_48 : decode cX8_number 48 = .ok (.ifCond .eq 37, 3) := by decide +kernel
theorem dX8_number_51 : decode cX8_number 51 = .ok (.bipush 10, 2) := by decide +kernel
theorem dX8_number_53 : decode cX8_number 53 = .ok (.iload_n 2, 1) := by decide +kernel
theorem dX8_number_54 : decode cX8_number 54 = .ok (.imul, 1) := by decide +kernel
theorem dX8_number_55 : decode cX8_number 55 = .ok (.aload_n 0, 1) := by decide +kernel
theorem dX8_number_56 : decode cX8_number 56 = .ok (.getfield 63, 3) := by decide +kernel
theorem dX8_number_59 : decode cX8_number 59 = .ok (.aload_n 0, 1) := by decide +kernel
theorem dX8_number_60 : decode cX8_number 60 = .ok (.getfield 78, 3) := by decide +kernel
theorem dX8_number_63 : decode cX8_number 63 = .ok (.iaload, 1) := by decide +kernel
theorem dX8_number_64 : decode cX8_number 64 = .ok (.iadd, 1) := by decide +kernel
theorem dX8_number_65 : decode cX8_number 65 = .ok (.bipush 48, 2) := by decide +kernel
theorem dX8_number_67 : decode cX8_number 67 = .ok (.isub, 1) := by decide +kernel
theorem dX8_number_68 : decode cX8_number 68 = .ok (.istore_n 2, 1) := by decide +kernel
theorem dX8_number_69 : decode cX8_number 69 = .ok (.aload_n 0, 1) := by decide +kernel
theorem dX8_number_70 : decode cX8_number 70 = .ok (.dup, 1) := by decide +kernel
theorem dX8_number_71 : decode cX8_number 71 = .ok (.getfield 78, 3) := by decide +kernel
theorem dX8_number_74 : decode cX8_number 74 = .ok (.iconst 1, 1) := by decide +kernel
theorem dX8_number_75 : decode cX8_number 75 = .ok (.iadd, 1) := by decide +kernel
theorem dX8_number_76 : decode cX8_number 76 = .ok (.putfield 78, 3) := by decide +kernel
theorem dX8_number_79 : decode cX8_number 79 = .ok (.iinc 3 1, 3) := by decide +kernel
theorem dX8_number_82 : decode cX8_number 82 = .ok (.goto (-50), 3) := by decide +kernel
theorem dX8_number_85 : decode cX8_number 85 = .ok (.iload_n 2, 1) := by decide +kernel
theorem dX8_number_86 : decode cX8_number 86 = .ok (.ireturn, 1) := by decide +kernel
theorem dX8_pick_0 : decode cX8_pick 0 = .ok (.iload_n 0, 1) := by decide +kernel
theorem dX8_pick_1 : decode cX8_pick 1 = .ok (.tableswitch 54 0 5 #[39, 41, 43, 45, 48, 51], 39) := by decide +kernel
theorem dX8_pick_40 : decode cX8_pick 40 = .ok (.iload_n 1, 1) := by decide +kernel
theorem dX8_pick_41 : decode cX8_pick 41 = .ok (.ireturn, 1) := by decide +kernel
theorem dX8_pick_42 : decode cX8_pick 42 = .ok (.iload_n 2, 1) := by decide +kernel
theorem dX8_pick_43 : decode cX8_pick 43 = .ok (.ireturn, 1) := by decide +kernel
theorem dX8_pick_44 : decode cX8_pick 44 = .ok (.iload_n 3, 1) := by decide +kernel
theorem dX8_pick_45 : decode cX8_pick 45 = .ok (.ireturn, 1) := by decide +kernel
theorem dX8_pick_46 : decode cX8_pick 46 = .ok (.iload 4, 2) := by decide +kernel
theorem dX8_pick_48 : decode cX8_pick 48 = .ok (.ireturn, 1) := by decide +kernel
theorem dX8_pick_49 : decode cX8_pick 49 = .ok (.iload 5, 2) := by decide +kernel
theorem dX8_pick_51 : decode cX8_pick 51 = .ok (.ireturn, 1) := by decide +kernel
theorem dX8_pick_52 : decode cX8_pick 52 = .ok (.iload 6, 2) := by decide +kernel
theorem dX8_pick_54 : decode cX8_pick 54 = .ok (.ireturn, 1) := by decide +kernel
theorem dX8_pick_55 : decode cX8_pick 55 = .ok (.iconst 0, 1) := by decide +kernel
theorem dX8_pick_56 : decode cX8_pick 56 = .ok (.ireturn, 1) := by decide +kernel
theorem dX8_spelled_0 : decode cX8_spelled 0 = .ok (.iload_n 0, 1) := by decide +kernel
theorem dX8_spelled_1 : decode cX8_spelled 1 = .ok (.tableswitch 150 0 6 #[43, 60, 76, 91, 106, 121, 135], 43) := by decide +kernel
theorem dX8_spelled_44 : decode cX8_spelled 44 = .ok (.iload_n 1, 1) := by decide +kernel
theorem dX8_spelled_45 : decode cX8_spelled 45 = .ok (.bipush 115, 2) := by decide +kernel
theorem dX8_spelled_47 : decode cX8_spelled 47 = .ok (.bipush 119, 2) := by decide +kernel
theorem dX8_spelled_49 : decode cX8_spelled 49 = .ok (.bipush 105, 2) := by decide +kernel
theorem dX8_spelled_51 : decode cX8_spelled 51 = .ok (.bipush 116, 2) := by decide +kernel
theorem dX8_spelled_53 : decode cX8_spelled 53 = .ok (.bipush 99, 2) := by decide +kernel
theorem dX8_spelled_55 : decode cX8_spelled 55 = .ok (.bipush 104, 2) := by decide +kernel
theorem dX8_spelled_57 : decode cX8_spelled 57 = .ok (.invokestatic 251, 3) := by decide +kernel
theorem dX8_spelled_60 : decode cX8_spelled 60 = .ok (.ireturn, 1) := by decide +kernel
theorem dX8_spelled_61 : decode cX8_spelled 61 = .ok (.iload_n 1, 1) := by decide +kernel
theorem dX8_spelled_62 : decode cX8_spelled 62 = .ok (.bipush 116, 2) := by decide +kernel
theorem dX8_spelled_64 : decode cX8_spelled 64 = .ok (.bipush 114, 2) := by decide +kernel
theorem dX8_spelled_66 : decode cX8_spelled 66 = .ok (.bipush 117, 2) := by decide +kernel
theorem dX8_spelled_68 : decode cX8_spelled 68 = .ok (.bipush 110, 2) := by decide +kernel
theorem dX8_spelled_70 : decode cX8_spelled 70 = .ok (.bipush 107, 2) := by decide +kernel
theorem dX8_spelled_72 : decode cX8_spelled 72 = .ok (.iconst 0, 1) := by decide +kernel
theorem dX8_spelled_73 : decode cX8_spelled 73 = .ok (.invokestatic 251, 3) := by decide +kernel
theorem dX8_spelled_76 : decode cX8_spelled 76 = .ok (.ireturn, 1) := by decide +kernel
theorem dX8_spelled_77 : decode cX8_spelled 77 = .ok (.iload_n 1, 1) := by decide +kernel
theorem dX8_spelled_78 : decode cX8_spelled 78 = .ok (.bipush 117, 2) := by decide +kernel
theorem dX8_spelled_80 : decode cX8_spelled 80 = .ok (.bipush 115, 2) := by decide +kernel
theorem dX8_spelled_82 : decode cX8_spelled 82 = .ok (.bipush 101, 2) := by decide +kernel
theorem dX8_spelled_84 : decode cX8_spelled 84 = .ok (.bipush 114, 2) := by decide +kernel
theorem dX8_spelled_86 : decode cX8_spelled 86 = .ok (.iconst 0, 1) := by decide +kernel
theorem dX8_spelled_87 : decode cX8_spelled 87 = .ok (.iconst 0, 1) := by decide +kernel
theorem dX8_spelled_88 : decode cX8_spelled 88 = .ok (.invokestatic 251, 3) := by decide +kernel
theorem dX8_spelled_91 : decode cX8_spelled 91 = .ok (.ireturn, 1) := by decide +kernel
theorem dX8_spelled_92 : decode cX8_spelled 92 = .ok (.iload_n 1, 1) := by decide +kernel
theorem dX8_spelled_93 : decode cX8_spelled 93 = .ok (.bipush 99, 2) := by decide +kernel
theorem dX8_spelled_95 : decode cX8_spelled 95 = .ok (.bipush 97, 2) := by decide +kernel
theorem dX8_spelled_97 : decode cX8_spelled 97 = .ok (.bipush 108, 2) := by decide +kernel
theorem dX8_spelled_99 : decode cX8_spelled 99 = .ok (.bipush 108, 2) := by decide +kernel
theorem dX8_spelled_101 : decode cX8_spelled 101 = .ok (.iconst 0, 1) := by decide +kernel
theorem dX8_spelled_102 : decode cX8_spelled 102 = .ok (.iconst 0, 1) := by decide +kernel
theorem dX8_spelled_103 : decode cX8_spelled 103 = .ok (.invokestatic 251, 3) := by decide +kernel
theorem dX8_spelled_106 : decode cX8_spelled 106 = .ok (.ireturn, 1) := by decide +kernel
theorem dX8_spelled_107 : decode cX8_spelled 107 = .ok (.iload_n 1, 1) := by decide +kernel
theorem dX8_spelled_108 : decode cX8_spelled 108 = .ok (.bipush 104, 2) := by decide +kernel
theorem dX8_spelled_110 : decode cX8_spelled 110 = .ok (.bipush 97, 2) := by decide +kernel
theorem dX8_spelled_112 : decode cX8_spelled 112 = .ok (.bipush 110, 2) := by decide +kernel
theorem dX8_spelled_114 : decode cX8_spelled 114 = .ok (.bipush 103, 2) := by decide +kernel
theorem dX8_spelled_116 : decode cX8_spelled 116 = .ok (.iconst 0, 1) := by decide +kernel
theorem dX8_spelled_117 : decode cX8_spelled 117 = .ok (.iconst 0, 1) := by decide +kernel
theorem dX8_spelled_118 : decode cX8_spelled 118 = .ok (.invokestatic 251, 3) := by decide +kernel
theorem dX8_spelled_121 : decode cX8_spelled 121 = .ok (.ireturn, 1) := by decide +kernel
theorem dX8_spelled_122 : decode cX8_spelled 122 = .ok (.iload_n 1, 1) := by decide +kernel
theorem dX8_spelled_123 : decode cX8_spelled 123 = .ok (.bipush 99, 2) := by decide +kernel
theorem dX8_spelled_125 : decode cX8_spelled 125 = .ok (.bipush 117, 2) := by decide +kernel
theorem dX8_spelled_127 : decode cX8_spelled 127 = .ok (.bipush 116, 2) := by decide +kernel
theorem dX8_spelled_129 : decode cX8_spelled 129 = .ok (.iconst 0, 1) := by decide +kernel
theorem dX8_spelled_130 : decode cX8_spelled 130 = .ok (.iconst 0, 1) := by decide +kernel
theorem dX8_spelled_131 : decode cX8_spelled 131 = .ok (.iconst 0, 1) := by decide +kernel
theorem dX8_spelled_132 : decode cX8_spelled 132 = .ok (.invokestatic 251, 3) := by decide +kernel
theorem dX8_spelled_135 : decode cX8_spelled 135 = .ok (.ireturn, 1) := by decide +kernel
theorem dX8_spelled_136 : decode cX8_spelled 136 = .ok (.iload_n 1, 1) := by decide +kernel
theorem dX8_spelled_137 : decode cX8_spelled 137 = .ok (.bipush 109, 2) := by decide +kernel
theorem dX8_spelled_139 : decode cX8_spelled 139 = .ok (.bipush 101, 2) := by decide +kernel
theorem dX8_spelled_141 : decode cX8_spelled 141 = .ok (.bipush 110, 2) := by decide +kernel
theorem dX8_spelled_143 : decode cX8_spelled 143 = .ok (.bipush 100, 2) := by decide +kernel
theorem dX8_spelled_145 : decode cX8_spelled 145 = .ok (.iconst 0, 1) := by decide +kernel
theorem dX8_spelled_146 : decode cX8_spelled 146 = .ok (.iconst 0, 1) := by decide +kernel
theorem dX8_spelled_147 : decode cX8_spelled 147 = .ok (.invokestatic 251, 3) := by decide +kernel
theorem dX8_spelled_150 : decode cX8_spelled 150 = .ok (.ireturn, 1) := by decide +kernel
theorem dX8_spelled_151 : decode cX8_spelled 151 = .ok (.iload_n 1, 1) := by decide +kernel
theorem dX8_spelled_152 : decode cX8_spelled 152 = .ok (.bipush 119, 2) := by decide +kernel
theorem dX8_spelled_154 : decode cX8_spelled 154 = .ok (.bipush 97, 2) := by decide +kernel
theorem dX8_spelled_156 : decode cX8_spelled 156 = .ok (.bipush 105, 2) := by decide +kernel
theorem dX8_spelled_158 : decode cX8_spelled 158 = .ok (.bipush 116, 2) := by decide +kernel
theorem dX8_spelled_160 : decode cX8_spelled 160 = .ok (.iconst 0, 1) := by decide +kernel
theorem dX8_spelled_161 : decode cX8_spelled 161 = .ok (.iconst 0, 1) := by decide +kernel
theorem dX8_spelled_162 : decode cX8_spelled 162 = .ok (.invokestatic 251, 3) := by decide +kernel
theorem dX8_spelled_165 : decode cX8_spelled 165 = .ok (.ireturn, 1) := by decide +kernel
theorem dX8_word_0 : decode cX8_word 0 = .ok (.iconst 0, 1) := by decide +kernel
theorem dX8_word_1 : decode cX8_word 1 = .ok (.istore_n 1, 1) := by decide +kernel
theorem dX8_word_2 : decode cX8_word 2 = .ok (.iconst 0, 1) := by decide +kernel
theorem dX8_word_3 : decode cX8_word 3 = .ok (.istore_n 2, 1) := by decide +kernel
theorem dX8_word_4 : decode cX8_word 4 = .ok (.iload_n 2, 1) := by decide +kernel
theorem dX8_word_5 : decode cX8_word 5 = .ok (.bipush 8, 2) := by decide +kernel
theorem dX8_word_7 : decode cX8_word 7 = .ok (.if_icmp .ge 88, 3) := by decide +kernel
theorem dX8_word_10 : decode cX8_word 10 = .ok (.iconst 0, 1) := by decide +kernel
theorem dX8_word_11 : decode cX8_word 11 = .ok (.istore_n 3, 1) := by decide +kernel
theorem dX8_word_12 : decode cX8_word 12 = .ok (.iload_n 2, 1) := by decide +kernel
theorem dX8_word_13 : decode cX8_word 13 = .ok (.iload_n 3, 1) := by decide +kernel
theorem dX8_word_14 : decode cX8_word 14 = .ok (.invokestatic 255, 3) := by decide +kernel
theorem dX8_word_17 : decode cX8_word 17 = .ok (.ifCond .le 41, 3) := by decide +kernel
theorem dX8_word_20 : decode cX8_word 20 = .ok (.aload_n 0, 1) := by decide +kernel
theorem dX8_word_21 : decode cX8_word 21 = .ok (.getfield 78, 3) := by decide +kernel
theorem dX8_word_24 : decode cX8_word 24 = .ok (.iload_n 3, 1) := by decide +kernel
theorem dX8_word_25 : decode cX8_word 25 = .ok (.iadd, 1) := by decide +kernel
theorem dX8_word_26 : decode cX8_word 26 = .ok (.aload_n 0, 1) := by decide +kernel
theorem dX8_word_27 : decode cX8_word 27 = .ok (.getfield 75, 3) := by decide +kernel
theorem dX8_word_30 : decode cX8_word 30 = .ok (.if_icmp .ge 28, 3) := by decide +kernel
theorem dX8_word_33 : decode cX8_word 33 = .ok (.aload_n 0, 1) := by decide +kernel
theorem dX8_word_34 : decode cX8_word 34 = .ok (.getfield 63, 3) := by decide +kernel
theorem dX8_word_37 : decode cX8_word 37 = .ok (.aload_n 0, 1) := by decide +kernel
theorem dX8_word_38 : decode cX8_word 38 = .ok (.getfield 78, 3) := by decide +kernel
theorem dX8_word_41 : decode cX8_word 41 = .ok (.iload_n 3, 1) := by decide +kernel
theorem dX8_word_42 : decode cX8_word 42 = .ok (.iadd, 1) := by decide +kernel
theorem dX8_word_43 : decode cX8_word 43 = .ok (.iaload, 1) := by decide +kernel
theorem dX8_word_44 : decode cX8_word 44 = .ok (.iload_n 2, 1) := by decide +kernel
theorem dX8_word_45 : decode cX8_word 45 = .ok (.iload_n 3, 1) := by decide +kernel
theorem dX8_word_46 : decode cX8_word 46 = .ok (.invokestatic 255, 3) := by decide +kernel
theorem dX8_word_49 : decode cX8_word 49 = .ok (.if_icmp .ne 9, 3) := by decide +kernel
theorem dX8_word_52 : decode cX8_word 52 = .ok (.iinc 3 1, 3) := by decide +kernel
theorem dX8_word_55 : decode cX8_word 55 = .ok (.goto (-43), 3) := by decide +kernel
theorem dX8_word_58 : decode cX8_word 58 = .ok (.iload_n 2, 1) := by decide +kernel
theorem dX8_word_59 : decode cX8_word 59 = .ok (.iload_n 3, 1) := by decide +kernel
theorem dX8_word_60 : decode cX8_word 60 = .ok (.invokestatic 255, 3) := by decide +kernel
theorem dX8_word_63 : decode cX8_word 63 = .ok (.ifCond .ne 15, 3) := by decide +kernel
theorem dX8_word_66 : decode cX8_word 66 = .ok (.aload_n 0, 1) := by decide +kernel
theorem dX8_word_67 : decode cX8_word 67 = .ok (.dup, 1) := by decide +kernel
theorem dX8_word_68 : decode cX8_word 68 = .ok (.getfield 78, 3) := by decide +kernel
theorem dX8_word_71 : decode cX8_word 71 = .ok (.iload_n 3, 1) := by decide +kernel
theorem dX8_word_72 : decode cX8_word 72 = .ok (.iadd, 1) := by decide +kernel
theorem dX8_word_73 : decode cX8_word 73 = .ok (.putfield 78, 3) := by decide +kernel
theorem dX8_word_76 : decode cX8_word 76 = .ok (.iload_n 2, 1) := by decide +kernel
theorem dX8_word_77 : decode cX8_word 77 = .ok (.ireturn, 1) := by decide +kernel
theorem dX8_word_78 : decode cX8_word 78 = .ok (.iload_n 3, 1) := by decide +kernel
theorem dX8_word_79 : decode cX8_word 79 = .ok (.iload_n 1, 1) := by decide +kernel
theorem dX8_word_80 : decode cX8_word 80 = .ok (.if_icmp .le 7, 3) := by decide +kernel
theorem dX8_word_83 : decode cX8_word 83 = .ok (.iload_n 3, 1) := by decide +kernel
theorem dX8_word_84 : decode cX8_word 84 = .ok (.goto 4, 3) := by decide +kernel
theorem dX8_word_87 : decode cX8_word 87 = .ok (.iload_n 1, 1) := by decide +kernel
theorem dX8_word_88 : decode cX8_word 88 = .ok (.istore_n 1, 1) := by decide +kernel
theorem dX8_word_89 : decode cX8_word 89 = .ok (.iinc 2 1, 3) := by decide +kernel
theorem dX8_word_92 : decode cX8_word 92 = .ok (.goto (-88), 3) := by decide +kernel
theorem dX8_word_95 : decode cX8_word 95 = .ok (.aload_n 0, 1) := by decide +kernel
theorem dX8_word_96 : decode cX8_word 96 = .ok (.dup, 1) := by decide +kernel
theorem dX8_word_97 : decode cX8_word 97 = .ok (.getfield 78, 3) := by decide +kernel
theorem dX8_word_100 : decode cX8_word 100 = .ok (.iload_n 1, 1) := by decide +kernel
theorem dX8_word_101 : decode cX8_word 101 = .ok (.iadd, 1) := by decide +kernel
theorem dX8_word_102 : decode cX8_word 102 = .ok (.putfield 78, 3) := by decide +kernel
theorem dX8_word_105 : decode cX8_word 105 = .ok (.aload_n 0, 1) := by decide +kernel
theorem dX8_word_106 : decode cX8_word 106 = .ok (.iconst 1, 1) := by decide +kernel
theorem dX8_word_107 : decode cX8_word 107 = .ok (.putfield 84, 3) := by decide +kernel
theorem dX8_word_110 : decode cX8_word 110 = .ok (.iconst 0, 1) := by decide +kernel
theorem dX8_word_111 : decode cX8_word 111 = .ok (.ireturn, 1) := by decide +kernel
theorem dX8_command_0 : decode cX8_command 0 = .ok (.aload_n 0, 1) := by decide +kernel
theorem dX8_command_1 : decode cX8_command 1 = .ok (.invokevirtual 258, 3) := by decide +kernel
theorem dX8_command_4 : decode cX8_command 4 = .ok (.istore_n 1, 1) := by decide +kernel
theorem dX8_command_5 : decode cX8_command 5 = .ok (.iconst 1, 1) := by decide +kernel
theorem dX8_command_6 : decode cX8_command 6 = .ok (.istore_n 2, 1) := by decide +kernel
theorem dX8_command_7 : decode cX8_command 7 = .ok (.iconst 0, 1) := by decide +kernel
theorem dX8_command_8 : decode cX8_command 8 = .ok (.istore_n 3, 1) := by decide +kernel
theorem dX8_command_9 : decode cX8_command 9 = .ok (.iconst 0, 1) := by decide +kernel
theorem dX8_command_10 : decode cX8_command 10 = .ok (.istore 4, 2) := by decide +kernel
theorem dX8_command_12 : decode cX8_command 12 = .ok (.iload_n 1, 1) := by decide +kernel
theorem dX8_command_13 : decode cX8_command 13 = .ok (.ifCond .le 22, 3) := by decide +kernel
theorem dX8_command_16 : decode cX8_command 16 = .ok (.iload_n 1, 1) := by decide +kernel
theorem dX8_command_17 : decode cX8_command 17 = .ok (.bipush 7, 2) := by decide +kernel
theorem dX8_command_19 : decode cX8_command 19 = .ok (.if_icmp .lt 12, 3) := by decide +kernel
theorem dX8_command_22 : decode cX8_command 22 = .ok (.aload_n 0, 1) := by decide +kernel
theorem dX8_command_23 : decode cX8_command 23 = .ok (.invokevirtual 248, 3) := by decide +kernel
theorem dX8_command_26 : decode cX8_command 26 = .ok (.bipush 32, 2) := by decide +kernel
theorem dX8_command_28 : decode cX8_command 28 = .ok (.if_icmp .ne 7, 3) := by decide +kernel
theorem dX8_command_31 : decode cX8_command 31 = .ok (.iconst 1, 1) := by decide +kernel
theorem dX8_command_32 : decode cX8_command 32 = .ok (.goto 4, 3) := by decide +kernel
theorem dX8_command_35 : decode cX8_command 35 = .ok (.iconst 0, 1) := by decide +kernel
theorem dX8_command_36 : decode cX8_command 36 = .ok (.istore 5, 2) := by decide +kernel
theorem dX8_command_38 : decode cX8_command 38 = .ok (.iload 5, 2) := by decide +kernel
theorem dX8_command_40 : decode cX8_command 40 = .ok (.ifCond .eq 24, 3) := by decide +kernel
theorem dX8_command_43 : decode cX8_command 43 = .ok (.aload_n 0, 1) := by decide +kernel
theorem dX8_command_44 : decode cX8_command 44 = .ok (.bipush 32, 2) := by decide +kernel
theorem dX8_command_46 : decode cX8_command 46 = .ok (.invokevirtual 261, 3) := by decide +kernel
theorem dX8_command_49 : decode cX8_command 49 = .ok (.aload_n 0, 1) := by decide +kernel
theorem dX8_command_50 : decode cX8_command 50 = .ok (.iload_n 1, 1) := by decide +kernel
theorem dX8_command_51 : decode cX8_command 51 = .ok (.iconst 4, 1) := by decide +kernel
theorem dX8_command_52 : decode cX8_command 52 = .ok (.if_icmp .le 7, 3) := by decide +kernel
theorem dX8_command_55 : decode cX8_command 55 = .ok (.iconst 2, 1) := by decide +kernel
theorem dX8_command_56 : decode cX8_command 56 = .ok (.goto 4, 3) := by decide +kernel
theorem dX8_command_59 : decode cX8_command 59 = .ok (.iconst 1, 1) := by decide +kernel
theorem dX8_command_60 : decode cX8_command 60 = .ok (.invokevirtual 264, 3) := by decide +kernel
theorem dX8_command_63 : decode cX8_command 63 = .ok (.istore_n 2, 1) := by decide +kernel
theorem dX8_command_64 : decode cX8_command 64 = .ok (.iload_n 1, 1) := by decide +kernel
theorem dX8_command_65 : decode cX8_command 65 = .ok (.ifCond .le 40, 3) := by decide +kernel
theorem dX8_command_68 : decode cX8_command 68 = .ok (.iload_n 1, 1) := by decide +kernel
theorem dX8_command_69 : decode cX8_command 69 = .ok (.iconst 4, 1) := by decide +kernel
theorem dX8_command_70 : decode cX8_command 70 = .ok (.if_icmp .ge 35, 3) := by decide +kernel
theorem dX8_command_73 : decode cX8_command 73 = .ok (.aload_n 0, 1) := by decide +kernel
theorem dX8_command_74 : decode cX8_command 74 = .ok (.iload_n 1, 1) := by decide +kernel
theorem dX8_command_75 : decode cX8_command 75 = .ok (.iconst 1, 1) := by decide +kernel
theorem dX8_command_76 : decode cX8_command 76 = .ok (.if_icmp .ne 8, 3) := by decide +kernel
theorem dX8_command_79 : decode cX8_command 79 = .ok (.bipush 45, 2) := by decide +kernel
theorem dX8_command_81 : decode cX8_command 81 = .ok (.goto 15, 3) := by decide +kernel
theorem dX8_command_84 : decode cX8_command 84 = .ok (.iload_n 1, 1) := by decide +kernel
theorem dX8_command_85 : decode cX8_command 85 = .ok (.iconst 2, 1) := by decide +kernel
theorem dX8_command_86 : decode cX8_command 86 = .ok (.if_icmp .ne 8, 3) := by decide +kernel
theorem dX8_command_89 : decode cX8_command 89 = .ok (.bipush 47, 2) := by decide +kernel
theorem dX8_command_91 : decode cX8_command 91 = .ok (.goto 5, 3) := by decide +kernel
theorem dX8_command_94 : decode cX8_command 94 = .ok (.bipush 62, 2) := by decide +kernel
theorem dX8_command_96 : decode cX8_command 96 = .ok (.invokevirtual 261, 3) := by decide +kernel
theorem dX8_command_99 : decode cX8_command 99 = .ok (.aload_n 0, 1) := by decide +kernel
theorem dX8_command_100 : decode cX8_command 100 = .ok (.iconst 1, 1) := by decide +kernel
theorem dX8_command_101 : decode cX8_command 101 = .ok (.invokevirtual 264, 3) := by decide +kernel
theorem dX8_command_104 : decode cX8_command 104 = .ok (.istore_n 3, 1) := by decide +kernel
theorem dX8_command_105 : decode cX8_command 105 = .ok (.iload_n 1, 1) := by decide +kernel
theorem dX8_command_106 : decode cX8_command 106 = .ok (.iconst 1, 1) := by decide +kernel
theorem dX8_command_107 : decode cX8_command 107 = .ok (.if_icmp .ne 16, 3) := by decide +kernel
theorem dX8_command_110 : decode cX8_command 110 = .ok (.aload_n 0, 1) := by decide +kernel
theorem dX8_command_111 : decode cX8_command 111 = .ok (.bipush 61, 2) := by decide +kernel
theorem dX8_command_113 : decode cX8_command 113 = .ok (.invokevirtual 261, 3) := by decide +kernel
theorem dX8_command_116 : decode cX8_command 116 = .ok (.aload_n 0, 1) := by decide +kernel
theorem dX8_command_117 : decode cX8_command 117 = .ok (.iconst 2, 1) := by decide +kernel
theorem dX8_command_118 : decode cX8_command 118 = .ok (.invokevirtual 264, 3) := by decide +kernel
theorem dX8_command_121 : decode cX8_command 121 = .ok (.istore 4, 2) := by decide +kernel
theorem dX8_command_123 : decode cX8_command 123 = .ok (.aload_n 0, 1) := by decide +kernel
theorem dX8_command_124 : decode cX8_command 124 = .ok (.getfield 84, 3) := by decide +kernel
theorem dX8_command_127 : decode cX8_command 127 = .ok (.ifCond .eq 4, 3) := by decide +kernel
theorem dX8_command_130 : decode cX8_command 130 = .ok (.return_, 1) := by decide +kernel
theorem dX8_command_131 : decode cX8_command 131 = .ok (.aload_n 0, 1) := by decide +kernel
theorem dX8_command_132 : decode cX8_command 132 = .ok (.getfield 66, 3) := by decide +kernel
theorem dX8_command_135 : decode cX8_command 135 = .ok (.aload_n 0, 1) := by decide +kernel
theorem dX8_command_136 : decode cX8_command 136 = .ok (.getfield 81, 3) := by decide +kernel
theorem dX8_command_139 : decode cX8_command 139 = .ok (.iload_n 1, 1) := by decide +kernel
theorem dX8_command_140 : decode cX8_command 140 = .ok (.iastore, 1) := by decide +kernel
theorem dX8_command_141 : decode cX8_command 141 = .ok (.aload_n 0, 1) := by decide +kernel
theorem dX8_command_142 : decode cX8_command 142 = .ok (.getfield 69, 3) := by decide +kernel
theorem dX8_command_145 : decode cX8_command 145 = .ok (.iconst 3, 1) := by decide +kernel
theorem dX8_command_146 : decode cX8_command 146 = .ok (.aload_n 0, 1) := by decide +kernel
theorem dX8_command_147 : decode cX8_command 147 = .ok (.getfield 81, 3) := by decide +kernel
theorem dX8_command_150 : decode cX8_command 150 = .ok (.imul, 1) := by decide +kernel
theorem dX8_command_151 : decode cX8_command 151 = .ok (.iload_n 2, 1) := by decide +kernel
theorem dX8_command_152 : decode cX8_command 152 = .ok (.iastore, 1) := by decide +kernel
theorem dX8_command_153 : decode cX8_command 153 = .ok (.aload_n 0, 1) := by decide +kernel
theorem dX8_command_154 : decode cX8_command 154 = .ok (.getfield 69, 3) := by decide +kernel
theorem dX8_command_157 : decode cX8_command 157 = .ok (.iconst 3, 1) := by decide +kernel
theorem dX8_command_158 : decode cX8_command 158 = .ok (.aload_n 0, 1) := by decide +kernel
theorem dX8_command_159 : decode cX8_command 159 = .ok (.getfield 81, 3) := by decide +kernel
theorem dX8_command_162 : decode cX8_command 162 = .ok (.imul, 1) := by decide +kernel
theorem dX8_command_163 : decode cX8_command 163 = .ok (.iconst 1, 1) := by decide +kernel
theorem dX8_command_164 : decode cX8_command 164 = .ok (.iadd, 1) := by decide +kernel
theorem dX8_command_165 : decode cX8_command 165 = .ok (.iload_n 3, 1) := by decide +kernel
theorem dX8_command_166 : decode cX8_command 166 = .ok (.iastore, 1) := by decide +kernel
theorem dX8_command_167 : decode cX8_command 167 = .ok (.aload_n 0, 1) := by decide +kernel
theorem dX8_command_168 : decode cX8_command 168 = .ok (.getfield 69, 3) := by decide +kernel
theorem dX8_command_171 : decode cX8_command 171 = .ok (.iconst 3, 1) := by decide +kernel
theorem dX8_command_172 : decode cX8_command 172 = .ok (.aload_n 0, 1) := by decide +kernel
theorem dX8_command_173 : decode cX8_command 173 = .ok (.getfield 81, 3) := by decide +kernel
theorem dX8_command_176 : decode cX8_command 176 = .ok (.imul, 1) := by decide +kernel
theorem dX8_command_177 : decode cX8_command 177 = .ok (.iconst 2, 1) := by decide +kernel
theorem dX8_command_178 : decode cX8_command 178 = .ok (.iadd, 1) := by decide +kernel
theorem dX8_command_179 : decode cX8_command 179 = .ok (.iload 4, 2) := by decide +kernel
theorem dX8_command_181 : decode cX8_command 181 = .ok (.iastore, 1) := by decide +kernel
theorem dX8_command_182 : decode cX8_command 182 = .ok (.aload_n 0, 1) := by decide +kernel
theorem dX8_command_183 : decode cX8_command 183 = .ok (.dup, 1) := by decide +kernel
theorem dX8_command_184 : decode cX8_command 184 = .ok (.getfield 81, 3) := by decide +kernel
theorem dX8_command_187 : decode cX8_command 187 = .ok (.iconst 1, 1) := by decide +kernel
theorem dX8_command_188 : decode cX8_command 188 = .ok (.iadd, 1) := by decide +kernel
theorem dX8_command_189 : decode cX8_command 189 = .ok (.putfield 81, 3) := by decide +kernel
theorem dX8_command_192 : decode cX8_command 192 = .ok (.return_, 1) := by decide +kernel
theorem dX8_parse_0 : decode cX8_parse 0 = .ok (.aload_n 0, 1) := by decide +kernel
theorem dX8_parse_1 : decode cX8_parse 1 = .ok (.aload_n 0, 1) := by decide +kernel
theorem dX8_parse_2 : decode cX8_parse 2 = .ok (.getfield 72, 3) := by decide +kernel
theorem dX8_parse_5 : decode cX8_parse 5 = .ok (.putfield 75, 3) := by decide +kernel
theorem dX8_parse_8 : decode cX8_parse 8 = .ok (.aload_n 0, 1) := by decide +kernel
theorem dX8_parse_9 : decode cX8_parse 9 = .ok (.iconst 0, 1) := by decide +kernel
theorem dX8_parse_10 : decode cX8_parse 10 = .ok (.putfield 72, 3) := by decide +kernel
theorem dX8_parse_13 : decode cX8_parse 13 = .ok (.aload_n 0, 1) := by decide +kernel
theorem dX8_parse_14 : decode cX8_parse 14 = .ok (.iconst 0, 1) := by decide +kernel
theorem dX8_parse_15 : decode cX8_parse 15 = .ok (.putfield 78, 3) := by decide +kernel
theorem dX8_parse_18 : decode cX8_parse 18 = .ok (.aload_n 0, 1) := by decide +kernel
theorem dX8_parse_19 : decode cX8_parse 19 = .ok (.iconst 0, 1) := by decide +kernel
theorem dX8_parse_20 : decode cX8_parse 20 = .ok (.putfield 81, 3) := by decide +kernel
theorem dX8_parse_23 : decode cX8_parse 23 = .ok (.aload_n 0, 1) := by decide +kernel
theorem dX8_parse_24 : decode cX8_parse 24 = .ok (.iconst 0, 1) := by decide +kernel
theorem dX8_parse_25 : decode cX8_parse 25 = .ok (.putfield 84, 3) := by decide +kernel
theorem dX8_parse_28 : decode cX8_parse 28 = .ok (.aload_n 0, 1) := by decide +kernel
theorem dX8_parse_29 : decode cX8_parse 29 = .ok (.invokevirtual 267, 3) := by decide +kernel
theorem dX8_parse_32 : decode cX8_parse 32 = .ok (.aload_n 0, 1) := by decide +kernel
theorem dX8_parse_33 : decode cX8_parse 33 = .ok (.invokevirtual 248, 3) := by decide +kernel
theorem dX8_parse_36 : decode cX8_parse 36 = .ok (.bipush 59, 2) := by decide +kernel
theorem dX8_parse_38 : decode cX8_parse 38 = .ok (.if_icmp .ne 20, 3) := by decide +kernel
theorem dX8_parse_41 : decode cX8_parse 41 = .ok (.aload_n 0, 1) := by decide +kernel
theorem dX8_parse_42 : decode cX8_parse 42 = .ok (.dup, 1) := by decide +kernel
theorem dX8_parse_43 : decode cX8_parse 43 = .ok (.getfield 78, 3) := by decide +kernel
theorem dX8_parse_46 : decode cX8_parse 46 = .ok (.iconst 1, 1) := by decide +kernel
theorem dX8_parse_47 : decode cX8_parse 47 = .ok (.iadd, 1) := by decide +kernel
theorem dX8_parse_48 : decode cX8_parse 48 = .ok (.putfield 78, 3) := by decide +kernel
theorem dX8_parse_51 : decode cX8_parse 51 = .ok (.aload_n 0, 1) := by decide +kernel
theorem dX8_parse_52 : decode cX8_parse 52 = .ok (.invokevirtual 267, 3) := by decide +kernel
theorem dX8_parse_55 : decode cX8_parse 55 = .ok (.goto (-23), 3) := by decide +kernel
theorem dX8_parse_58 : decode cX8_parse 58 = .ok (.aload_n 0, 1) := by decide +kernel
theorem dX8_parse_59 : decode cX8_parse 59 = .ok (.dup, 1) := by decide +kernel
theorem dX8_parse_60 : decode cX8_parse 60 = .ok (.getfield 84, 3) := by decide +kernel
theorem dX8_parse_63 : decode cX8_parse 63 = .ok (.aload_n 0, 1) := by decide +kernel
theorem dX8_parse_64 : decode cX8_parse 64 = .ok (.getfield 78, 3) := by decide +kernel
theorem dX8_parse_67 : decode cX8_parse 67 = .ok (.aload_n 0, 1) := by decide +kernel
theorem dX8_parse_68 : decode cX8_parse 68 = .ok (.getfield 75, 3) := by decide +kernel
theorem dX8_parse_71 : decode cX8_parse 71 = .ok (.if_icmp .ge 7, 3) := by decide +kernel
theorem dX8_parse_74 : decode cX8_parse 74 = .ok (.iconst 1, 1) := by decide +kernel
theorem dX8_parse_75 : decode cX8_parse 75 = .ok (.goto 4, 3) := by decide +kernel
theorem dX8_parse_78 : decode cX8_parse 78 = .ok (.iconst 0, 1) := by decide +kernel
theorem dX8_parse_79 : decode cX8_parse 79 = .ok (.ior, 1) := by decide +kernel
theorem dX8_parse_80 : decode cX8_parse 80 = .ok (.putfield 84, 3) := by decide +kernel
theorem dX8_parse_83 : decode cX8_parse 83 = .ok (.return_, 1) := by decide +kernel
theorem dX8_cannot_0 : decode cX8_cannot 0 = .ok (.aload_n 0, 1) := by decide +kernel
theorem dX8_cannot_1 : decode cX8_cannot 1 = .ok (.getfield 69, 3) := by decide +kernel
theorem dX8_cannot_4 : decode cX8_cannot 4 = .ok (.iconst 3, 1) := by decide +kernel
theorem dX8_cannot_5 : decode cX8_cannot 5 = .ok (.iload_n 1, 1) := by decide +kernel
theorem dX8_cannot_6 : decode cX8_cannot 6 = .ok (.imul, 1) := by decide +kernel
theorem dX8_cannot_7 : decode cX8_cannot 7 = .ok (.iaload, 1) := by decide +kernel
theorem dX8_cannot_8 : decode cX8_cannot 8 = .ok (.istore_n 2, 1) := by decide +kernel
theorem dX8_cannot_9 : decode cX8_cannot 9 = .ok (.aload_n 0, 1) := by decide +kernel
theorem dX8_cannot_10 : decode cX8_cannot 10 = .ok (.getfield 69, 3) := by decide +kernel
theorem dX8_cannot_13 : decode cX8_cannot 13 = .ok (.iconst 3, 1) := by decide +kernel
theorem dX8_cannot_14 : decode cX8_cannot 14 = .ok (.iload_n 1, 1) := by decide +kernel
theorem dX8_cannot_15 : decode cX8_cannot 15 = .ok (.imul, 1) := by decide +kernel
theorem dX8_cannot_16 : decode cX8_cannot 16 = .ok (.iconst 1, 1) := by decide +kernel
theorem dX8_cannot_17 : decode cX8_cannot 17 = .ok (.iadd, 1) := by decide +kernel
theorem dX8_cannot_18 : decode cX8_cannot 18 = .ok (.iaload, 1) := by decide +kernel
theorem dX8_cannot_19 : decode cX8_cannot 19 = .ok (.istore_n 3, 1) := by decide +kernel
theorem dX8_cannot_20 : decode cX8_cannot 20 = .ok (.iconst 0, 1) := by decide +kernel
theorem dX8_cannot_21 : decode cX8_cannot 21 = .ok (.istore 4, 2) := by decide +kernel
theorem dX8_cannot_23 : decode cX8_cannot 23 = .ok (.iconst 0, 1) := by decide +kernel
theorem dX8_cannot_24 : decode cX8_cannot 24 = .ok (.istore 5, 2) := by decide +kernel
theorem dX8_cannot_26 : decode cX8_cannot 26 = .ok (.aload_n 0, 1) := by decide +kernel
theorem dX8_cannot_27 : decode cX8_cannot 27 = .ok (.getfield 66, 3) := by decide +kernel
theorem dX8_cannot_30 : decode cX8_cannot 30 = .ok (.iload_n 1, 1) := by decide +kernel
theorem dX8_cannot_31 : decode cX8_cannot 31 = .ok (.iaload, 1) := by decide +kernel
theorem dX8_cannot_32 : decode cX8_cannot 32 = .ok (.tableswitch 221 0 6 #[44, 65, 106, 127, 160, 183, 202], 44) := by decide +kernel
theorem dX8_cannot_76 : decode cX8_cannot 76 = .ok (.aload_n 0, 1) := by decide +kernel
theorem dX8_cannot_77 : decode cX8_cannot 77 = .ok (.getfield 7, 3) := by decide +kernel
theorem dX8_cannot_80 : decode cX8_cannot 80 = .ok (.iconst 0, 1) := by decide +kernel
theorem dX8_cannot_81 : decode cX8_cannot 81 = .ok (.iaload, 1) := by decide +kernel
theorem dX8_cannot_82 : decode cX8_cannot 82 = .ok (.bipush 8, 2) := by decide +kernel
theorem dX8_cannot_84 : decode cX8_cannot 84 = .ok (.if_icmp .ne 5, 3) := by decide +kernel
theorem dX8_cannot_87 : decode cX8_cannot 87 = .ok (.iconst 1, 1) := by decide +kernel
theorem dX8_cannot_88 : decode cX8_cannot 88 = .ok (.ireturn, 1) := by decide +kernel
theorem dX8_cannot_89 : decode cX8_cannot 89 = .ok (.aload_n 0, 1) := by decide +kernel
theorem dX8_cannot_90 : decode cX8_cannot 90 = .ok (.invokevirtual 110, 3) := by decide +kernel
theorem dX8_cannot_93 : decode cX8_cannot 93 = .ok (.istore 5, 2) := by decide +kernel
theorem dX8_cannot_95 : decode cX8_cannot 95 = .ok (.iconst 0, 1) := by decide +kernel
theorem dX8_cannot_96 : decode cX8_cannot 96 = .ok (.ireturn, 1) := by decide +kernel
theorem dX8_cannot_97 : decode cX8_cannot 97 = .ok (.aload_n 0, 1) := by decide +kernel
theorem dX8_cannot_98 : decode cX8_cannot 98 = .ok (.iload_n 2, 1) := by decide +kernel
theorem dX8_cannot_99 : decode cX8_cannot 99 = .ok (.iload_n 3, 1) := by decide +kernel
theorem dX8_cannot_100 : decode cX8_cannot 100 = .ok (.aload_n 0, 1) := by decide +kernel
theorem dX8_cannot_101 : decode cX8_cannot 101 = .ok (.getfield 69, 3) := by decide +kernel
theorem dX8_cannot_104 : decode cX8_cannot 104 = .ok (.iconst 3, 1) := by decide +kernel
theorem dX8_cannot_105 : decode cX8_cannot 105 = .ok (.iload_n 1, 1) := by decide +kernel
theorem dX8_cannot_106 : decode cX8_cannot 106 = .ok (.imul, 1) := by decide +kernel
theorem dX8_cannot_107 : decode cX8_cannot 107 = .ok (.iconst 2, 1) := by decide +kernel
theorem dX8_cannot_108 : decode cX8_cannot 108 = .ok (.iadd, 1) := by decide +kernel
theorem dX8_cannot_109 : decode cX8_cannot 109 = .ok (.iaload, 1) := by decide +kernel
theorem dX8_cannot_110 : decode cX8_cannot 110 = .ok (.invokevirtual 125, 3) := by decide +kernel
theorem dX8_cannot_113 : decode cX8_cannot 113 = .ok (.ifCond .le 5, 3) := by decide +kernel
theorem dX8_cannot_116 : decode cX8_cannot 116 = .ok (.iconst 1, 1) := by decide +kernel
theorem dX8_cannot_117 : decode cX8_cannot 117 = .ok (.ireturn, 1) := by decide +kernel
theorem dX8_cannot_118 : decode cX8_cannot 118 = .ok (.aload_n 0, 1) := by decide +kernel
theorem dX8_cannot_119 : decode cX8_cannot 119 = .ok (.iload_n 2, 1) := by decide +kernel
theorem dX8_cannot_120 : decode cX8_cannot 120 = .ok (.iload_n 3, 1) := by decide +kernel
theorem dX8_cannot_121 : decode cX8_cannot 121 = .ok (.aload_n 0, 1) := by decide +kernel
theorem dX8_cannot_122 : decode cX8_cannot 122 = .ok (.getfield 69, 3) := by decide +kernel
theorem dX8_cannot_125 : decode cX8_cannot 125 = .ok (.iconst 3, 1) := by decide +kernel
theorem dX8_cannot_126 : decode cX8_cannot 126 = .ok (.iload_n 1, 1) := by decide +kernel
theorem dX8_cannot_127 : decode cX8_cannot 127 = .ok (.imul, 1) := by decide +kernel
theorem dX8_cannot_128 : decode cX8_cannot 128 = .ok (.iconst 2, 1) := by decide +kernel
theorem dX8_cannot_129 : decode cX8_cannot 129 = .ok (.iadd, 1) := by decide +kernel
theorem dX8_cannot_130 : decode cX8_cannot 130 = .ok (.iaload, 1) := by decide +kernel
theorem dX8_cannot_131 : decode cX8_cannot 131 = .ok (.invokevirtual 129, 3) := by decide +kernel
theorem dX8_cannot_134 : decode cX8_cannot 134 = .ok (.istore 5, 2) := by decide +kernel
theorem dX8_cannot_136 : decode cX8_cannot 136 = .ok (.iconst 0, 1) := by decide +kernel
theorem dX8_cannot_137 : decode cX8_cannot 137 = .ok (.ireturn, 1) := by decide +kernel
theorem dX8_cannot_138 : decode cX8_cannot 138 = .ok (.aload_n 0, 1) := by decide +kernel
theorem dX8_cannot_139 : decode cX8_cannot 139 = .ok (.iload_n 2, 1) := by decide +kernel
theorem dX8_cannot_140 : decode cX8_cannot 140 = .ok (.iload_n 3, 1) := by decide +kernel
theorem dX8_cannot_141 : decode cX8_cannot 141 = .ok (.invokevirtual 132, 3) := by decide +kernel
theorem dX8_cannot_144 : decode cX8_cannot 144 = .ok (.ifCond .le 5, 3) := by decide +kernel
theorem dX8_cannot_147 : decode cX8_cannot 147 = .ok (.iconst 1, 1) := by decide +kernel
theorem dX8_cannot_148 : decode cX8_cannot 148 = .ok (.ireturn, 1) := by decide +kernel
theorem dX8_cannot_149 : decode cX8_cannot 149 = .ok (.aload_n 0, 1) := by decide +kernel
theorem dX8_cannot_150 : decode cX8_cannot 150 = .ok (.iload_n 2, 1) := by decide +kernel
theorem dX8_cannot_151 : decode cX8_cannot 151 = .ok (.iload_n 3, 1) := by decide +kernel
theorem dX8_cannot_152 : decode cX8_cannot 152 = .ok (.invokevirtual 135, 3) := by decide +kernel
theorem dX8_cannot_155 : decode cX8_cannot 155 = .ok (.istore 5, 2) := by decide +kernel
theorem dX8_cannot_157 : decode cX8_cannot 157 = .ok (.iconst 0, 1) := by decide +kernel
theorem dX8_cannot_158 : decode cX8_cannot 158 = .ok (.ireturn, 1) := by decide +kernel
theorem dX8_cannot_159 : decode cX8_cannot 159 = .ok (.aload_n 0, 1) := by decide +kernel
theorem dX8_cannot_160 : decode cX8_cannot 160 = .ok (.iload_n 2, 1) := by decide +kernel
theorem dX8_cannot_161 : decode cX8_cannot 161 = .ok (.iload_n 3, 1) := by decide +kernel
theorem dX8_cannot_162 : decode cX8_cannot 162 = .ok (.invokevirtual 203, 3) := by decide +kernel
theorem dX8_cannot_165 : decode cX8_cannot 165 = .ok (.istore 4, 2) := by decide +kernel
theorem dX8_cannot_167 : decode cX8_cannot 167 = .ok (.aload_n 0, 1) := by decide +kernel
theorem dX8_cannot_168 : decode cX8_cannot 168 = .ok (.iload_n 2, 1) := by decide +kernel
theorem dX8_cannot_169 : decode cX8_cannot 169 = .ok (.iload_n 3, 1) := by decide +kernel
theorem dX8_cannot_170 : decode cX8_cannot 170 = .ok (.iload 4, 2) := by decide +kernel
theorem dX8_cannot_172 : decode cX8_cannot 172 = .ok (.invokevirtual 206, 3) := by decide +kernel
theorem dX8_cannot_175 : decode cX8_cannot 175 = .ok (.iload 4, 2) := by decide +kernel
theorem dX8_cannot_177 : decode cX8_cannot 177 = .ok (.ifCond .le 5, 3) := by decide +kernel
theorem dX8_cannot_180 : decode cX8_cannot 180 = .ok (.iconst 1, 1) := by decide +kernel
theorem dX8_cannot_181 : decode cX8_cannot 181 = .ok (.ireturn, 1) := by decide +kernel
theorem dX8_cannot_182 : decode cX8_cannot 182 = .ok (.aload_n 0, 1) := by decide +kernel
theorem dX8_cannot_183 : decode cX8_cannot 183 = .ok (.iload_n 2, 1) := by decide +kernel
theorem dX8_cannot_184 : decode cX8_cannot 184 = .ok (.iload_n 3, 1) := by decide +kernel
theorem dX8_cannot_185 : decode cX8_cannot 185 = .ok (.invokevirtual 208, 3) := by decide +kernel
theorem dX8_cannot_188 : decode cX8_cannot 188 = .ok (.istore 5, 2) := by decide +kernel
theorem dX8_cannot_190 : decode cX8_cannot 190 = .ok (.iconst 0, 1) := by decide +kernel
theorem dX8_cannot_191 : decode cX8_cannot 191 = .ok (.ireturn, 1) := by decide +kernel
theorem dX8_cannot_192 : decode cX8_cannot 192 = .ok (.aload_n 0, 1) := by decide +kernel
theorem dX8_cannot_193 : decode cX8_cannot 193 = .ok (.iload_n 2, 1) := by decide +kernel
theorem dX8_cannot_194 : decode cX8_cannot 194 = .ok (.invokevirtual 211, 3) := by decide +kernel
theorem dX8_cannot_197 : decode cX8_cannot 197 = .ok (.ifCond .le 5, 3) := by decide +kernel
theorem dX8_cannot_200 : decode cX8_cannot 200 = .ok (.iconst 1, 1) := by decide +kernel
theorem dX8_cannot_201 : decode cX8_cannot 201 = .ok (.ireturn, 1) := by decide +kernel
theorem dX8_cannot_202 : decode cX8_cannot 202 = .ok (.aload_n 0, 1) := by decide +kernel
theorem dX8_cannot_203 : decode cX8_cannot 203 = .ok (.aload_n 0, 1) := by decide +kernel
theorem dX8_cannot_204 : decode cX8_cannot 204 = .ok (.iload_n 2, 1) := by decide +kernel
theorem dX8_cannot_205 : decode cX8_cannot 205 = .ok (.invokevirtual 200, 3) := by decide +kernel
theorem dX8_cannot_208 : decode cX8_cannot 208 = .ok (.invokevirtual 178, 3) := by decide +kernel
theorem dX8_cannot_211 : decode cX8_cannot 211 = .ok (.istore 5, 2) := by decide +kernel
theorem dX8_cannot_213 : decode cX8_cannot 213 = .ok (.iconst 0, 1) := by decide +kernel
theorem dX8_cannot_214 : decode cX8_cannot 214 = .ok (.ireturn, 1) := by decide +kernel
theorem dX8_cannot_215 : decode cX8_cannot 215 = .ok (.aload_n 0, 1) := by decide +kernel
theorem dX8_cannot_216 : decode cX8_cannot 216 = .ok (.iload_n 2, 1) := by decide +kernel
theorem dX8_cannot_217 : decode cX8_cannot 217 = .ok (.invokevirtual 185, 3) := by decide +kernel
theorem dX8_cannot_220 : decode cX8_cannot 220 = .ok (.ifCond .le 5, 3) := by decide +kernel
theorem dX8_cannot_223 : decode cX8_cannot 223 = .ok (.iconst 1, 1) := by decide +kernel
theorem dX8_cannot_224 : decode cX8_cannot 224 = .ok (.ireturn, 1) := by decide +kernel
theorem dX8_cannot_225 : decode cX8_cannot 225 = .ok (.aload_n 0, 1) := by decide +kernel
theorem dX8_cannot_226 : decode cX8_cannot 226 = .ok (.iload_n 2, 1) := by decide +kernel
theorem dX8_cannot_227 : decode cX8_cannot 227 = .ok (.invokevirtual 188, 3) := by decide +kernel
theorem dX8_cannot_230 : decode cX8_cannot 230 = .ok (.istore 5, 2) := by decide +kernel
theorem dX8_cannot_232 : decode cX8_cannot 232 = .ok (.iconst 0, 1) := by decide +kernel
theorem dX8_cannot_233 : decode cX8_cannot 233 = .ok (.ireturn, 1) := by decide +kernel
theorem dX8_cannot_234 : decode cX8_cannot 234 = .ok (.aload_n 0, 1) := by decide +kernel
theorem dX8_cannot_235 : decode cX8_cannot 235 = .ok (.iload_n 2, 1) := by decide +kernel
theorem dX8_cannot_236 : decode cX8_cannot 236 = .ok (.invokevirtual 191, 3) := by decide +kernel
theorem dX8_cannot_239 : decode cX8_cannot 239 = .ok (.ifCond .le 5, 3) := by decide +kernel
theorem dX8_cannot_242 : decode cX8_cannot 242 = .ok (.iconst 1, 1) := by decide +kernel
theorem dX8_cannot_243 : decode cX8_cannot 243 = .ok (.ireturn, 1) := by decide +kernel
theorem dX8_cannot_244 : decode cX8_cannot 244 = .ok (.aload_n 0, 1) := by decide +kernel
theorem dX8_cannot_245 : decode cX8_cannot 245 = .ok (.iload_n 2, 1) := by decide +kernel
theorem dX8_cannot_246 : decode cX8_cannot 246 = .ok (.invokevirtual 194, 3) := by decide +kernel
theorem dX8_cannot_249 : decode cX8_cannot 249 = .ok (.istore 5, 2) := by decide +kernel
theorem dX8_cannot_251 : decode cX8_cannot 251 = .ok (.iconst 0, 1) := by decide +kernel
theorem dX8_cannot_252 : decode cX8_cannot 252 = .ok (.ireturn, 1) := by decide +kernel
theorem dX8_cannot_253 : decode cX8_cannot 253 = .ok (.iload_n 2, 1) := by decide +kernel
theorem dX8_cannot_254 : decode cX8_cannot 254 = .ok (.iconst 1, 1) := by decide +kernel
theorem dX8_cannot_255 : decode cX8_cannot 255 = .ok (.bipush 60, 2) := by decide +kernel
theorem dX8_cannot_257 : decode cX8_cannot 257 = .ok (.invokestatic 91, 3) := by decide +kernel
theorem dX8_cannot_260 : decode cX8_cannot 260 = .ok (.ifCond .ne 5, 3) := by decide +kernel
theorem dX8_cannot_263 : decode cX8_cannot 263 = .ok (.iconst 1, 1) := by decide +kernel
theorem dX8_cannot_264 : decode cX8_cannot 264 = .ok (.ireturn, 1) := by decide +kernel
theorem dX8_cannot_265 : decode cX8_cannot 265 = .ok (.aload_n 0, 1) := by decide +kernel
theorem dX8_cannot_266 : decode cX8_cannot 266 = .ok (.iload_n 2, 1) := by decide +kernel
theorem dX8_cannot_267 : decode cX8_cannot 267 = .ok (.invokevirtual 214, 3) := by decide +kernel
theorem dX8_cannot_270 : decode cX8_cannot 270 = .ok (.istore 5, 2) := by decide +kernel
theorem dX8_cannot_272 : decode cX8_cannot 272 = .ok (.iconst 0, 1) := by decide +kernel
theorem dX8_cannot_273 : decode cX8_cannot 273 = .ok (.ireturn, 1) := by decide +kernel
theorem dX8_run_0 : decode cX8_run 0 = .ok (.aload_n 0, 1) := by decide +kernel
theorem dX8_run_1 : decode cX8_run 1 = .ok (.invokevirtual 103, 3) := by decide +kernel
theorem dX8_run_4 : decode cX8_run 4 = .ok (.aload_n 0, 1) := by decide +kernel
theorem dX8_run_5 : decode cX8_run 5 = .ok (.invokevirtual 270, 3) := by decide +kernel
theorem dX8_run_8 : decode cX8_run 8 = .ok (.aload_n 0, 1) := by decide +kernel
theorem dX8_run_9 : decode cX8_run 9 = .ok (.getfield 84, 3) := by decide +kernel
theorem dX8_run_12 : decode cX8_run 12 = .ok (.ifCond .eq 17, 3) := by decide +kernel
theorem dX8_run_15 : decode cX8_run 15 = .ok (.aload_n 0, 1) := by decide +kernel
theorem dX8_run_16 : decode cX8_run 16 = .ok (.aload_n 0, 1) := by decide +kernel
theorem dX8_run_17 : decode cX8_run 17 = .ok (.getfield 78, 3) := by decide +kernel
theorem dX8_run_20 : decode cX8_run 20 = .ok (.putfield 41, 3) := by decide +kernel
theorem dX8_run_23 : decode cX8_run 23 = .ok (.aload_n 0, 1) := by decide +kernel
theorem dX8_run_24 : decode cX8_run 24 = .ok (.iconst 1, 1) := by decide +kernel
theorem dX8_run_25 : decode cX8_run 25 = .ok (.invokevirtual 106, 3) := by decide +kernel
theorem dX8_run_28 : decode cX8_run 28 = .ok (.ireturn, 1) := by decide +kernel
theorem dX8_run_29 : decode cX8_run 29 = .ok (.iconst 0, 1) := by decide +kernel
theorem dX8_run_30 : decode cX8_run 30 = .ok (.istore_n 1, 1) := by decide +kernel
theorem dX8_run_31 : decode cX8_run 31 = .ok (.iload_n 1, 1) := by decide +kernel
theorem dX8_run_32 : decode cX8_run 32 = .ok (.aload_n 0, 1) := by decide +kernel
theorem dX8_run_33 : decode cX8_run 33 = .ok (.getfield 81, 3) := by decide +kernel
theorem dX8_run_36 : decode cX8_run 36 = .ok (.if_icmp .ge 44, 3) := by decide +kernel
theorem dX8_run_39 : decode cX8_run 39 = .ok (.aload_n 0, 1) := by decide +kernel
theorem dX8_run_40 : decode cX8_run 40 = .ok (.iload_n 1, 1) := by decide +kernel
theorem dX8_run_41 : decode cX8_run 41 = .ok (.invokevirtual 273, 3) := by decide +kernel
theorem dX8_run_44 : decode cX8_run 44 = .ok (.ifCond .ne 6, 3) := by decide +kernel
theorem dX8_run_47 : decode cX8_run 47 = .ok (.goto 27, 3) := by decide +kernel
theorem dX8_run_50 : decode cX8_run 50 = .ok (.aload_n 0, 1) := by decide +kernel
theorem dX8_run_51 : decode cX8_run 51 = .ok (.getfield 13, 3) := by decide +kernel
theorem dX8_run_54 : decode cX8_run 54 = .ok (.iconst 0, 1) := by decide +kernel
theorem dX8_run_55 : decode cX8_run 55 = .ok (.aload_n 0, 1) := by decide +kernel
theorem dX8_run_56 : decode cX8_run 56 = .ok (.getfield 7, 3) := by decide +kernel
theorem dX8_run_59 : decode cX8_run 59 = .ok (.iconst 0, 1) := by decide +kernel
theorem dX8_run_60 : decode cX8_run 60 = .ok (.invokestatic 87, 3) := by decide +kernel
theorem dX8_run_63 : decode cX8_run 63 = .ok (.aload_n 0, 1) := by decide +kernel
theorem dX8_run_64 : decode cX8_run 64 = .ok (.iload_n 1, 1) := by decide +kernel
theorem dX8_run_65 : decode cX8_run 65 = .ok (.putfield 44, 3) := by decide +kernel
theorem dX8_run_68 : decode cX8_run 68 = .ok (.aload_n 0, 1) := by decide +kernel
theorem dX8_run_69 : decode cX8_run 69 = .ok (.iconst 2, 1) := by decide +kernel
theorem dX8_run_70 : decode cX8_run 70 = .ok (.invokevirtual 106, 3) := by decide +kernel
theorem dX8_run_73 : decode cX8_run 73 = .ok (.ireturn, 1) := by decide +kernel
theorem dX8_run_74 : decode cX8_run 74 = .ok (.iinc 1 1, 3) := by decide +kernel
theorem dX8_run_77 : decode cX8_run 77 = .ok (.goto (-46), 3) := by decide +kernel
theorem dX8_run_80 : decode cX8_run 80 = .ok (.aload_n 0, 1) := by decide +kernel
theorem dX8_run_81 : decode cX8_run 81 = .ok (.aload_n 0, 1) := by decide +kernel
theorem dX8_run_82 : decode cX8_run 82 = .ok (.getfield 81, 3) := by decide +kernel
theorem dX8_run_85 : decode cX8_run 85 = .ok (.invokevirtual 114, 3) := by decide +kernel
theorem dX8_run_88 : decode cX8_run 88 = .ok (.ireturn, 1) := by decide +kernel
theorem dX8_present_0 : decode cX8_present 0 = .ok (.aload_n 0, 1) := by decide +kernel
theorem dX8_present_1 : decode cX8_present 1 = .ok (.iload_n 1, 1) := by decide +kernel
theorem dX8_present_2 : decode cX8_present 2 = .ok (.ifCond .lt 7, 3) := by decide +kernel
theorem dX8_present_5 : decode cX8_present 5 = .ok (.iconst 1, 1) := by decide +kernel
theorem dX8_present_6 : decode cX8_present 6 = .ok (.goto 4, 3) := by decide +kernel
theorem dX8_present_9 : decode cX8_present 9 = .ok (.iconst 0, 1) := by decide +kernel
theorem dX8_present_10 : decode cX8_present 10 = .ok (.invokevirtual 220, 3) := by decide +kernel
theorem dX8_present_13 : decode cX8_present 13 = .ok (.ifCond .le 7, 3) := by decide +kernel
theorem dX8_present_16 : decode cX8_present 16 = .ok (.iconst 0, 1) := by decide +kernel
theorem dX8_present_17 : decode cX8_present 17 = .ok (.goto 4, 3) := by decide +kernel
theorem dX8_present_20 : decode cX8_present 20 = .ok (.iload_n 1, 1) := by decide +kernel
theorem dX8_present_21 : decode cX8_present 21 = .ok (.ireturn, 1) := by decide +kernel
theorem dX8_errorPosition_0 : decode cX8_errorPosition 0 = .ok (.aload_n 0, 1) := by decide +kernel
theorem dX8_errorPosition_1 : decode cX8_errorPosition 1 = .ok (.aload_n 0, 1) := by decide +kernel
theorem dX8_errorPosition_2 : decode cX8_errorPosition 2 = .ok (.getfield 41, 3) := by decide +kernel
theorem dX8_errorPosition_5 : decode cX8_errorPosition 5 = .ok (.invokevirtual 276, 3) := by decide +kernel
theorem dX8_errorPosition_8 : decode cX8_errorPosition 8 = .ok (.ireturn, 1) := by decide +kernel
theorem dX8_failedCommand_0 : decode cX8_failedCommand 0 = .ok (.aload_n 0, 1) := by decide +kernel
theorem dX8_failedCommand_1 : decode cX8_failedCommand 1 = .ok (.aload_n 0, 1) := by decide +kernel
theorem dX8_failedCommand_2 : decode cX8_failedCommand 2 = .ok (.getfield 44, 3) := by decide +kernel
theorem dX8_failedCommand_5 : decode cX8_failedCommand 5 = .ok (.invokevirtual 276, 3) := by decide +kernel
theorem dX8_failedCommand_8 : decode cX8_failedCommand 8 = .ok (.ireturn, 1) := by decide +kernel
theorem dX8_undo_0 : decode cX8_undo 0 = .ok (.aload_n 0, 1) := by decide +kernel
theorem dX8_undo_1 : decode cX8_undo 1 = .ok (.aload_n 0, 1) := by decide +kernel
theorem dX8_undo_2 : decode cX8_undo 2 = .ok (.getfield 38, 3) := by decide +kernel
theorem dX8_undo_5 : decode cX8_undo 5 = .ok (.ifCond .le 7, 3) := by decide +kernel
theorem dX8_undo_8 : decode cX8_undo 8 = .ok (.iconst 1, 1) := by decide +kernel
theorem dX8_undo_9 : decode cX8_undo 9 = .ok (.goto 4, 3) := by decide +kernel
theorem dX8_undo_12 : decode cX8_undo 12 = .ok (.iconst 0, 1) := by decide +kernel
theorem dX8_undo_13 : decode cX8_undo 13 = .ok (.invokevirtual 220, 3) := by decide +kernel
theorem dX8_undo_16 : decode cX8_undo 16 = .ok (.ifCond .le 5, 3) := by decide +kernel
theorem dX8_undo_19 : decode cX8_undo 19 = .ok (.iconst 0, 1) := by decide +kernel
theorem dX8_undo_20 : decode cX8_undo 20 = .ok (.ireturn, 1) := by decide +kernel
theorem dX8_undo_21 : decode cX8_undo 21 = .ok (.aload_n 0, 1) := by decide +kernel
theorem dX8_undo_22 : decode cX8_undo 22 = .ok (.dup, 1) := by decide +kernel
theorem dX8_undo_23 : decode cX8_undo 23 = .ok (.getfield 38, 3) := by decide +kernel
theorem dX8_undo_26 : decode cX8_undo 26 = .ok (.iconst 1, 1) := by decide +kernel
theorem dX8_undo_27 : decode cX8_undo 27 = .ok (.isub, 1) := by decide +kernel
theorem dX8_undo_28 : decode cX8_undo 28 = .ok (.putfield 38, 3) := by decide +kernel
theorem dX8_undo_31 : decode cX8_undo 31 = .ok (.aload_n 0, 1) := by decide +kernel
theorem dX8_undo_32 : decode cX8_undo 32 = .ok (.getfield 19, 3) := by decide +kernel
theorem dX8_undo_35 : decode cX8_undo 35 = .ok (.sipush 180, 3) := by decide +kernel
theorem dX8_undo_38 : decode cX8_undo 38 = .ok (.aload_n 0, 1) := by decide +kernel
theorem dX8_undo_39 : decode cX8_undo 39 = .ok (.getfield 38, 3) := by decide +kernel
theorem dX8_undo_42 : decode cX8_undo 42 = .ok (.imul, 1) := by decide +kernel
theorem dX8_undo_43 : decode cX8_undo 43 = .ok (.aload_n 0, 1) := by decide +kernel
theorem dX8_undo_44 : decode cX8_undo 44 = .ok (.getfield 7, 3) := by decide +kernel
theorem dX8_undo_47 : decode cX8_undo 47 = .ok (.iconst 0, 1) := by decide +kernel
theorem dX8_undo_48 : decode cX8_undo 48 = .ok (.invokestatic 87, 3) := by decide +kernel
theorem dX8_undo_51 : decode cX8_undo 51 = .ok (.aload_n 0, 1) := by decide +kernel
theorem dX8_undo_52 : decode cX8_undo 52 = .ok (.getfield 38, 3) := by decide +kernel
theorem dX8_undo_55 : decode cX8_undo 55 = .ok (.ireturn, 1) := by decide +kernel
theorem dX8_save_0 : decode cX8_save 0 = .ok (.aload_n 0, 1) := by decide +kernel
theorem dX8_save_1 : decode cX8_save 1 = .ok (.iconst 0, 1) := by decide +kernel
theorem dX8_save_2 : decode cX8_save 2 = .ok (.putfield 34, 3) := by decide +kernel
theorem dX8_save_5 : decode cX8_save 5 = .ok (.aload_n 0, 1) := by decide +kernel
theorem dX8_save_6 : decode cX8_save 6 = .ok (.getfield 7, 3) := by decide +kernel
theorem dX8_save_9 : decode cX8_save 9 = .ok (.iconst 0, 1) := by decide +kernel
theorem dX8_save_10 : decode cX8_save 10 = .ok (.aload_n 0, 1) := by decide +kernel
theorem dX8_save_11 : decode cX8_save 11 = .ok (.getfield 16, 3) := by decide +kernel
theorem dX8_save_14 : decode cX8_save 14 = .ok (.iconst 0, 1) := by decide +kernel
theorem dX8_save_15 : decode cX8_save 15 = .ok (.invokestatic 87, 3) := by decide +kernel
theorem dX8_save_18 : decode cX8_save 18 = .ok (.aload_n 0, 1) := by decide +kernel
theorem dX8_save_19 : decode cX8_save 19 = .ok (.iconst 1, 1) := by decide +kernel
theorem dX8_save_20 : decode cX8_save 20 = .ok (.putfield 53, 3) := by decide +kernel
theorem dX8_save_23 : decode cX8_save 23 = .ok (.aload_n 0, 1) := by decide +kernel
theorem dX8_save_24 : decode cX8_save 24 = .ok (.getfield 7, 3) := by decide +kernel
theorem dX8_save_27 : decode cX8_save 27 = .ok (.iconst 2, 1) := by decide +kernel
theorem dX8_save_28 : decode cX8_save 28 = .ok (.iaload, 1) := by decide +kernel
theorem dX8_save_29 : decode cX8_save 29 = .ok (.ireturn, 1) := by decide +kernel
theorem dX8_restore_0 : decode cX8_restore 0 = .ok (.aload_n 0, 1) := by decide +kernel
theorem dX8_restore_1 : decode cX8_restore 1 = .ok (.aload_n 0, 1) := by decide +kernel
theorem dX8_restore_2 : decode cX8_restore 2 = .ok (.getfield 53, 3) := by decide +kernel
theorem dX8_restore_5 : decode cX8_restore 5 = .ok (.invokevirtual 220, 3) := by decide +kernel
theorem dX8_restore_8 : decode cX8_restore 8 = .ok (.ifCond .le 5, 3) := by decide +kernel
theorem dX8_restore_11 : decode cX8_restore 11 = .ok (.iconst 0, 1) := by decide +kernel
theorem dX8_restore_12 : decode cX8_restore 12 = .ok (.ireturn, 1) := by decide +kernel
theorem dX8_restore_13 : decode cX8_restore 13 = .ok (.aload_n 0, 1) := by decide +kernel
theorem dX8_restore_14 : decode cX8_restore 14 = .ok (.getfield 16, 3) := by decide +kernel
theorem dX8_restore_17 : decode cX8_restore 17 = .ok (.iconst 0, 1) := by decide +kernel
theorem dX8_restore_18 : decode cX8_restore 18 = .ok (.aload_n 0, 1) := by decide +kernel
theorem dX8_restore_19 : decode cX8_restore 19 = .ok (.getfield 7, 3) := by decide +kernel
theorem dX8_restore_22 : decode cX8_restore 22 = .ok (.iconst 0, 1) := by decide +kernel
theorem dX8_restore_23 : decode cX8_restore 23 = .ok (.invokestatic 87, 3) := by decide +kernel
theorem dX8_restore_26 : decode cX8_restore 26 = .ok (.aload_n 0, 1) := by decide +kernel
theorem dX8_restore_27 : decode cX8_restore 27 = .ok (.iconst 0, 1) := by decide +kernel
theorem dX8_restore_28 : decode cX8_restore 28 = .ok (.putfield 38, 3) := by decide +kernel
theorem dX8_restore_31 : decode cX8_restore 31 = .ok (.aload_n 0, 1) := by decide +kernel
theorem dX8_restore_32 : decode cX8_restore 32 = .ok (.getfield 7, 3) := by decide +kernel
theorem dX8_restore_35 : decode cX8_restore 35 = .ok (.iconst 2, 1) := by decide +kernel
theorem dX8_restore_36 : decode cX8_restore 36 = .ok (.iaload, 1) := by decide +kernel
theorem dX8_restore_37 : decode cX8_restore 37 = .ok (.ireturn, 1) := by decide +kernel
