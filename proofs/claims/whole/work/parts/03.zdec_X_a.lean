theorem dX0_init_0 : decode cX0_init 0 = .ok (.aload_n 0, 1) := by decide +kernel
theorem dX0_init_1 : decode cX0_init 1 = .ok (.invokespecial 3, 3) := by decide +kernel
theorem dX0_init_4 : decode cX0_init 4 = .ok (.aload_n 0, 1) := by decide +kernel
theorem dX0_init_5 : decode cX0_init 5 = .ok (.bipush 8, 2) := by decide +kernel
theorem dX0_init_7 : decode cX0_init 7 = .ok (.newarray .int, 2) := by decide +kernel
theorem dX0_init_9 : decode cX0_init 9 = .ok (.putfield 9, 3) := by decide +kernel
theorem dX0_init_12 : decode cX0_init 12 = .ok (.aload_n 0, 1) := by decide +kernel
theorem dX0_init_13 : decode cX0_init 13 = .ok (.bipush 8, 2) := by decide +kernel
theorem dX0_init_15 : decode cX0_init 15 = .ok (.newarray .int, 2) := by decide +kernel
theorem dX0_init_17 : decode cX0_init 17 = .ok (.putfield 15, 3) := by decide +kernel
theorem dX0_init_20 : decode cX0_init 20 = .ok (.aload_n 0, 1) := by decide +kernel
theorem dX0_init_21 : decode cX0_init 21 = .ok (.bipush 8, 2) := by decide +kernel
theorem dX0_init_23 : decode cX0_init 23 = .ok (.newarray .char, 2) := by decide +kernel
theorem dX0_init_25 : decode cX0_init 25 = .ok (.putfield 18, 3) := by decide +kernel
theorem dX0_init_28 : decode cX0_init 28 = .ok (.return_, 1) := by decide +kernel
theorem dX0_enter_0 : decode cX0_enter 0 = .ok (.aload_n 0, 1) := by decide +kernel
theorem dX0_enter_1 : decode cX0_enter 1 = .ok (.getfield 22, 3) := by decide +kernel
theorem dX0_enter_4 : decode cX0_enter 4 = .ok (.bipush 8, 2) := by decide +kernel
theorem dX0_enter_6 : decode cX0_enter 6 = .ok (.if_icmp .lt 7, 3) := by decide +kernel
theorem dX0_enter_9 : decode cX0_enter 9 = .ok (.aload_n 0, 1) := by decide +kernel
theorem dX0_enter_10 : decode cX0_enter 10 = .ok (.invokevirtual 26, 3) := by decide +kernel
theorem dX0_enter_13 : decode cX0_enter 13 = .ok (.aload_n 0, 1) := by decide +kernel
theorem dX0_enter_14 : decode cX0_enter 14 = .ok (.getfield 9, 3) := by decide +kernel
theorem dX0_enter_17 : decode cX0_enter 17 = .ok (.aload_n 0, 1) := by decide +kernel
theorem dX0_enter_18 : decode cX0_enter 18 = .ok (.getfield 22, 3) := by decide +kernel
theorem dX0_enter_21 : decode cX0_enter 21 = .ok (.iload_n 1, 1) := by decide +kernel
theorem dX0_enter_22 : decode cX0_enter 22 = .ok (.iastore, 1) := by decide +kernel
theorem dX0_enter_23 : decode cX0_enter 23 = .ok (.aload_n 0, 1) := by decide +kernel
theorem dX0_enter_24 : decode cX0_enter 24 = .ok (.getfield 15, 3) := by decide +kernel
theorem dX0_enter_27 : decode cX0_enter 27 = .ok (.aload_n 0, 1) := by decide +kernel
theorem dX0_enter_28 : decode cX0_enter 28 = .ok (.getfield 22, 3) := by decide +kernel
theorem dX0_enter_31 : decode cX0_enter 31 = .ok (.iload_n 2, 1) := by decide +kernel
theorem dX0_enter_32 : decode cX0_enter 32 = .ok (.iastore, 1) := by decide +kernel
theorem dX0_enter_33 : decode cX0_enter 33 = .ok (.aload_n 0, 1) := by decide +kernel
theorem dX0_enter_34 : decode cX0_enter 34 = .ok (.getfield 18, 3) := by decide +kernel
theorem dX0_enter_37 : decode cX0_enter 37 = .ok (.aload_n 0, 1) := by decide +kernel
theorem dX0_enter_38 : decode cX0_enter 38 = .ok (.getfield 22, 3) := by decide +kernel
theorem dX0_enter_41 : decode cX0_enter 41 = .ok (.iload_n 3, 1) := by decide +kernel
theorem dX0_enter_42 : decode cX0_enter 42 = .ok (.castore, 1) := by decide +kernel
theorem dX0_enter_43 : decode cX0_enter 43 = .ok (.aload_n 0, 1) := by decide +kernel
theorem dX0_enter_44 : decode cX0_enter 44 = .ok (.dup, 1) := by decide +kernel
theorem dX0_enter_45 : decode cX0_enter 45 = .ok (.getfield 22, 3) := by decide +kernel
theorem dX0_enter_48 : decode cX0_enter 48 = .ok (.iconst 1, 1) := by decide +kernel
theorem dX0_enter_49 : decode cX0_enter 49 = .ok (.iadd, 1) := by decide +kernel
theorem dX0_enter_50 : decode cX0_enter 50 = .ok (.putfield 22, 3) := by decide +kernel
theorem dX0_enter_53 : decode cX0_enter 53 = .ok (.return_, 1) := by decide +kernel
theorem dX0_dropOldest_0 : decode cX0_dropOldest 0 = .ok (.aload_n 0, 1) := by decide +kernel
theorem dX0_dropOldest_1 : decode cX0_dropOldest 1 = .ok (.bipush 7, 2) := by decide +kernel
theorem dX0_dropOldest_3 : decode cX0_dropOldest 3 = .ok (.putfield 22, 3) := by decide +kernel
theorem dX0_dropOldest_6 : decode cX0_dropOldest 6 = .ok (.iconst 0, 1) := by decide +kernel
theorem dX0_dropOldest_7 : decode cX0_dropOldest 7 = .ok (.istore_n 1, 1) := by decide +kernel
theorem dX0_dropOldest_8 : decode cX0_dropOldest 8 = .ok (.iload_n 1, 1) := by decide +kernel
theorem dX0_dropOldest_9 : decode cX0_dropOldest 9 = .ok (.aload_n 0, 1) := by decide +kernel
theorem dX0_dropOldest_10 : decode cX0_dropOldest 10 = .ok (.getfield 22, 3) := by decide +kernel
theorem dX0_dropOldest_13 : decode cX0_dropOldest 13 = .ok (.if_icmp .ge 51, 3) := by decide +kernel
theorem dX0_dropOldest_16 : decode cX0_dropOldest 16 = .ok (.aload_n 0, 1) := by decide +kernel
theorem dX0_dropOldest_17 : decode cX0_dropOldest 17 = .ok (.getfield 9, 3) := by decide +kernel
theorem dX0_dropOldest_20 : decode cX0_dropOldest 20 = .ok (.iload_n 1, 1) := by decide +kernel
theorem dX0_dropOldest_21 : decode cX0_dropOldest 21 = .ok (.aload_n 0, 1) := by decide +kernel
theorem dX0_dropOldest_22 : decode cX0_dropOldest 22 = .ok (.getfield 9, 3) := by decide +kernel
theorem dX0_dropOldest_25 : decode cX0_dropOldest 25 = .ok (.iload_n 1, 1) := by decide +kernel
theorem dX0_dropOldest_26 : decode cX0_dropOldest 26 = .ok (.iconst 1, 1) := by decide +kernel
theorem dX0_dropOldest_27 : decode cX0_dropOldest 27 = .ok (.iadd, 1) := by decide +kernel
theorem dX0_dropOldest_28 : decode cX0_dropOldest 28 = .ok (.iaload, 1) := by decide +kernel
theorem dX0_dropOldest_29 : decode cX0_dropOldest 29 = .ok (.iastore, 1) := by decide +kernel
theorem dX0_dropOldest_30 : decode cX0_dropOldest 30 = .ok (.aload_n 0, 1) := by decide +kernel
theorem dX0_dropOldest_31 : decode cX0_dropOldest 31 = .ok (.getfield 15, 3) := by decide +kernel
theorem dX0_dropOldest_34 : decode cX0_dropOldest 34 = .ok (.iload_n 1, 1) := by decide +kernel
theorem dX0_dropOldest_35 : decode cX0_dropOldest 35 = .ok (.aload_n 0, 1) := by decide +kernel
theorem dX0_dropOldest_36 : decode cX0_dropOldest 36 = .ok (.getfield 15, 3) := by decide +kernel
theorem dX0_dropOldest_39 : decode cX0_dropOldest 39 = .ok (.iload_n 1, 1) := by decide +kernel
theorem dX0_dropOldest_40 : decode cX0_dropOldest 40 = .ok (.iconst 1, 1) := by decide +kernel
theorem dX0_dropOldest_41 : decode cX0_dropOldest 41 = .ok (.iadd, 1) := by decide +kernel
theorem dX0_dropOldest_42 : decode cX0_dropOldest 42 = .ok (.iaload, 1) := by decide +kernel
theorem dX0_dropOldest_43 : decode cX0_dropOldest 43 = .ok (.iastore, 1) := by decide +kernel
theorem dX0_dropOldest_44 : decode cX0_dropOldest 44 = .ok (.aload_n 0, 1) := by decide +kernel
theorem dX0_dropOldest_45 : decode cX0_dropOldest 45 = .ok (.getfield 18, 3) := by decide +kernel
theorem dX0_dropOldest_48 : decode cX0_dropOldest 48 = .ok (.iload_n 1, 1) := by decide +kernel
theorem dX0_dropOldest_49 : decode cX0_dropOldest 49 = .ok (.aload_n 0, 1) := by decide +kernel
theorem dX0_dropOldest_50 : decode cX0_dropOldest 50 = .ok (.getfield 18, 3) := by decide +kernel
theorem dX0_dropOldest_53 : decode cX0_dropOldest 53 = .ok (.iload_n 1, 1) := by decide +kernel
theorem dX0_dropOldest_54 : decode cX0_dropOldest 54 = .ok (.iconst 1, 1) := by decide +kernel
theorem dX0_dropOldest_55 : decode cX0_dropOldest 55 = .ok (.iadd, 1) := by decide +kernel
theorem dX0_dropOldest_56 : decode cX0_dropOldest 56 = .ok (.caload, 1) := by decide +kernel
theorem dX0_dropOldest_57 : decode cX0_dropOldest 57 = .ok (.castore, 1) := by decide +kernel
theorem dX0_dropOldest_58 : decode cX0_dropOldest 58 = .ok (.iinc 1 1, 3) := by decide +kernel
theorem dX0_dropOldest_61 : decode cX0_dropOldest 61 = .ok (.goto (-53), 3) := by decide +kernel
theorem dX0_dropOldest_64 : decode cX0_dropOldest 64 = .ok (.return_, 1) := by decide +kernel
theorem dX1_init_0 : decode cX1_init 0 = .ok (.aload_n 0, 1) := by decide +kernel
theorem dX1_init_1 : decode cX1_init 1 = .ok (.invokespecial 3, 3) := by decide +kernel
theorem dX1_init_4 : decode cX1_init 4 = .ok (.aload_n 0, 1) := by decide +kernel
theorem dX1_init_5 : decode cX1_init 5 = .ok (.bipush 7, 2) := by decide +kernel
theorem dX1_init_7 : decode cX1_init 7 = .ok (.newarray .int, 2) := by decide +kernel
theorem dX1_init_9 : decode cX1_init 9 = .ok (.putfield 9, 3) := by decide +kernel
theorem dX1_init_12 : decode cX1_init 12 = .ok (.return_, 1) := by decide +kernel
theorem dX1_isOf_0 : decode cX1_isOf 0 = .ok (.aload_n 0, 1) := by decide +kernel
theorem dX1_isOf_1 : decode cX1_isOf 1 = .ok (.getfield 15, 3) := by decide +kernel
theorem dX1_isOf_4 : decode cX1_isOf 4 = .ok (.iload_n 1, 1) := by decide +kernel
theorem dX1_isOf_5 : decode cX1_isOf 5 = .ok (.if_icmp .eq 11, 3) := by decide +kernel
theorem dX1_isOf_8 : decode cX1_isOf 8 = .ok (.aload_n 0, 1) := by decide +kernel
theorem dX1_isOf_9 : decode cX1_isOf 9 = .ok (.getfield 19, 3) := by decide +kernel
theorem dX1_isOf_12 : decode cX1_isOf 12 = .ok (.iload_n 1, 1) := by decide +kernel
theorem dX1_isOf_13 : decode cX1_isOf 13 = .ok (.if_icmp .ne 7, 3) := by decide +kernel
theorem dX1_isOf_16 : decode cX1_isOf 16 = .ok (.iconst 1, 1) := by decide +kernel
theorem dX1_isOf_17 : decode cX1_isOf 17 = .ok (.goto 4, 3) := by decide +kernel
theorem dX1_isOf_20 : decode cX1_isOf 20 = .ok (.iconst 0, 1) := by decide +kernel
theorem dX1_isOf_21 : decode cX1_isOf 21 = .ok (.ireturn, 1) := by decide +kernel
theorem dX1_trunkBits_0 : decode cX1_trunkBits 0 = .ok (.iconst 0, 1) := by decide +kernel
theorem dX1_trunkBits_1 : decode cX1_trunkBits 1 = .ok (.istore_n 1, 1) := by decide +kernel
theorem dX1_trunkBits_2 : decode cX1_trunkBits 2 = .ok (.iconst 0, 1) := by decide +kernel
theorem dX1_trunkBits_3 : decode cX1_trunkBits 3 = .ok (.istore_n 2, 1) := by decide +kernel
theorem dX1_trunkBits_4 : decode cX1_trunkBits 4 = .ok (.iload_n 2, 1) := by decide +kernel
theorem dX1_trunkBits_5 : decode cX1_trunkBits 5 = .ok (.aload_n 0, 1) := by decide +kernel
theorem dX1_trunkBits_6 : decode cX1_trunkBits 6 = .ok (.getfield 22, 3) := by decide +kernel
theorem dX1_trunkBits_9 : decode cX1_trunkBits 9 = .ok (.if_icmp .ge 20, 3) := by decide +kernel
theorem dX1_trunkBits_12 : decode cX1_trunkBits 12 = .ok (.iload_n 1, 1) := by decide +kernel
theorem dX1_trunkBits_13 : decode cX1_trunkBits 13 = .ok (.iconst 1, 1) := by decide +kernel
theorem dX1_trunkBits_14 : decode cX1_trunkBits 14 = .ok (.aload_n 0, 1) := by decide +kernel
theorem dX1_trunkBits_15 : decode cX1_trunkBits 15 = .ok (.getfield 9, 3) := by decide +kernel
theorem dX1_trunkBits_18 : decode cX1_trunkBits 18 = .ok (.iload_n 2, 1) := by decide +kernel
theorem dX1_trunkBits_19 : decode cX1_trunkBits 19 = .ok (.iaload, 1) := by decide +kernel
theorem dX1_trunkBits_20 : decode cX1_trunkBits 20 = .ok (.ishl, 1) := by decide +kernel
theorem dX1_trunkBits_21 : decode cX1_trunkBits 21 = .ok (.ior, 1) := by decide +kernel
theorem dX1_trunkBits_22 : decode cX1_trunkBits 22 = .ok (.istore_n 1, 1) := by decide +kernel
theorem dX1_trunkBits_23 : decode cX1_trunkBits 23 = .ok (.iinc 2 1, 3) := by decide +kernel
theorem dX1_trunkBits_26 : decode cX1_trunkBits 26 = .ok (.goto (-22), 3) := by decide +kernel
theorem dX1_trunkBits_29 : decode cX1_trunkBits 29 = .ok (.iload_n 1, 1) := by decide +kernel
theorem dX1_trunkBits_30 : decode cX1_trunkBits 30 = .ok (.ireturn, 1) := by decide +kernel
theorem dX1_takeRoute_0 : decode cX1_takeRoute 0 = .ok (.aload_n 1, 1) := by decide +kernel
theorem dX1_takeRoute_1 : decode cX1_takeRoute 1 = .ok (.getfield 25, 3) := by decide +kernel
theorem dX1_takeRoute_4 : decode cX1_takeRoute 4 = .ok (.aload_n 0, 1) := by decide +kernel
theorem dX1_takeRoute_5 : decode cX1_takeRoute 5 = .ok (.getfield 9, 3) := by decide +kernel
theorem dX1_takeRoute_8 : decode cX1_takeRoute 8 = .ok (.invokestatic 28, 3) := by decide +kernel
theorem dX1_takeRoute_11 : decode cX1_takeRoute 11 = .ok (.aload_n 0, 1) := by decide +kernel
theorem dX1_takeRoute_12 : decode cX1_takeRoute 12 = .ok (.aload_n 1, 1) := by decide +kernel
theorem dX1_takeRoute_13 : decode cX1_takeRoute 13 = .ok (.getfield 32, 3) := by decide +kernel
theorem dX1_takeRoute_16 : decode cX1_takeRoute 16 = .ok (.putfield 22, 3) := by decide +kernel
theorem dX1_takeRoute_19 : decode cX1_takeRoute 19 = .ok (.aload_n 0, 1) := by decide +kernel
theorem dX1_takeRoute_20 : decode cX1_takeRoute 20 = .ok (.aload_n 1, 1) := by decide +kernel
theorem dX1_takeRoute_21 : decode cX1_takeRoute 21 = .ok (.getfield 33, 3) := by decide +kernel
theorem dX1_takeRoute_24 : decode cX1_takeRoute 24 = .ok (.putfield 36, 3) := by decide +kernel
theorem dX1_takeRoute_27 : decode cX1_takeRoute 27 = .ok (.return_, 1) := by decide +kernel
theorem dX1_copyFrom_0 : decode cX1_copyFrom 0 = .ok (.aload_n 0, 1) := by decide +kernel
theorem dX1_copyFrom_1 : decode cX1_copyFrom 1 = .ok (.aload_n 1, 1) := by decide +kernel
theorem dX1_copyFrom_2 : decode cX1_copyFrom 2 = .ok (.getfield 15, 3) := by decide +kernel
theorem dX1_copyFrom_5 : decode cX1_copyFrom 5 = .ok (.putfield 15, 3) := by decide +kernel
theorem dX1_copyFrom_8 : decode cX1_copyFrom 8 = .ok (.aload_n 0, 1) := by decide +kernel
theorem dX1_copyFrom_9 : decode cX1_copyFrom 9 = .ok (.aload_n 1, 1) := by decide +kernel
theorem dX1_copyFrom_10 : decode cX1_copyFrom 10 = .ok (.getfield 19, 3) := by decide +kernel
theorem dX1_copyFrom_13 : decode cX1_copyFrom 13 = .ok (.putfield 19, 3) := by decide +kernel
theorem dX1_copyFrom_16 : decode cX1_copyFrom 16 = .ok (.aload_n 0, 1) := by decide +kernel
theorem dX1_copyFrom_17 : decode cX1_copyFrom 17 = .ok (.aload_n 1, 1) := by decide +kernel
theorem dX1_copyFrom_18 : decode cX1_copyFrom 18 = .ok (.getfield 37, 3) := by decide +kernel
theorem dX1_copyFrom_21 : decode cX1_copyFrom 21 = .ok (.putfield 37, 3) := by decide +kernel
theorem dX1_copyFrom_24 : decode cX1_copyFrom 24 = .ok (.aload_n 0, 1) := by decide +kernel
theorem dX1_copyFrom_25 : decode cX1_copyFrom 25 = .ok (.aload_n 1, 1) := by decide +kernel
theorem dX1_copyFrom_26 : decode cX1_copyFrom 26 = .ok (.getfield 22, 3) := by decide +kernel
theorem dX1_copyFrom_29 : decode cX1_copyFrom 29 = .ok (.putfield 22, 3) := by decide +kernel
theorem dX1_copyFrom_32 : decode cX1_copyFrom 32 = .ok (.aload_n 0, 1) := by decide +kernel
theorem dX1_copyFrom_33 : decode cX1_copyFrom 33 = .ok (.aload_n 1, 1) := by decide +kernel
theorem dX1_copyFrom_34 : decode cX1_copyFrom 34 = .ok (.getfield 36, 3) := by decide +kernel
theorem dX1_copyFrom_37 : decode cX1_copyFrom 37 = .ok (.putfield 36, 3) := by decide +kernel
theorem dX1_copyFrom_40 : decode cX1_copyFrom 40 = .ok (.aload_n 1, 1) := by decide +kernel
theorem dX1_copyFrom_41 : decode cX1_copyFrom 41 = .ok (.getfield 9, 3) := by decide +kernel
theorem dX1_copyFrom_44 : decode cX1_copyFrom 44 = .ok (.aload_n 0, 1) := by decide +kernel
theorem dX1_copyFrom_45 : decode cX1_copyFrom 45 = .ok (.getfield 9, 3) := by decide +kernel
theorem dX1_copyFrom_48 : decode cX1_copyFrom 48 = .ok (.invokestatic 28, 3) := by decide +kernel
theorem dX1_copyFrom_51 : decode cX1_copyFrom 51 = .ok (.return_, 1) := by decide +kernel
theorem dX2_init_0 : decode cX2_init 0 = .ok (.aload_n 0, 1) := by decide +kernel
theorem dX2_init_1 : decode cX2_init 1 = .ok (.invokespecial 3, 3) := by decide +kernel
theorem dX2_init_4 : decode cX2_init 4 = .ok (.aload_n 0, 1) := by decide +kernel
theorem dX2_init_5 : decode cX2_init 5 = .ok (.bipush 8, 2) := by decide +kernel
theorem dX2_init_7 : decode cX2_init 7 = .ok (.anewarray 9, 3) := by decide +kernel
theorem dX2_init_10 : decode cX2_init 10 = .ok (.putfield 11, 3) := by decide +kernel
theorem dX2_init_13 : decode cX2_init 13 = .ok (.iconst 0, 1) := by decide +kernel
theorem dX2_init_14 : decode cX2_init 14 = .ok (.istore_n 1, 1) := by decide +kernel
theorem dX2_init_15 : decode cX2_init 15 = .ok (.iload_n 1, 1) := by decide +kernel
theorem dX2_init_16 : decode cX2_init 16 = .ok (.bipush 8, 2) := by decide +kernel
theorem dX2_init_18 : decode cX2_init 18 = .ok (.if_icmp .ge 22, 3) := by decide +kernel
theorem dX2_init_21 : decode cX2_init 21 = .ok (.aload_n 0, 1) := by decide +kernel
theorem dX2_init_22 : decode cX2_init 22 = .ok (.getfield 11, 3) := by decide +kernel
theorem dX2_init_25 : decode cX2_init 25 = .ok (.iload_n 1, 1) := by decide +kernel
theorem dX2_init_26 : decode cX2_init 26 = .ok (.new 9, 3) := by decide +kernel
theorem dX2_init_29 : decode cX2_init 29 = .ok (.dup, 1) := by decide +kernel
theorem dX2_init_30 : decode cX2_init 30 = .ok (.invokespecial 17, 3) := by decide +kernel
theorem dX2_init_33 : decode cX2_init 33 = .ok (.aastore, 1) := by decide +kernel
theorem dX2_init_34 : decode cX2_init 34 = .ok (.iinc 1 1, 3) := by decide +kernel
theorem dX2_init_37 : decode cX2_init 37 = .ok (.goto (-22), 3) := by decide +kernel
theorem dX2_init_40 : decode cX2_init 40 = .ok (.return_, 1) := by decide +kernel
theorem dX2_keep_0 : decode cX2_keep 0 = .ok (.aload_n 0, 1) := by decide +kernel
theorem dX2_keep_1 : decode cX2_keep 1 = .ok (.getfield 11, 3) := by decide +kernel
theorem dX2_keep_4 : decode cX2_keep 4 = .ok (.aload_n 0, 1) := by decide +kernel
theorem dX2_keep_5 : decode cX2_keep 5 = .ok (.getfield 18, 3) := by decide +kernel
theorem dX2_keep_8 : decode cX2_keep 8 = .ok (.aaload, 1) := by decide +kernel
theorem dX2_keep_9 : decode cX2_keep 9 = .ok (.aload_n 1, 1) := by decide +kernel
theorem dX2_keep_10 : decode cX2_keep 10 = .ok (.invokevirtual 22, 3) := by decide +kernel
theorem dX2_keep_13 : decode cX2_keep 13 = .ok (.aload_n 0, 1) := by decide +kernel
theorem dX2_keep_14 : decode cX2_keep 14 = .ok (.aload_n 0, 1) := by decide +kernel
theorem dX2_keep_15 : decode cX2_keep 15 = .ok (.getfield 18, 3) := by decide +kernel
theorem dX2_keep_18 : decode cX2_keep 18 = .ok (.iconst 1, 1) := by decide +kernel
theorem dX2_keep_19 : decode cX2_keep 19 = .ok (.iadd, 1) := by decide +kernel
theorem dX2_keep_20 : decode cX2_keep 20 = .ok (.bipush 8, 2) := by decide +kernel
theorem dX2_keep_22 : decode cX2_keep 22 = .ok (.if_icmp .ge 12, 3) := by decide +kernel
theorem dX2_keep_25 : decode cX2_keep 25 = .ok (.aload_n 0, 1) := by decide +kernel
theorem dX2_keep_26 : decode cX2_keep 26 = .ok (.getfield 18, 3) := by decide +kernel
theorem dX2_keep_29 : decode cX2_keep 29 = .ok (.iconst 1, 1) := by decide +kernel
theorem dX2_keep_30 : decode cX2_keep 30 = .ok (.iadd, 1) := by decide +kernel
theorem dX2_keep_31 : decode cX2_keep 31 = .ok (.goto 4, 3) := by decide +kernel
theorem dX2_keep_34 : decode cX2_keep 34 = .ok (.iconst 0, 1) := by decide +kernel
theorem dX2_keep_35 : decode cX2_keep 35 = .ok (.putfield 18, 3) := by decide +kernel
theorem dX2_keep_38 : decode cX2_keep 38 = .ok (.aload_n 0, 1) := by decide +kernel
theorem dX2_keep_39 : decode cX2_keep 39 = .ok (.aload_n 0, 1) := by decide +kernel
theorem dX2_keep_40 : decode cX2_keep 40 = .ok (.getfield 26, 3) := by decide +kernel
theorem dX2_keep_43 : decode cX2_keep 43 = .ok (.iconst 1, 1) := by decide +kernel
theorem dX2_keep_44 : decode cX2_keep 44 = .ok (.iadd, 1) := by decide +kernel
theorem dX2_keep_45 : decode cX2_keep 45 = .ok (.bipush 8, 2) := by decide +kernel
theorem dX2_keep_47 : decode cX2_keep 47 = .ok (.invokestatic 29, 3) := by decide +kernel
theorem dX2_keep_50 : decode cX2_keep 50 = .ok (.putfield 26, 3) := by decide +kernel
theorem dX2_keep_53 : decode cX2_keep 53 = .ok (.return_, 1) := by decide +kernel
theorem dX2_takeBack_0 : decode cX2_takeBack 0 = .ok (.aload_n 0, 1) := by decide +kernel
theorem dX2_takeBack_1 : decode cX2_takeBack 1 = .ok (.aload_n 0, 1) := by decide +kernel
theorem dX2_takeBack_2 : decode cX2_takeBack 2 = .ok (.getfield 18, 3) := by decide +kernel
theorem dX2_takeBack_5 : decode cX2_takeBack 5 = .ok (.ifCond .le 12, 3) := by decide +kernel
theorem dX2_takeBack_8 : decode cX2_takeBack 8 = .ok (.aload_n 0, 1) := by decide +kernel
theorem dX2_takeBack_9 : decode cX2_takeBack 9 = .ok (.getfield 18, 3) := by decide +kernel
theorem dX2_takeBack_12 : decode cX2_takeBack 12 = .ok (.iconst 1, 1) := by decide +kernel
theorem dX2_takeBack_13 : decode cX2_takeBack 13 = .ok (.isub, 1) := by decide +kernel
theorem dX2_takeBack_14 : decode cX2_takeBack 14 = .ok (.goto 5, 3) := by decide +kernel
theorem dX2_takeBack_17 : decode cX2_takeBack 17 = .ok (.bipush 7, 2) := by decide +kernel
theorem dX2_takeBack_19 : decode cX2_takeBack 19 = .ok (.putfield 18, 3) := by decide +kernel
theorem dX2_takeBack_22 : decode cX2_takeBack 22 = .ok (.aload_n 0, 1) := by decide +kernel
theorem dX2_takeBack_23 : decode cX2_takeBack 23 = .ok (.dup, 1) := by decide +kernel
theorem dX2_takeBack_24 : decode cX2_takeBack 24 = .ok (.getfield 26, 3) := by decide +kernel
theorem dX2_takeBack_27 : decode cX2_takeBack 27 = .ok (.iconst 1, 1) := by decide +kernel
theorem dX2_takeBack_28 : decode cX2_takeBack 28 = .ok (.isub, 1) := by decide +kernel
theorem dX2_takeBack_29 : decode cX2_takeBack 29 = .ok (.putfield 26, 3) := by decide +kernel
theorem dX2_takeBack_32 : decode cX2_takeBack 32 = .ok (.aload_n 1, 1) := by decide +kernel
theorem dX2_takeBack_33 : decode cX2_takeBack 33 = .ok (.aload_n 0, 1) := by decide +kernel
theorem dX2_takeBack_34 : decode cX2_takeBack 34 = .ok (.getfield 11, 3) := by decide +kernel
theorem dX2_takeBack_37 : decode cX2_takeBack 37 = .ok (.aload_n 0, 1) := by decide +kernel
theorem dX2_takeBack_38 : decode cX2_takeBack 38 = .ok (.getfield 18, 3) := by decide +kernel
theorem dX2_takeBack_41 : decode cX2_takeBack 41 = .ok (.aaload, 1) := by decide +kernel
theorem dX2_takeBack_42 : decode cX2_takeBack 42 = .ok (.invokevirtual 22, 3) := by decide +kernel
theorem dX2_takeBack_45 : decode cX2_takeBack 45 = .ok (.return_, 1) := by decide +kernel
theorem dX2_forget_0 : decode cX2_forget 0 = .ok (.aload_n 0, 1) := by decide +kernel
theorem dX2_forget_1 : decode cX2_forget 1 = .ok (.iconst 0, 1) := by decide +kernel
theorem dX2_forget_2 : decode cX2_forget 2 = .ok (.putfield 26, 3) := by decide +kernel
theorem dX2_forget_5 : decode cX2_forget 5 = .ok (.return_, 1) := by decide +kernel
theorem dX3_init_0 : decode cX3_init 0 = .ok (.aload_n 0, 1) := by decide +kernel
theorem dX3_init_1 : decode cX3_init 1 = .ok (.invokespecial 3, 3) := by decide +kernel
theorem dX3_init_4 : decode cX3_init 4 = .ok (.aload_n 0, 1) := by decide +kernel
theorem dX3_init_5 : decode cX3_init 5 = .ok (.bipush 16, 2) := by decide +kernel
theorem dX3_init_7 : decode cX3_init 7 = .ok (.newarray .int, 2) := by decide +kernel
theorem dX3_init_9 : decode cX3_init 9 = .ok (.putfield 9, 3) := by decide +kernel
theorem dX3_init_12 : decode cX3_init 12 = .ok (.aload_n 0, 1) := by decide +kernel
theorem dX3_init_13 : decode cX3_init 13 = .ok (.bipush 16, 2) := by decide +kernel
theorem dX3_init_15 : decode cX3_init 15 = .ok (.newarray .int, 2) := by decide +kernel
theorem dX3_init_17 : decode cX3_init 17 = .ok (.putfield 15, 3) := by decide +kernel
theorem dX3_init_20 : decode cX3_init 20 = .ok (.aload_n 0, 1) := by decide +kernel
theorem dX3_init_21 : decode cX3_init 21 = .ok (.bipush 16, 2) := by decide +kernel
theorem dX3_init_23 : decode cX3_init 23 = .ok (.newarray .int, 2) := by decide +kernel
theorem dX3_init_25 : decode cX3_init 25 = .ok (.putfield 18, 3) := by decide +kernel
theorem dX3_init_28 : decode cX3_init 28 = .ok (.aload_n 0, 1) := by decide +kernel
theorem dX3_init_29 : decode cX3_init 29 = .ok (.bipush 16, 2) := by decide +kernel
theorem dX3_init_31 : decode cX3_init 31 = .ok (.newarray .int, 2) := by decide +kernel
theorem dX3_init_33 : decode cX3_init 33 = .ok (.putfield 21, 3) := by decide +kernel
theorem dX3_init_36 : decode cX3_init 36 = .ok (.return_, 1) := by decide +kernel
theorem dX3_hasSwitch_0 : decode cX3_hasSwitch 0 = .ok (.iload_n 1, 1) := by decide +kernel
theorem dX3_hasSwitch_1 : decode cX3_hasSwitch 1 = .ok (.ifCond .lt 15, 3) := by decide +kernel
theorem dX3_hasSwitch_4 : decode cX3_hasSwitch 4 = .ok (.iload_n 1, 1) := by decide +kernel
theorem dX3_hasSwitch_5 : decode cX3_hasSwitch 5 = .ok (.aload_n 0, 1) := by decide +kernel
theorem dX3_hasSwitch_6 : decode cX3_hasSwitch 6 = .ok (.getfield 24, 3) := by decide +kernel
theorem dX3_hasSwitch_9 : decode cX3_hasSwitch 9 = .ok (.if_icmp .ge 7, 3) := by decide +kernel
theorem dX3_hasSwitch_12 : decode cX3_hasSwitch 12 = .ok (.iconst 1, 1) := by decide +kernel
theorem dX3_hasSwitch_13 : decode cX3_hasSwitch 13 = .ok (.goto 4, 3) := by decide +kernel
theorem dX3_hasSwitch_16 : decode cX3_hasSwitch 16 = .ok (.iconst 0, 1) := by decide +kernel
theorem dX3_hasSwitch_17 : decode cX3_hasSwitch 17 = .ok (.ireturn, 1) := by decide +kernel
theorem dX3_hasTrunk_0 : decode cX3_hasTrunk 0 = .ok (.iload_n 1, 1) := by decide +kernel
theorem dX3_hasTrunk_1 : decode cX3_hasTrunk 1 = .ok (.ifCond .lt 15, 3) := by decide +kernel
theorem dX3_hasTrunk_4 : decode cX3_hasTrunk 4 = .ok (.iload_n 1, 1) := by decide +kernel
theorem dX3_hasTrunk_5 : decode cX3_hasTrunk 5 = .ok (.aload_n 0, 1) := by decide +kernel
theorem dX3_hasTrunk_6 : decode cX3_hasTrunk 6 = .ok (.getfield 28, 3) := by decide +kernel
theorem dX3_hasTrunk_9 : decode cX3_hasTrunk 9 = .ok (.if_icmp .ge 7, 3) := by decide +kernel
theorem dX3_hasTrunk_12 : decode cX3_hasTrunk 12 = .ok (.iconst 1, 1) := by decide +kernel
theorem dX3_hasTrunk_13 : decode cX3_hasTrunk 13 = .ok (.goto 4, 3) := by decide +kernel
theorem dX3_hasTrunk_16 : decode cX3_hasTrunk 16 = .ok (.iconst 0, 1) := by decide +kernel
theorem dX3_hasTrunk_17 : decode cX3_hasTrunk 17 = .ok (.ireturn, 1) := by decide +kernel
theorem dX3_switchProblem_0 : decode cX3_switchProblem 0 = .ok (.aload_n 0, 1) := by decide +kernel
theorem dX3_switchProblem_1 : decode cX3_switchProblem 1 = .ok (.getfield 24, 3) := by decide +kernel
theorem dX3_switchProblem_4 : decode cX3_switchProblem 4 = .ok (.bipush 8, 2) := by decide +kernel
theorem dX3_switchProblem_6 : decode cX3_switchProblem 6 = .ok (.if_icmp .ge 7, 3) := by decide +kernel
theorem dX3_switchProblem_9 : decode cX3_switchProblem 9 = .ok (.iconst 0, 1) := by decide +kernel
theorem dX3_switchProblem_10 : decode cX3_switchProblem 10 = .ok (.goto 4, 3) := by decide +kernel
theorem dX3_switchProblem_13 : decode cX3_switchProblem 13 = .ok (.iconst 3, 1) := by decide +kernel
theorem dX3_switchProblem_14 : decode cX3_switchProblem 14 = .ok (.ireturn, 1) := by decide +kernel
theorem dX3_trunkProblem_0 : decode cX3_trunkProblem 0 = .ok (.aload_n 0, 1) := by decide +kernel
theorem dX3_trunkProblem_1 : decode cX3_trunkProblem 1 = .ok (.iload_n 1, 1) := by decide +kernel
theorem dX3_trunkProblem_2 : decode cX3_trunkProblem 2 = .ok (.invokevirtual 31, 3) := by decide +kernel
theorem dX3_trunkProblem_5 : decode cX3_trunkProblem 5 = .ok (.ifCond .eq 11, 3) := by decide +kernel
theorem dX3_trunkProblem_8 : decode cX3_trunkProblem 8 = .ok (.aload_n 0, 1) := by decide +kernel
theorem dX3_trunkProblem_9 : decode cX3_trunkProblem 9 = .ok (.iload_n 2, 1) := by decide +kernel
theorem dX3_trunkProblem_10 : decode cX3_trunkProblem 10 = .ok (.invokevirtual 31, 3) := by decide +kernel
theorem dX3_trunkProblem_13 : decode cX3_trunkProblem 13 = .ok (.ifCond .ne 5, 3) := by decide +kernel
theorem dX3_trunkProblem_16 : decode cX3_trunkProblem 16 = .ok (.iconst 1, 1) := by decide +kernel
theorem dX3_trunkProblem_17 : decode cX3_trunkProblem 17 = .ok (.ireturn, 1) := by decide +kernel
theorem dX3_trunkProblem_18 : decode cX3_trunkProblem 18 = .ok (.iload_n 1, 1) := by decide +kernel
theorem dX3_trunkProblem_19 : decode cX3_trunkProblem 19 = .ok (.iload_n 2, 1) := by decide +kernel
theorem dX3_trunkProblem_20 : decode cX3_trunkProblem 20 = .ok (.if_icmp .eq 14, 3) := by decide +kernel
theorem dX3_trunkProblem_23 : decode cX3_trunkProblem 23 = .ok (.iload_n 3, 1) := by decide +kernel
theorem dX3_trunkProblem_24 : decode cX3_trunkProblem 24 = .ok (.iconst 1, 1) := by decide +kernel
theorem dX3_trunkProblem_25 : decode cX3_trunkProblem 25 = .ok (.if_icmp .lt 9, 3) := by decide +kernel
theorem dX3_trunkProblem_28 : decode cX3_trunkProblem 28 = .ok (.iload_n 3, 1) := by decide +kernel
theorem dX3_trunkProblem_29 : decode cX3_trunkProblem 29 = .ok (.bipush 20, 2) := by decide +kernel
theorem dX3_trunkProblem_31 : decode cX3_trunkProblem 31 = .ok (.if_icmp .le 5, 3) := by decide +kernel
theorem dX3_trunkProblem_34 : decode cX3_trunkProblem 34 = .ok (.iconst 2, 1) := by decide +kernel
theorem dX3_trunkProblem_35 : decode cX3_trunkProblem 35 = .ok (.ireturn, 1) := by decide +kernel
theorem dX3_trunkProblem_36 : decode cX3_trunkProblem 36 = .ok (.aload_n 0, 1) := by decide +kernel
theorem dX3_trunkProblem_37 : decode cX3_trunkProblem 37 = .ok (.getfield 28, 3) := by decide +kernel
theorem dX3_trunkProblem_40 : decode cX3_trunkProblem 40 = .ok (.bipush 16, 2) := by decide +kernel
theorem dX3_trunkProblem_42 : decode cX3_trunkProblem 42 = .ok (.if_icmp .ge 7, 3) := by decide +kernel
theorem dX3_trunkProblem_45 : decode cX3_trunkProblem 45 = .ok (.iconst 0, 1) := by decide +kernel
theorem dX3_trunkProblem_46 : decode cX3_trunkProblem 46 = .ok (.goto 4, 3) := by decide +kernel
theorem dX3_trunkProblem_49 : decode cX3_trunkProblem 49 = .ok (.iconst 3, 1) := by decide +kernel
theorem dX3_trunkProblem_50 : decode cX3_trunkProblem 50 = .ok (.ireturn, 1) := by decide +kernel
theorem dX3_repairProblem_0 : decode cX3_repairProblem 0 = .ok (.aload_n 0, 1) := by decide +kernel
theorem dX3_repairProblem_1 : decode cX3_repairProblem 1 = .ok (.iload_n 1, 1) := by decide +kernel
theorem dX3_repairProblem_2 : decode cX3_repairProblem 2 = .ok (.invokevirtual 35, 3) := by decide +kernel
theorem dX3_repairProblem_5 : decode cX3_repairProblem 5 = .ok (.ifCond .ne 5, 3) := by decide +kernel
theorem dX3_repairProblem_8 : decode cX3_repairProblem 8 = .ok (.iconst 1, 1) := by decide +kernel
theorem dX3_repairProblem_9 : decode cX3_repairProblem 9 = .ok (.ireturn, 1) := by decide +kernel
theorem dX3_repairProblem_10 : decode cX3_repairProblem 10 = .ok (.aload_n 0, 1) := by decide +kernel
theorem dX3_repairProblem_11 : decode cX3_repairProblem 11 = .ok (.getfield 38, 3) := by decide +kernel
theorem dX3_repairProblem_14 : decode cX3_repairProblem 14 = .ok (.iload_n 1, 1) := by decide +kernel
theorem dX3_repairProblem_15 : decode cX3_repairProblem 15 = .ok (.invokestatic 41, 3) := by decide +kernel
theorem dX3_repairProblem_18 : decode cX3_repairProblem 18 = .ok (.iload_n 2, 1) := by decide +kernel
theorem dX3_repairProblem_19 : decode cX3_repairProblem 19 = .ok (.if_icmp .ne 7, 3) := by decide +kernel
theorem dX3_repairProblem_22 : decode cX3_repairProblem 22 = .ok (.iconst 0, 1) := by decide +kernel
theorem dX3_repairProblem_23 : decode cX3_repairProblem 23 = .ok (.goto 4, 3) := by decide +kernel
theorem dX3_repairProblem_26 : decode cX3_repairProblem 26 = .ok (.iconst 3, 1) := by decide +kernel
theorem dX3_repairProblem_27 : decode cX3_repairProblem 27 = .ok (.ireturn, 1) := by decide +kernel
theorem dX3_attachSwitch_0 : decode cX3_attachSwitch 0 = .ok (.aload_n 0, 1) := by decide +kernel
theorem dX3_attachSwitch_1 : decode cX3_attachSwitch 1 = .ok (.dup, 1) := by decide +kernel
theorem dX3_attachSwitch_2 : decode cX3_attachSwitch 2 = .ok (.getfield 24, 3) := by decide +kernel
theorem dX3_attachSwitch_5 : decode cX3_attachSwitch 5 = .ok (.dup_x1, 1) := by decide +kernel
theorem dX3_attachSwitch_6 : decode cX3_attachSwitch 6 = .ok (.iconst 1, 1) := by decide +kernel
theorem dX3_attachSwitch_7 : decode cX3_attachSwitch 7 = .ok (.iadd, 1) := by decide +kernel
theorem dX3_attachSwitch_8 : decode cX3_attachSwitch 8 = .ok (.putfield 24, 3) := by decide +kernel
theorem dX3_attachSwitch_11 : decode cX3_attachSwitch 11 = .ok (.ireturn, 1) := by decide +kernel
theorem dX3_attachTrunk_0 : decode cX3_attachTrunk 0 = .ok (.aload_n 0, 1) := by decide +kernel
theorem dX3_attachTrunk_1 : decode cX3_attachTrunk 1 = .ok (.getfield 28, 3) := by decide +kernel
theorem dX3_attachTrunk_4 : decode cX3_attachTrunk 4 = .ok (.istore 4, 2) := by decide +kernel
theorem dX3_attachTrunk_6 : decode cX3_attachTrunk 6 = .ok (.iload 4, 2) := by decide +kernel
theorem dX3_attachTrunk_8 : decode cX3_attachTrunk 8 = .ok (.bipush 16, 2) := by decide +kernel
theorem dX3_attachTrunk_10 : decode cX3_attachTrunk 10 = .ok (.if_icmp .lt 5, 3) := by decide +kernel
theorem dX3_attachTrunk_13 : decode cX3_attachTrunk 13 = .ok (.iconst (-1), 1) := by decide +kernel
theorem dX3_attachTrunk_14 : decode cX3_attachTrunk 14 = .ok (.ireturn, 1) := by decide +kernel
theorem dX3_attachTrunk_15 : decode cX3_attachTrunk 15 = .ok (.aload_n 0, 1) := by decide +kernel
theorem dX3_attachTrunk_16 : decode cX3_attachTrunk 16 = .ok (.getfield 9, 3) := by decide +kernel
theorem dX3_attachTrunk_19 : decode cX3_attachTrunk 19 = .ok (.iload 4, 2) := by decide +kernel
theorem dX3_attachTrunk_21 : decode cX3_attachTrunk 21 = .ok (.iload_n 1, 1) := by decide +kernel
theorem dX3_attachTrunk_22 : decode cX3_attachTrunk 22 = .ok (.iastore, 1) := by decide +kernel
theorem dX3_attachTrunk_23 : decode cX3_attachTrunk 23 = .ok (.aload_n 0, 1) := by decide +kernel
theorem dX3_attachTrunk_24 : decode cX3_attachTrunk 24 = .ok (.getfield 15, 3) := by decide +kernel
theorem dX3_attachTrunk_27 : decode cX3_attachTrunk 27 = .ok (.iload 4, 2) := by decide +kernel
theorem dX3_attachTrunk_29 : decode cX3_attachTrunk 29 = .ok (.iload_n 2, 1) := by decide +kernel
theorem dX3_attachTrunk_30 : decode cX3_attachTrunk 30 = .ok (.iastore, 1) := by decide +kernel
theorem dX3_attachTrunk_31 : decode cX3_attachTrunk 31 = .ok (.aload_n 0, 1) := by decide +kernel
theorem dX3_attachTrunk_32 : decode cX3_attachTrunk 32 = .ok (.getfield 18, 3) := by decide +kernel
theorem dX3_attachTrunk_35 : decode cX3_attachTrunk 35 = .ok (.iload 4, 2) := by decide +kernel
theorem dX3_attachTrunk_37 : decode cX3_attachTrunk 37 = .ok (.iload_n 3, 1) := by decide +kernel
theorem dX3_attachTrunk_38 : decode cX3_attachTrunk 38 = .ok (.iastore, 1) := by decide +kernel
theorem dX3_attachTrunk_39 : decode cX3_attachTrunk 39 = .ok (.aload_n 0, 1) := by decide +kernel
theorem dX3_attachTrunk_40 : decode cX3_attachTrunk 40 = .ok (.dup, 1) := by decide +kernel
theorem dX3_attachTrunk_41 : decode cX3_attachTrunk 41 = .ok (.getfield 28, 3) := by decide +kernel
theorem dX3_attachTrunk_44 : decode cX3_attachTrunk 44 = .ok (.iconst 1, 1) := by decide +kernel
theorem dX3_attachTrunk_45 : decode cX3_attachTrunk 45 = .ok (.iadd, 1) := by decide +kernel
theorem dX3_attachTrunk_46 : decode cX3_attachTrunk 46 = .ok (.putfield 28, 3) := by decide +kernel
theorem dX3_attachTrunk_49 : decode cX3_attachTrunk 49 = .ok (.iload 4, 2) := by decide +kernel
theorem dX3_attachTrunk_51 : decode cX3_attachTrunk 51 = .ok (.ireturn, 1) := by decide +kernel
theorem dX3_repairTrunk_0 : decode cX3_repairTrunk 0 = .ok (.aload_n 0, 1) := by decide +kernel
theorem dX3_repairTrunk_1 : decode cX3_repairTrunk 1 = .ok (.dup, 1) := by decide +kernel
theorem dX3_repairTrunk_2 : decode cX3_repairTrunk 2 = .ok (.getfield 38, 3) := by decide +kernel
theorem dX3_repairTrunk_5 : decode cX3_repairTrunk 5 = .ok (.iload_n 1, 1) := by decide +kernel
theorem dX3_repairTrunk_6 : decode cX3_repairTrunk 6 = .ok (.invokestatic 45, 3) := by decide +kernel
theorem dX3_repairTrunk_9 : decode cX3_repairTrunk 9 = .ok (.iconst (-1), 1) := by decide +kernel
theorem dX3_repairTrunk_10 : decode cX3_repairTrunk 10 = .ok (.ixor, 1) := by decide +kernel
theorem dX3_repairTrunk_11 : decode cX3_repairTrunk 11 = .ok (.iand, 1) := by decide +kernel
theorem dX3_repairTrunk_12 : decode cX3_repairTrunk 12 = .ok (.putfield 38, 3) := by decide +kernel
theorem dX3_repairTrunk_15 : decode cX3_repairTrunk 15 = .ok (.aload_n 0, 1) := by decide +kernel
theorem dX3_repairTrunk_16 : decode cX3_repairTrunk 16 = .ok (.getfield 38, 3) := by decide +kernel
theorem dX3_repairTrunk_19 : decode cX3_repairTrunk 19 = .ok (.invokestatic 49, 3) := by decide +kernel
theorem dX3_repairTrunk_22 : decode cX3_repairTrunk 22 = .ok (.ireturn, 1) := by decide +kernel
theorem dX3_acrossFrom_0 : decode cX3_acrossFrom 0 = .ok (.iload_n 1, 1) := by decide +kernel
theorem dX3_acrossFrom_1 : decode cX3_acrossFrom 1 = .ok (.ifCond .lt 11, 3) := by decide +kernel
theorem dX3_acrossFrom_4 : decode cX3_acrossFrom 4 = .ok (.iload_n 1, 1) := by decide +kernel
theorem dX3_acrossFrom_5 : decode cX3_acrossFrom 5 = .ok (.aload_n 0, 1) := by decide +kernel
theorem dX3_acrossFrom_6 : decode cX3_acrossFrom 6 = .ok (.getfield 28, 3) := by decide +kernel
theorem dX3_acrossFrom_9 : decode cX3_acrossFrom 9 = .ok (.if_icmp .lt 5, 3) := by decide +kernel
theorem dX3_acrossFrom_12 : decode cX3_acrossFrom 12 = .ok (.iconst (-1), 1) := by decide +kernel
theorem dX3_acrossFrom_13 : decode cX3_acrossFrom 13 = .ok (.ireturn, 1) := by decide +kernel
theorem dX3_acrossFrom_14 : decode cX3_acrossFrom 14 = .ok (.aload_n 0, 1) := by decide +kernel
theorem dX3_acrossFrom_15 : decode cX3_acrossFrom 15 = .ok (.getfield 9, 3) := by decide +kernel
theorem dX3_acrossFrom_18 : decode cX3_acrossFrom 18 = .ok (.iload_n 1, 1) := by decide +kernel
theorem dX3_acrossFrom_19 : decode cX3_acrossFrom 19 = .ok (.iaload, 1) := by decide +kernel
theorem dX3_acrossFrom_20 : decode cX3_acrossFrom 20 = .ok (.iload_n 2, 1) := by decide +kernel
theorem dX3_acrossFrom_21 : decode cX3_acrossFrom 21 = .ok (.if_icmp .ne 10, 3) := by decide +kernel
theorem dX3_acrossFrom_24 : decode cX3_acrossFrom 24 = .ok (.aload_n 0, 1) := by decide +kernel
theorem dX3_acrossFrom_25 : decode cX3_acrossFrom 25 = .ok (.getfield 15, 3) := by decide +kernel
theorem dX3_acrossFrom_28 : decode cX3_acrossFrom 28 = .ok (.iload_n 1, 1) := by decide +kernel
theorem dX3_acrossFrom_29 : decode cX3_acrossFrom 29 = .ok (.iaload, 1) := by decide +kernel
theorem dX3_acrossFrom_30 : decode cX3_acrossFrom 30 = .ok (.ireturn, 1) := by decide +kernel
theorem dX3_acrossFrom_31 : decode cX3_acrossFrom 31 = .ok (.aload_n 0, 1) := by decide +kernel
theorem dX3_acrossFrom_32 : decode cX3_acrossFrom 32 = .ok (.getfield 15, 3) := by decide +kernel
theorem dX3_acrossFrom_35 : decode cX3_acrossFrom 35 = .ok (.iload_n 1, 1) := by decide +kernel
theorem dX3_acrossFrom_36 : decode cX3_acrossFrom 36 = .ok (.iaload, 1) := by decide +kernel
theorem dX3_acrossFrom_37 : decode cX3_acrossFrom 37 = .ok (.iload_n 2, 1) := by decide +kernel
theorem dX3_acrossFrom_38 : decode cX3_acrossFrom 38 = .ok (.if_icmp .ne 12, 3) := by decide +kernel
theorem dX3_acrossFrom_41 : decode cX3_acrossFrom 41 = .ok (.aload_n 0, 1) := by decide +kernel
theorem dX3_acrossFrom_42 : decode cX3_acrossFrom 42 = .ok (.getfield 9, 3) := by decide +kernel
theorem dX3_acrossFrom_45 : decode cX3_acrossFrom 45 = .ok (.iload_n 1, 1) := by decide +kernel
theorem dX3_acrossFrom_46 : decode cX3_acrossFrom 46 = .ok (.iaload, 1) := by decide +kernel
theorem dX3_acrossFrom_47 : decode cX3_acrossFrom 47 = .ok (.goto 4, 3) := by decide +kernel
theorem dX3_acrossFrom_50 : decode cX3_acrossFrom 50 = .ok (.iconst (-1), 1) := by decide +kernel
theorem dX3_acrossFrom_51 : decode cX3_acrossFrom 51 = .ok (.ireturn, 1) := by decide +kernel
theorem dX3_countMinutes_0 : decode cX3_countMinutes 0 = .ok (.aload_n 0, 1) := by decide +kernel
theorem dX3_countMinutes_1 : decode cX3_countMinutes 1 = .ok (.iload_n 1, 1) := by decide +kernel
theorem dX3_countMinutes_2 : decode cX3_countMinutes 2 = .ok (.invokevirtual 35, 3) := by decide +kernel
theorem dX3_countMinutes_5 : decode cX3_countMinutes 5 = .ok (.ifCond .eq 13, 3) := by decide +kernel
theorem dX3_countMinutes_8 : decode cX3_countMinutes 8 = .ok (.aload_n 0, 1) := by decide +kernel
theorem dX3_countMinutes_9 : decode cX3_countMinutes 9 = .ok (.getfield 21, 3) := by decide +kernel
theorem dX3_countMinutes_12 : decode cX3_countMinutes 12 = .ok (.iload_n 1, 1) := by decide +kernel
theorem dX3_countMinutes_13 : decode cX3_countMinutes 13 = .ok (.dup2, 1) := by decide +kernel
theorem dX3_countMinutes_14 : decode cX3_countMinutes 14 = .ok (.iaload, 1) := by decide +kernel
theorem dX3_countMinutes_15 : decode cX3_countMinutes 15 = .ok (.iload_n 2, 1) := by decide +kernel
theorem dX3_countMinutes_16 : decode cX3_countMinutes 16 = .ok (.iadd, 1) := by decide +kernel
theorem dX3_countMinutes_17 : decode cX3_countMinutes 17 = .ok (.iastore, 1) := by decide +kernel
theorem dX3_countMinutes_18 : decode cX3_countMinutes 18 = .ok (.return_, 1) := by decide +kernel
theorem dX3_allTrunks_0 : decode cX3_allTrunks 0 = .ok (.aload_n 0, 1) := by decide +kernel
theorem dX3_allTrunks_1 : decode cX3_allTrunks 1 = .ok (.getfield 28, 3) := by decide +kernel
theorem dX3_allTrunks_4 : decode cX3_allTrunks 4 = .ok (.invokestatic 45, 3) := by decide +kernel
theorem dX3_allTrunks_7 : decode cX3_allTrunks 7 = .ok (.iconst 1, 1) := by decide +kernel
theorem dX3_allTrunks_8 : decode cX3_allTrunks 8 = .ok (.isub, 1) := by decide +kernel
theorem dX3_allTrunks_9 : decode cX3_allTrunks 9 = .ok (.ireturn, 1) := by decide +kernel
theorem dX3_copyFrom_0 : decode cX3_copyFrom 0 = .ok (.aload_n 0, 1) := by decide +kernel
theorem dX3_copyFrom_1 : decode cX3_copyFrom 1 = .ok (.aload_n 1, 1) := by decide +kernel
theorem dX3_copyFrom_2 : decode cX3_copyFrom 2 = .ok (.getfield 24, 3) := by decide +kernel
theorem dX3_copyFrom_5 : decode cX3_copyFrom 5 = .ok (.putfield 24, 3) := by decide +kernel
theorem dX3_copyFrom_8 : decode cX3_copyFrom 8 = .ok (.aload_n 0, 1) := by decide +kernel
theorem dX3_copyFrom_9 : decode cX3_copyFrom 9 = .ok (.aload_n 1, 1) := by decide +kernel
theorem dX3_copyFrom_10 : decode cX3_copyFrom 10 = .ok (.getfield 28, 3) := by decide +kernel
theorem dX3_copyFrom_13 : decode cX3_copyFrom 13 = .ok (.putfield 28, 3) := by decide +kernel
theorem dX3_copyFrom_16 : decode cX3_copyFrom 16 = .ok (.aload_n 0, 1) := by decide +kernel
theorem dX3_copyFrom_17 : decode cX3_copyFrom 17 = .ok (.aload_n 1, 1) := by decide +kernel
theorem dX3_copyFrom_18 : decode cX3_copyFrom 18 = .ok (.getfield 38, 3) := by decide +kernel
theorem dX3_copyFrom_21 : decode cX3_copyFrom 21 = .ok (.putfield 38, 3) := by decide +kernel
theorem dX3_copyFrom_24 : decode cX3_copyFrom 24 = .ok (.aload_n 1, 1) := by decide +kernel
theorem dX3_copyFrom_25 : decode cX3_copyFrom 25 = .ok (.getfield 9, 3) := by decide +kernel
theorem dX3_copyFrom_28 : decode cX3_copyFrom 28 = .ok (.aload_n 0, 1) := by decide +kernel
theorem dX3_copyFrom_29 : decode cX3_copyFrom 29 = .ok (.getfield 9, 3) := by decide +kernel
theorem dX3_copyFrom_32 : decode cX3_copyFrom 32 = .ok (.invokestatic 54, 3) := by decide +kernel
theorem dX3_copyFrom_35 : decode cX3_copyFrom 35 = .ok (.aload_n 1, 1) := by decide +kernel
theorem dX3_copyFrom_36 : decode cX3_copyFrom 36 = .ok (.getfield 15, 3) := by decide +kernel
theorem dX3_copyFrom_39 : decode cX3_copyFrom 39 = .ok (.aload_n 0, 1) := by decide +kernel
theorem dX3_copyFrom_40 : decode cX3_copyFrom 40 = .ok (.getfield 15, 3) := by decide +kernel
theorem dX3_copyFrom_43 : decode cX3_copyFrom 43 = .ok (.invokestatic 54, 3) := by decide +kernel
theorem dX3_copyFrom_46 : decode cX3_copyFrom 46 = .ok (.aload_n 1, 1) := by decide +kernel
theorem dX3_copyFrom_47 : decode cX3_copyFrom 47 = .ok (.getfield 18, 3) := by decide +kernel
theorem dX3_copyFrom_50 : decode cX3_copyFrom 50 = .ok (.aload_n 0, 1) := by decide +kernel
theorem dX3_copyFrom_51 : decode cX3_copyFrom 51 = .ok (.getfield 18, 3) := by decide +kernel
theorem dX3_copyFrom_54 : decode cX3_copyFrom 54 = .ok (.invokestatic 54, 3) := by decide +kernel
theorem dX3_copyFrom_57 : decode cX3_copyFrom 57 = .ok (.aload_n 1, 1) := by decide +kernel
theorem dX3_copyFrom_58 : decode cX3_copyFrom 58 = .ok (.getfield 21, 3) := by decide +kernel
theorem dX3_copyFrom_61 : decode cX3_copyFrom 61 = .ok (.aload_n 0, 1) := by decide +kernel
theorem dX3_copyFrom_62 : decode cX3_copyFrom 62 = .ok (.getfield 21, 3) := by decide +kernel
theorem dX3_copyFrom_65 : decode cX3_copyFrom 65 = .ok (.invokestatic 54, 3) := by decide +kernel
theorem dX3_copyFrom_68 : decode cX3_copyFrom 68 = .ok (.return_, 1) := by decide +kernel
theorem dX4_init_0 : decode cX4_init 0 = .ok (.aload_n 0, 1) := by decide +kernel
theorem dX4_init_1 : decode cX4_init 1 = .ok (.invokespecial 3, 3) := by decide +kernel
theorem dX4_init_4 : decode cX4_init 4 = .ok (.aload_n 0, 1) := by decide +kernel
theorem dX4_init_5 : decode cX4_init 5 = .ok (.bipush 60, 2) := by decide +kernel
theorem dX4_init_7 : decode cX4_init 7 = .ok (.newarray .char, 2) := by decide +kernel
theorem dX4_init_9 : decode cX4_init 9 = .ok (.putfield 9, 3) := by decide +kernel
theorem dX4_init_12 : decode cX4_init 12 = .ok (.aload_n 0, 1) := by decide +kernel
theorem dX4_init_13 : decode cX4_init 13 = .ok (.bipush 13, 2) := by decide +kernel
theorem dX4_init_15 : decode cX4_init 15 = .ok (.newarray .int, 2) := by decide +kernel
theorem dX4_init_17 : decode cX4_init 17 = .ok (.putfield 15, 3) := by decide +kernel
theorem dX4_init_20 : decode cX4_init 20 = .ok (.aload_n 0, 1) := by decide +kernel
theorem dX4_init_21 : decode cX4_init 21 = .ok (.bipush 13, 2) := by decide +kernel
theorem dX4_init_23 : decode cX4_init 23 = .ok (.newarray .int, 2) := by decide +kernel
theorem dX4_init_25 : decode cX4_init 25 = .ok (.putfield 19, 3) := by decide +kernel
theorem dX4_init_28 : decode cX4_init 28 = .ok (.aload_n 0, 1) := by decide +kernel
theorem dX4_init_29 : decode cX4_init 29 = .ok (.bipush 13, 2) := by decide +kernel
theorem dX4_init_31 : decode cX4_init 31 = .ok (.newarray .int, 2) := by decide +kernel
theorem dX4_init_33 : decode cX4_init 33 = .ok (.putfield 22, 3) := by decide +kernel
theorem dX4_init_36 : decode cX4_init 36 = .ok (.aload_n 0, 1) := by decide +kernel
theorem dX4_init_37 : decode cX4_init 37 = .ok (.bipush 13, 2) := by decide +kernel
theorem dX4_init_39 : decode cX4_init 39 = .ok (.newarray .int, 2) := by decide +kernel
theorem dX4_init_41 : decode cX4_init 41 = .ok (.putfield 25, 3) := by decide +kernel
theorem dX4_init_44 : decode cX4_init 44 = .ok (.return_, 1) := by decide +kernel
theorem dX4_append_0 : decode cX4_append 0 = .ok (.aload_n 0, 1) := by decide +kernel
theorem dX4_append_1 : decode cX4_append 1 = .ok (.getfield 28, 3) := by decide +kernel
theorem dX4_append_4 : decode cX4_append 4 = .ok (.bipush 60, 2) := by decide +kernel
theorem dX4_append_6 : decode cX4_append 6 = .ok (.if_icmp .ge 23, 3) := by decide +kernel
theorem dX4_append_9 : decode cX4_append 9 = .ok (.aload_n 0, 1) := by decide +kernel
theorem dX4_append_10 : decode cX4_append 10 = .ok (.getfield 9, 3) := by decide +kernel
theorem dX4_append_13 : decode cX4_append 13 = .ok (.aload_n 0, 1) := by decide +kernel
theorem dX4_append_14 : decode cX4_append 14 = .ok (.getfield 28, 3) := by decide +kernel
theorem dX4_append_17 : decode cX4_append 17 = .ok (.iload_n 1, 1) := by decide +kernel
theorem dX4_append_18 : decode cX4_append 18 = .ok (.castore, 1) := by decide +kernel
theorem dX4_append_19 : decode cX4_append 19 = .ok (.aload_n 0, 1) := by decide +kernel
theorem dX4_append_20 : decode cX4_append 20 = .ok (.dup, 1) := by decide +kernel
theorem dX4_append_21 : decode cX4_append 21 = .ok (.getfield 28, 3) := by decide +kernel
theorem dX4_append_24 : decode cX4_append 24 = .ok (.iconst 1, 1) := by decide +kernel
theorem dX4_append_25 : decode cX4_append 25 = .ok (.iadd, 1) := by decide +kernel
theorem dX4_append_26 : decode cX4_append 26 = .ok (.putfield 28, 3) := by decide +kernel
theorem dX4_append_29 : decode cX4_append 29 = .ok (.aload_n 0, 1) := by decide +kernel
theorem dX4_append_30 : decode cX4_append 30 = .ok (.getfield 28, 3) := by decide +kernel
theorem dX4_append_33 : decode cX4_append 33 = .ok (.ireturn, 1) := by decide +kernel
theorem dX4_parse_0 : decode cX4_parse 0 = .ok (.aload_n 0, 1) := by decide +kernel
theorem dX4_parse_1 : decode cX4_parse 1 = .ok (.iconst 0, 1) := by decide +kernel
theorem dX4_parse_2 : decode cX4_parse 2 = .ok (.putfield 32, 3) := by decide +kernel
theorem dX4_parse_5 : decode cX4_parse 5 = .ok (.aload_n 0, 1) := by decide +kernel
theorem dX4_parse_6 : decode cX4_parse 6 = .ok (.iconst 0, 1) := by decide +kernel
theorem dX4_parse_7 : decode cX4_parse 7 = .ok (.putfield 35, 3) := by decide +kernel
theorem dX4_parse_10 : decode cX4_parse 10 = .ok (.aload_n 0, 1) := by decide +kernel
theorem dX4_parse_11 : decode cX4_parse 11 = .ok (.iconst 0, 1) := by decide +kernel
theorem dX4_parse_12 : decode cX4_parse 12 = .ok (.putfield 39, 3) := by decide +kernel
theorem dX4_parse_15 : decode cX4_parse 15 = .ok (.iconst 1, 1) := by decide +kernel
theorem dX4_parse_16 : decode cX4_parse 16 = .ok (.istore_n 1, 1) := by decide +kernel
theorem dX4_parse_17 : decode cX4_parse 17 = .ok (.iconst 0, 1) := by decide +kernel
theorem dX4_parse_18 : decode cX4_parse 18 = .ok (.istore_n 2, 1) := by decide +kernel
theorem dX4_parse_19 : decode cX4_parse 19 = .ok (.iload_n 1, 1) := by decide +kernel
theorem dX4_parse_20 : decode cX4_parse 20 = .ok (.ifCond .eq 61, 3) := by decide +kernel
theorem dX4_parse_23 : decode cX4_parse 23 = .ok (.iload_n 2, 1) := by decide +kernel
theorem dX4_parse_24 : decode cX4_parse 24 = .ok (.bipush 13, 2) := by decide +kernel
theorem dX4_parse_26 : decode cX4_parse 26 = .ok (.if_icmp .ge 55, 3) := by decide +kernel
theorem dX4_parse_29 : decode cX4_parse 29 = .ok (.aload_n 0, 1) := by decide +kernel
theorem dX4_parse_30 : decode cX4_parse 30 = .ok (.iload_n 2, 1) := by decide +kernel
theorem dX4_parse_31 : decode cX4_parse 31 = .ok (.invokevirtual 42, 3) := by decide +kernel
theorem dX4_parse_34 : decode cX4_parse 34 = .ok (.aload_n 0, 1) := by decide +kernel
theorem dX4_parse_35 : decode cX4_parse 35 = .ok (.iload_n 2, 1) := by decide +kernel
theorem dX4_parse_36 : decode cX4_parse 36 = .ok (.iconst 1, 1) := by decide +kernel
theorem dX4_parse_37 : decode cX4_parse 37 = .ok (.iadd, 1) := by decide +kernel
theorem dX4_parse_38 : decode cX4_parse 38 = .ok (.putfield 39, 3) := by decide +kernel
theorem dX4_parse_41 : decode cX4_parse 41 = .ok (.aload_n 0, 1) := by decide +kernel
theorem dX4_parse_42 : decode cX4_parse 42 = .ok (.getfield 35, 3) := by decide +kernel
theorem dX4_parse_45 : decode cX4_parse 45 = .ok (.ifCond .ne 18, 3) := by decide +kernel
theorem dX4_parse_48 : decode cX4_parse 48 = .ok (.aload_n 0, 1) := by decide +kernel
theorem dX4_parse_49 : decode cX4_parse 49 = .ok (.getfield 32, 3) := by decide +kernel
theorem dX4_parse_52 : decode cX4_parse 52 = .ok (.aload_n 0, 1) := by decide +kernel
theorem dX4_parse_53 : decode cX4_parse 53 = .ok (.getfield 28, 3) := by decide +kernel
theorem dX4_parse_56 : decode cX4_parse 56 = .ok (.if_icmp .ge 7, 3) := by decide +kernel
theorem dX4_parse_59 : decode cX4_parse 59 = .ok (.iconst 1, 1) := by decide +kernel
theorem dX4_parse_60 : decode cX4_parse 60 = .ok (.goto 4, 3) := by decide +kernel
theorem dX4_parse_63 : decode cX4_parse 63 = .ok (.iconst 0, 1) := by decide +kernel
theorem dX4_parse_64 : decode cX4_parse 64 = .ok (.istore_n 1, 1) := by decide +kernel
theorem dX4_parse_65 : decode cX4_parse 65 = .ok (.iload_n 1, 1) := by decide +kernel
theorem dX4_parse_66 : decode cX4_parse 66 = .ok (.ifCond .eq 9, 3) := by decide +kernel
theorem dX4_parse_69 : decode cX4_parse 69 = .ok (.aload_n 0, 1) := by decide +kernel
theorem dX4_parse_70 : decode cX4_parse 70 = .ok (.bipush 59, 2) := by decide +kernel
theorem dX4_parse_72 : decode cX4_parse 72 = .ok (.invokevirtual 46, 3) := by decide +kernel
theorem dX4_parse_75 : decode cX4_parse 75 = .ok (.iinc 2 1, 3) := by decide +kernel
theorem dX4_parse_78 : decode cX4_parse 78 = .ok (.goto (-59), 3) := by decide +kernel
theorem dX4_parse_81 : decode cX4_parse 81 = .ok (.aload_n 0, 1) := by decide +kernel
theorem dX4_parse_82 : decode cX4_parse 82 = .ok (.iconst 0, 1) := by decide +kernel
theorem dX4_parse_83 : decode cX4_parse 83 = .ok (.putfield 28, 3) := by decide +kernel
theorem dX4_parse_86 : decode cX4_parse 86 = .ok (.aload_n 0, 1) := by decide +kernel
theorem dX4_parse_87 : decode cX4_parse 87 = .ok (.getfield 35, 3) := by decide +kernel
theorem dX4_parse_90 : decode cX4_parse 90 = .ok (.ifCond .eq 10, 3) := by decide +kernel
theorem dX4_parse_93 : decode cX4_parse 93 = .ok (.aload_n 0, 1) := by decide +kernel
theorem dX4_parse_94 : decode cX4_parse 94 = .ok (.getfield 32, 3) := by decide +kernel
theorem dX4_parse_97 : decode cX4_parse 97 = .ok (.goto 4, 3) := by decide +kernel
theorem dX4_parse_100 : decode cX4_parse 100 = .ok (.iconst (-1), 1) := by decide +kernel
theorem dX4_parse_101 : decode cX4_parse 101 = .ok (.ireturn, 1) := by decide +kernel
theorem dX4_readCommand_0 : decode cX4_readCommand 0 = .ok (.aload_n 0, 1) := by decide +kernel
theorem dX4_readCommand_1 : decode cX4_readCommand 1 = .ok (.invokevirtual 50, 3) := by decide +kernel
theorem dX4_readCommand_4 : decode cX4_readCommand 4 = .ok (.istore_n 2, 1) := by decide +kernel
theorem dX4_readCommand_5 : decode cX4_readCommand 5 = .ok (.aload_n 0, 1) := by decide +kernel
theorem dX4_readCommand_6 : decode cX4_readCommand 6 = .ok (.iload_n 2, 1) := by decide +kernel
theorem dX4_readCommand_7 : decode cX4_readCommand 7 = .ok (.invokestatic 54, 3) := by decide +kernel
theorem dX4_readCommand_10 : decode cX4_readCommand 10 = .ok (.invokevirtual 58, 3) := by decide +kernel
theorem dX4_readCommand_13 : decode cX4_readCommand 13 = .ok (.iload_n 1, 1) := by decide +kernel
theorem dX4_readCommand_14 : decode cX4_readCommand 14 = .ok (.ifCond .lt 9, 3) := by decide +kernel
theorem dX4_readCommand_17 : decode cX4_readCommand 17 = .ok (.iload_n 1, 1) := by decide +kernel
theorem dX4_readCommand_18 : decode cX4_readCommand 18 = .ok (.bipush 13, 2) := by decide +kernel
theorem dX4_readCommand_20 : decode cX4_readCommand 20 = .ok (.if_icmp .lt 9, 3) := by decide +kernel
theorem dX4_readCommand_23 : decode cX4_readCommand 23 = .ok (.aload_n 0, 1) := by decide +kernel
theorem dX4_readCommand_24 : decode cX4_readCommand 24 = .ok (.iconst 1, 1) := by decide +kernel
theorem dX4_readCommand_25 : decode cX4_readCommand 25 = .ok (.putfield 35, 3) := by decide +kernel
theorem dX4_readCommand_28 : decode cX4_readCommand 28 = .ok (.return_, 1) := by decide +kernel
theorem dX4_readCommand_29 : decode cX4_readCommand 29 = .ok (.aload_n 0, 1) := by decide +kernel
theorem dX4_readCommand_30 : decode cX4_readCommand 30 = .ok (.getfield 15, 3) := by decide +kernel
theorem dX4_readCommand_33 : decode cX4_readCommand 33 = .ok (.iload_n 1, 1) := by decide +kernel
theorem dX4_readCommand_34 : decode cX4_readCommand 34 = .ok (.iload_n 2, 1) := by decide +kernel
theorem dX4_readCommand_35 : decode cX4_readCommand 35 = .ok (.iastore, 1) := by decide +kernel
theorem dX4_readCommand_36 : decode cX4_readCommand 36 = .ok (.aload_n 0, 1) := by decide +kernel
theorem dX4_readCommand_37 : decode cX4_readCommand 37 = .ok (.getfield 19, 3) := by decide +kernel
theorem dX4_readCommand_40 : decode cX4_readCommand 40 = .ok (.iload_n 1, 1) := by decide +kernel
theorem dX4_readCommand_41 : decode cX4_readCommand 41 = .ok (.aload_n 0, 1) := by decide +kernel
theorem dX4_readCommand_42 : decode cX4_readCommand 42 = .ok (.iload_n 2, 1) := by decide +kernel
theorem dX4_readCommand_43 : decode cX4_readCommand 43 = .ok (.invokevirtual 62, 3) := by decide +kernel
theorem dX4_readCommand_46 : decode cX4_readCommand 46 = .ok (.iastore, 1) := by decide +kernel
theorem dX4_readCommand_47 : decode cX4_readCommand 47 = .ok (.aload_n 0, 1) := by decide +kernel
theorem dX4_readCommand_48 : decode cX4_readCommand 48 = .ok (.getfield 22, 3) := by decide +kernel
theorem dX4_readCommand_51 : decode cX4_readCommand 51 = .ok (.iload_n 1, 1) := by decide +kernel
theorem dX4_readCommand_52 : decode cX4_readCommand 52 = .ok (.aload_n 0, 1) := by decide +kernel
theorem dX4_readCommand_53 : decode cX4_readCommand 53 = .ok (.iload_n 2, 1) := by decide +kernel
theorem dX4_readCommand_54 : decode cX4_readCommand 54 = .ok (.invokevirtual 66, 3) := by decide +kernel
theorem dX4_readCommand_57 : decode cX4_readCommand 57 = .ok (.iastore, 1) := by decide +kernel
theorem dX4_readCommand_58 : decode cX4_readCommand 58 = .ok (.aload_n 0, 1) := by decide +kernel
theorem dX4_readCommand_59 : decode cX4_readCommand 59 = .ok (.getfield 25, 3) := by decide +kernel
theorem dX4_readCommand_62 : decode cX4_readCommand 62 = .ok (.iload_n 1, 1) := by decide +kernel
theorem dX4_readCommand_63 : decode cX4_readCommand 63 = .ok (.iconst 0, 1) := by decide +kernel
theorem dX4_readCommand_64 : decode cX4_readCommand 64 = .ok (.iastore, 1) := by decide +kernel
theorem dX4_readCommand_65 : decode cX4_readCommand 65 = .ok (.iload_n 2, 1) := by decide +kernel
theorem dX4_readCommand_66 : decode cX4_readCommand 66 = .ok (.iconst 1, 1) := by decide +kernel
theorem dX4_readCommand_67 : decode cX4_readCommand 67 = .ok (.if_icmp .ne 19, 3) := by decide +kernel
theorem dX4_readCommand_70 : decode cX4_readCommand 70 = .ok (.aload_n 0, 1) := by decide +kernel
theorem dX4_readCommand_71 : decode cX4_readCommand 71 = .ok (.bipush 61, 2) := by decide +kernel
theorem dX4_readCommand_73 : decode cX4_readCommand 73 = .ok (.invokevirtual 46, 3) := by decide +kernel
theorem dX4_readCommand_76 : decode cX4_readCommand 76 = .ok (.aload_n 0, 1) := by decide +kernel
theorem dX4_readCommand_77 : decode cX4_readCommand 77 = .ok (.getfield 25, 3) := by decide +kernel
theorem dX4_readCommand_80 : decode cX4_readCommand 80 = .ok (.iload_n 1, 1) := by decide +kernel
theorem dX4_readCommand_81 : decode cX4_readCommand 81 = .ok (.aload_n 0, 1) := by decide +kernel
theorem dX4_readCommand_82 : decode cX4_readCommand 82 = .ok (.invokevirtual 69, 3) := by decide +kernel
theorem dX4_readCommand_85 : decode cX4_readCommand 85 = .ok (.iastore, 1) := by decide +kernel
theorem dX4_readCommand_86 : decode cX4_readCommand 86 = .ok (.return_, 1) := by decide +kernel
theorem dX4_kindAhead_0 : decode cX4_kindAhead 0 = .ok (.aload_n 0, 1) := by decide +kernel
theorem dX4_kindAhead_1 : decode cX4_kindAhead 1 = .ok (.iconst 0, 1) := by decide +kernel
theorem dX4_kindAhead_2 : decode cX4_kindAhead 2 = .ok (.invokevirtual 72, 3) := by decide +kernel
theorem dX4_kindAhead_5 : decode cX4_kindAhead 5 = .ok (.tableswitch 129 99 119 #[105, 129, 129, 129, 129, 121, 129, 129, 129, 129, 123, 129, 129, 129, 129, 129, 99, 101, 103, 129, 126], 99) := by decide +kernel
theorem dX4_kindAhead_104 : decode cX4_kindAhead 104 = .ok (.iconst 0, 1) := by decide +kernel
theorem dX4_kindAhead_105 : decode cX4_kindAhead 105 = .ok (.ireturn, 1) := by decide +kernel
theorem dX4_kindAhead_106 : decode cX4_kindAhead 106 = .ok (.iconst 1, 1) := by decide +kernel
theorem dX4_kindAhead_107 : decode cX4_kindAhead 107 = .ok (.ireturn, 1) := by decide +kernel
theorem dX4_kindAhead_108 : decode cX4_kindAhead 108 = .ok (.iconst 2, 1) := by decide +kernel
theorem dX4_kindAhead_109 : decode cX4_kindAhead 109 = .ok (.ireturn, 1) := by decide +kernel
theorem dX4_kindAhead_110 : decode cX4_kindAhead 110 = .ok (.aload_n 0, 1) := by decide +kernel
theorem dX4_kindAhead_111 : decode cX4_kindAhead 111 = .ok (.iconst 1, 1) := by decide +kernel
theorem dX4_kindAhead_112 : decode cX4_kindAhead 112 = .ok (.invokevirtual 72, 3) := by decide +kernel
theorem dX4_kindAhead_115 : decode cX4_kindAhead 115 = .ok (.bipush 117, 2) := by decide +kernel
theorem dX4_kindAhead_117 : decode cX4_kindAhead 117 = .ok (.if_icmp .ne 7, 3) := by decide +kernel
theorem dX4_kindAhead_120 : decode cX4_kindAhead 120 = .ok (.iconst 5, 1) := by decide +kernel
theorem dX4_kindAhead_121 : decode cX4_kindAhead 121 = .ok (.goto 4, 3) := by decide +kernel
theorem dX4_kindAhead_124 : decode cX4_kindAhead 124 = .ok (.iconst 3, 1) := by decide +kernel
theorem dX4_kindAhead_125 : decode cX4_kindAhead 125 = .ok (.ireturn, 1) := by decide +kernel
theorem dX4_kindAhead_126 : decode cX4_kindAhead 126 = .ok (.iconst 4, 1) := by decide +kernel
theorem dX4_kindAhead_127 : decode cX4_kindAhead 127 = .ok (.ireturn, 1) := by decide +kernel
theorem dX4_kindAhead_128 : decode cX4_kindAhead 128 = .ok (.bipush 6, 2) := by decide +kernel
theorem dX4_kindAhead_130 : decode cX4_kindAhead 130 = .ok (.ireturn, 1) := by decide +kernel
theorem dX4_kindAhead_131 : decode cX4_kindAhead 131 = .ok (.bipush 7, 2) := by decide +kernel
theorem dX4_kindAhead_133 : decode cX4_kindAhead 133 = .ok (.ireturn, 1) := by decide +kernel
theorem dX4_kindAhead_134 : decode cX4_kindAhead 134 = .ok (.aload_n 0, 1) := by decide +kernel
theorem dX4_kindAhead_135 : decode cX4_kindAhead 135 = .ok (.iconst 1, 1) := by decide +kernel
theorem dX4_kindAhead_136 : decode cX4_kindAhead 136 = .ok (.putfield 35, 3) := by decide +kernel
theorem dX4_kindAhead_139 : decode cX4_kindAhead 139 = .ok (.iconst (-1), 1) := by decide +kernel
theorem dX4_kindAhead_140 : decode cX4_kindAhead 140 = .ok (.ireturn, 1) := by decide +kernel
theorem dX4_wordOf_0 : decode cX4_wordOf 0 = .ok (.iload_n 0, 1) := by decide +kernel
theorem dX4_wordOf_1 : decode cX4_wordOf 1 = .ok (.tableswitch 71 0 7 #[47, 50, 53, 56, 59, 62, 65, 68], 47) := by decide +kernel
theorem dX4_wordOf_48 : decode cX4_wordOf 48 = .ok (.ldc 75, 2) := by decide +kernel
theorem dX4_wordOf_50 : decode cX4_wordOf 50 = .ok (.areturn, 1) := by decide +kernel
theorem dX4_wordOf_51 : decode cX4_wordOf 51 = .ok (.ldc 77, 2) := by decide +kernel
theorem dX4_wordOf_53 : decode cX4_wordOf 53 = .ok (.areturn, 1) := by decide +kernel
theorem dX4_wordOf_54 : decode cX4_wordOf 54 = .ok (.ldc 79, 2) := by decide +kernel
theorem dX4_wordOf_56 : decode cX4_wordOf 56 = .ok (.areturn, 1) := by decide +kernel
theorem dX4_wordOf_57 : decode cX4_wordOf 57 = .ok (.ldc 81, 2) := by decide +kernel
theorem dX4_wordOf_59 : decode cX4_wordOf 59 = .ok (.areturn, 1) := by decide +kernel
theorem dX4_wordOf_60 : decode cX4_wordOf 60 = .ok (.ldc 83, 2) := by decide +kernel
theorem dX4_wordOf_62 : decode cX4_wordOf 62 = .ok (.areturn, 1) := by decide +kernel
theorem dX4_wordOf_63 : decode cX4_wordOf 63 = .ok (.ldc 85, 2) := by decide +kernel
theorem dX4_wordOf_65 : decode cX4_wordOf 65 = .ok (.areturn, 1) := by decide +kernel
theorem dX4_wordOf_66 : decode cX4_wordOf 66 = .ok (.ldc 87, 2) := by decide +kernel
theorem dX4_wordOf_68 : decode cX4_wordOf 68 = .ok (.areturn, 1) := by decide +kernel
theorem dX4_wordOf_69 : decode cX4_wordOf 69 = .ok (.ldc 89, 2) := by decide +kernel
theorem dX4_wordOf_71 : decode cX4_wordOf 71 = .ok (.areturn, 1) := by decide +kernel
theorem dX4_wordOf_72 : decode cX4_wordOf 72 = .ok (.ldc 91, 2) := by decide +kernel
theorem dX4_wordOf_74 : decode cX4_wordOf 74 = .ok (.areturn, 1) := by decide +kernel
theorem dX4_readFirst_0 : decode cX4_readFirst 0 = .ok (.iload_n 1, 1) := by decide +kernel
theorem dX4_readFirst_1 : decode cX4_readFirst 1 = .ok (.tableswitch 76 1 7 #[43, 43, 43, 43, 48, 48, 53], 43) := by decide +kernel
theorem dX4_readFirst_44 : decode cX4_readFirst 44 = .ok (.aload_n 0, 1) := by decide +kernel
theorem dX4_readFirst_45 : decode cX4_readFirst 45 = .ok (.invokevirtual 93, 3) := by decide +kernel
theorem dX4_readFirst_48 : decode cX4_readFirst 48 = .ok (.ireturn, 1) := by decide +kernel
theorem dX4_readFirst_49 : decode cX4_readFirst 49 = .ok (.aload_n 0, 1) := by decide +kernel
theorem dX4_readFirst_50 : decode cX4_readFirst 50 = .ok (.invokevirtual 69, 3) := by decide +kernel
theorem dX4_readFirst_53 : decode cX4_readFirst 53 = .ok (.ireturn, 1) := by decide +kernel
theorem dX4_readFirst_54 : decode cX4_readFirst 54 = .ok (.aload_n 0, 1) := by decide +kernel
theorem dX4_readFirst_55 : decode cX4_readFirst 55 = .ok (.iconst 0, 1) := by decide +kernel
theorem dX4_readFirst_56 : decode cX4_readFirst 56 = .ok (.invokevirtual 72, 3) := by decide +kernel
theorem dX4_readFirst_59 : decode cX4_readFirst 59 = .ok (.bipush 32, 2) := by decide +kernel
theorem dX4_readFirst_61 : decode cX4_readFirst 61 = .ok (.if_icmp .eq 5, 3) := by decide +kernel
theorem dX4_readFirst_64 : decode cX4_readFirst 64 = .ok (.iconst 1, 1) := by decide +kernel
theorem dX4_readFirst_65 : decode cX4_readFirst 65 = .ok (.ireturn, 1) := by decide +kernel
theorem dX4_readFirst_66 : decode cX4_readFirst 66 = .ok (.aload_n 0, 1) := by decide +kernel
theorem dX4_readFirst_67 : decode cX4_readFirst 67 = .ok (.bipush 32, 2) := by decide +kernel
theorem dX4_readFirst_69 : decode cX4_readFirst 69 = .ok (.invokevirtual 46, 3) := by decide +kernel
theorem dX4_readFirst_72 : decode cX4_readFirst 72 = .ok (.aload_n 0, 1) := by decide +kernel
theorem dX4_readFirst_73 : decode cX4_readFirst 73 = .ok (.invokevirtual 69, 3) := by decide +kernel
theorem dX4_readFirst_76 : decode cX4_readFirst 76 = .ok (.ireturn, 1) := by decide +kernel
theorem dX4_readFirst_77 : decode cX4_readFirst 77 = .ok (.iconst 0, 1) := by decide +kernel
theorem dX4_readFirst_78 : decode cX4_readFirst 78 = .ok (.ireturn, 1) := by decide +kernel
theorem dX4_readSecond_0 : decode cX4_readSecond 0 = .ok (.iload_n 1, 1) := by decide +kernel
theorem dX4_readSecond_1 : decode cX4_readSecond 1 = .ok (.tableswitch 60 1 3 #[27, 38, 49], 27) := by decide +kernel
theorem dX4_readSecond_28 : decode cX4_readSecond 28 = .ok (.aload_n 0, 1) := by decide +kernel
theorem dX4_readSecond_29 : decode cX4_readSecond 29 = .ok (.bipush 45, 2) := by decide +kernel
theorem dX4_readSecond_31 : decode cX4_readSecond 31 = .ok (.invokevirtual 46, 3) := by decide +kernel
theorem dX4_readSecond_34 : decode cX4_readSecond 34 = .ok (.aload_n 0, 1) := by decide +kernel
theorem dX4_readSecond_35 : decode cX4_readSecond 35 = .ok (.invokevirtual 93, 3) := by decide +kernel
theorem dX4_readSecond_38 : decode cX4_readSecond 38 = .ok (.ireturn, 1) := by decide +kernel
theorem dX4_readSecond_39 : decode cX4_readSecond 39 = .ok (.aload_n 0, 1) := by decide +kernel
theorem dX4_readSecond_40 : decode cX4_readSecond 40 = .ok (.bipush 47, 2) := by decide +kernel
theorem dX4_readSecond_42 : decode cX4_readSecond 42 = .ok (.invokevirtual 46, 3) := by decide +kernel
theorem dX4_readSecond_45 : decode cX4_readSecond 45 = .ok (.aload_n 0, 1) := by decide +kernel
theorem dX4_readSecond_46 : decode cX4_readSecond 46 = .ok (.invokevirtual 93, 3) := by decide +kernel
theorem dX4_readSecond_49 : decode cX4_readSecond 49 = .ok (.ireturn, 1) := by decide +kernel
theorem dX4_readSecond_50 : decode cX4_readSecond 50 = .ok (.aload_n 0, 1) := by decide +kernel
theorem dX4_readSecond_51 : decode cX4_readSecond 51 = .ok (.bipush 62, 2) := by decide +kernel
theorem dX4_readSecond_53 : decode cX4_readSecond 53 = .ok (.invokevirtual 46, 3) := by decide +kernel
theorem dX4_readSecond_56 : decode cX4_readSecond 56 = .ok (.aload_n 0, 1) := by decide +kernel
theorem dX4_readSecond_57 : decode cX4_readSecond 57 = .ok (.invokevirtual 93, 3) := by decide +kernel
theorem dX4_readSecond_60 : decode cX4_readSecond 60 = .ok (.ireturn, 1) := by decide +kernel
theorem dX4_readSecond_61 : decode cX4_readSecond 61 = .ok (.iconst 0, 1) := by decide +kernel
theorem dX4_readSecond_62 : decode cX4_readSecond 62 = .ok (.ireturn, 1) := by decide +kernel
theorem dX4_readNumber_0 : decode cX4_readNumber 0 = .ok (.aload_n 0, 1) := by decide +kernel
theorem dX4_readNumber_1 : decode cX4_readNumber 1 = .ok (.invokevirtual 93, 3) := by decide +kernel
theorem dX4_readNumber_4 : decode cX4_readNumber 4 = .ok (.istore_n 1, 1) := by decide +kernel
theorem dX4_readNumber_5 : decode cX4_readNumber 5 = .ok (.aload_n 0, 1) := by decide +kernel
theorem dX4_readNumber_6 : decode cX4_readNumber 6 = .ok (.iconst 0, 1) := by decide +kernel
theorem dX4_readNumber_7 : decode cX4_readNumber 7 = .ok (.invokevirtual 72, 3) := by decide +kernel
theorem dX4_readNumber_10 : decode cX4_readNumber 10 = .ok (.invokestatic 96, 3) := by decide +kernel
theorem dX4_readNumber_13 : decode cX4_readNumber 13 = .ok (.ifCond .eq 15, 3) := by decide +kernel
theorem dX4_readNumber_16 : decode cX4_readNumber 16 = .ok (.iload_n 1, 1) := by decide +kernel
theorem dX4_readNumber_17 : decode cX4_readNumber 17 = .ok (.bipush 10, 2) := by decide +kernel
theorem dX4_readNumber_19 : decode cX4_readNumber 19 = .ok (.imul, 1) := by decide +kernel
theorem dX4_readNumber_20 : decode cX4_readNumber 20 = .ok (.aload_n 0, 1) := by decide +kernel
theorem dX4_readNumber_21 : decode cX4_readNumber 21 = .ok (.invokevirtual 93, 3) := by decide +kernel
theorem dX4_readNumber_24 : decode cX4_readNumber 24 = .ok (.iadd, 1) := by decide +kernel
theorem dX4_readNumber_25 : decode cX4_readNumber 25 = .ok (.goto 4, 3) := by decide +kernel
theorem dX4_readNumber_28 : decode cX4_readNumber 28 = .ok (.iload_n 1, 1) := by decide +kernel
theorem dX4_readNumber_29 : decode cX4_readNumber 29 = .ok (.ireturn, 1) := by decide +kernel
theorem dX4_readDigit_0 : decode cX4_readDigit 0 = .ok (.aload_n 0, 1) := by decide +kernel
theorem dX4_readDigit_1 : decode cX4_readDigit 1 = .ok (.iconst 0, 1) := by decide +kernel
theorem dX4_readDigit_2 : decode cX4_readDigit 2 = .ok (.invokevirtual 72, 3) := by decide +kernel
theorem dX4_readDigit_5 : decode cX4_readDigit 5 = .ok (.istore_n 1, 1) := by decide +kernel
theorem dX4_readDigit_6 : decode cX4_readDigit 6 = .ok (.aload_n 0, 1) := by decide +kernel
theorem dX4_readDigit_7 : decode cX4_readDigit 7 = .ok (.getfield 35, 3) := by decide +kernel
theorem dX4_readDigit_10 : decode cX4_readDigit 10 = .ok (.ifCond .ne 10, 3) := by decide +kernel
theorem dX4_readDigit_13 : decode cX4_readDigit 13 = .ok (.iload_n 1, 1) := by decide +kernel
theorem dX4_readDigit_14 : decode cX4_readDigit 14 = .ok (.invokestatic 96, 3) := by decide +kernel
theorem dX4_readDigit_17 : decode cX4_readDigit 17 = .ok (.ifCond .ne 10, 3) := by decide +kernel
theorem dX4_readDigit_20 : decode cX4_readDigit 20 = .ok (.aload_n 0, 1) := by decide +kernel
theorem dX4_readDigit_21 : decode cX4_readDigit 21 = .ok (.iconst 1, 1) := by decide +kernel
theorem dX4_readDigit_22 : decode cX4_readDigit 22 = .ok (.putfield 35, 3) := by decide +kernel
theorem dX4_readDigit_25 : decode cX4_readDigit 25 = .ok (.iconst 0, 1) := by decide +kernel
theorem dX4_readDigit_26 : decode cX4_readDigit 26 = .ok (.ireturn, 1) := by decide +kernel
theorem dX4_readDigit_27 : decode cX4_readDigit 27 = .ok (.aload_n 0, 1) := by decide +kernel
theorem dX4_readDigit_28 : decode cX4_readDigit 28 = .ok (.dup, 1) := by decide +kernel
theorem dX4_readDigit_29 : decode cX4_readDigit 29 = .ok (.getfield 32, 3) := by decide +kernel
theorem dX4_readDigit_32 : decode cX4_readDigit 32 = .ok (.iconst 1, 1) := by decide +kernel
theorem dX4_readDigit_33 : decode cX4_readDigit 33 = .ok (.iadd, 1) := by decide +kernel
theorem dX4_readDigit_34 : decode cX4_readDigit 34 = .ok (.putfield 32, 3) := by decide +kernel
theorem dX4_readDigit_37 : decode cX4_readDigit 37 = .ok (.iload_n 1, 1) := by decide +kernel
theorem dX4_readDigit_38 : decode cX4_readDigit 38 = .ok (.bipush 48, 2) := by decide +kernel
theorem dX4_readDigit_40 : decode cX4_readDigit 40 = .ok (.isub, 1) := by decide +kernel
theorem dX4_readDigit_41 : decode cX4_readDigit 41 = .ok (.ireturn, 1) := by decide +kernel
theorem dX4_isDigit_0 : decode cX4_isDigit 0 = .ok (.iload_n 0, 1) := by decide +kernel
theorem dX4_isDigit_1 : decode cX4_isDigit 1 = .ok (.bipush 48, 2) := by decide +kernel
theorem dX4_isDigit_3 : decode cX4_isDigit 3 = .ok (.if_icmp .lt 13, 3) := by decide +kernel
theorem dX4_isDigit_6 : decode cX4_isDigit 6 = .ok (.iload_n 0, 1) := by decide +kernel
theorem dX4_isDigit_7 : decode cX4_isDigit 7 = .ok (.bipush 57, 2) := by decide +kernel
theorem dX4_isDigit_9 : decode cX4_isDigit 9 = .ok (.if_icmp .gt 7, 3) := by decide +kernel
theorem dX4_isDigit_12 : decode cX4_isDigit 12 = .ok (.iconst 1, 1) := by decide +kernel
theorem dX4_isDigit_13 : decode cX4_isDigit 13 = .ok (.goto 4, 3) := by decide +kernel
theorem dX4_isDigit_16 : decode cX4_isDigit 16 = .ok (.iconst 0, 1) := by decide +kernel
theorem dX4_isDigit_17 : decode cX4_isDigit 17 = .ok (.ireturn, 1) := by decide +kernel
theorem dX4_expectWord_0 : decode cX4_expectWord 0 = .ok (.iconst 0, 1) := by decide +kernel
theorem dX4_expectWord_1 : decode cX4_expectWord 1 = .ok (.istore_n 2, 1) := by decide +kernel
theorem dX4_expectWord_2 : decode cX4_expectWord 2 = .ok (.iload_n 2, 1) := by decide +kernel
theorem dX4_expectWord_3 : decode cX4_expectWord 3 = .ok (.aload_n 1, 1) := by decide +kernel
theorem dX4_expectWord_4 : decode cX4_expectWord 4 = .ok (.invokevirtual 100, 3) := by decide +kernel
theorem dX4_expectWord_7 : decode cX4_expectWord 7 = .ok (.if_icmp .ge 18, 3) := by decide +kernel
theorem dX4_expectWord_10 : decode cX4_expectWord 10 = .ok (.aload_n 0, 1) := by decide +kernel
theorem dX4_expectWord_11 : decode cX4_expectWord 11 = .ok (.aload_n 1, 1) := by decide +kernel
theorem dX4_expectWord_12 : decode cX4_expectWord 12 = .ok (.iload_n 2, 1) := by decide +kernel
theorem dX4_expectWord_13 : decode cX4_expectWord 13 = .ok (.invokevirtual 105, 3) := by decide +kernel
theorem dX4_expectWord_16 : decode cX4_expectWord 16 = .ok (.invokevirtual 46, 3) := by decide +kernel
theorem dX4_expectWord_19 : decode cX4_expectWord 19 = .ok (.iinc 2 1, 3) := by decide +kernel
theorem dX4_expectWord_22 : decode cX4_expectWord 22 = .ok (.goto (-20), 3) := by decide +kernel
theorem dX4_expectWord_25 : decode cX4_expectWord 25 = .ok (.return_, 1) := by decide +kernel
theorem dX4_expect_0 : decode cX4_expect 0 = .ok (.aload_n 0, 1) := by decide +kernel
theorem dX4_expect_1 : decode cX4_expect 1 = .ok (.getfield 35, 3) := by decide +kernel
theorem dX4_expect_4 : decode cX4_expect 4 = .ok (.ifCond .ne 25, 3) := by decide +kernel
theorem dX4_expect_7 : decode cX4_expect 7 = .ok (.aload_n 0, 1) := by decide +kernel
theorem dX4_expect_8 : decode cX4_expect 8 = .ok (.iconst 0, 1) := by decide +kernel
theorem dX4_expect_9 : decode cX4_expect 9 = .ok (.invokevirtual 72, 3) := by decide +kernel
theorem dX4_expect_12 : decode cX4_expect 12 = .ok (.iload_n 1, 1) := by decide +kernel
theorem dX4_expect_13 : decode cX4_expect 13 = .ok (.if_icmp .ne 16, 3) := by decide +kernel
theorem dX4_expect_16 : decode cX4_expect 16 = .ok (.aload_n 0, 1) := by decide +kernel
theorem dX4_expect_17 : decode cX4_expect 17 = .ok (.dup, 1) := by decide +kernel
theorem dX4_expect_18 : decode cX4_expect 18 = .ok (.getfield 32, 3) := by decide +kernel
theorem dX4_expect_21 : decode cX4_expect 21 = .ok (.iconst 1, 1) := by decide +kernel
theorem dX4_expect_22 : decode cX4_expect 22 = .ok (.iadd, 1) := by decide +kernel
theorem dX4_expect_23 : decode cX4_expect 23 = .ok (.putfield 32, 3) := by decide +kernel
theorem dX4_expect_26 : decode cX4_expect 26 = .ok (.goto 8, 3) := by decide +kernel
theorem dX4_expect_29 : decode cX4_expect 29 = .ok (.aload_n 0, 1) := by decide +kernel
theorem dX4_expect_30 : decode cX4_expect 30 = .ok (.iconst 1, 1) := by decide +kernel
theorem dX4_expect_31 : decode cX4_expect 31 = .ok (.putfield 35, 3) := by decide +kernel
theorem dX4_expect_34 : decode cX4_expect 34 = .ok (.return_, 1) := by decide +kernel
theorem dX4_peek_0 : decode cX4_peek 0 = .ok (.aload_n 0, 1) := by decide +kernel
theorem dX4_peek_1 : decode cX4_peek 1 = .ok (.getfield 32, 3) := by decide +kernel
theorem dX4_peek_4 : decode cX4_peek 4 = .ok (.iload_n 1, 1) := by decide +kernel
theorem dX4_peek_5 : decode cX4_peek 5 = .ok (.iadd, 1) := by decide +kernel
theorem dX4_peek_6 : decode cX4_peek 6 = .ok (.istore_n 2, 1) := by decide +kernel
theorem dX4_peek_7 : decode cX4_peek 7 = .ok (.iload_n 2, 1) := by decide +kernel
theorem dX4_peek_8 : decode cX4_peek 8 = .ok (.ifCond .lt 20, 3) := by decide +kernel
theorem dX4_peek_11 : decode cX4_peek 11 = .ok (.iload_n 2, 1) := by decide +kernel
theorem dX4_peek_12 : decode cX4_peek 12 = .ok (.aload_n 0, 1) := by decide +kernel
theorem dX4_peek_13 : decode cX4_peek 13 = .ok (.getfield 28, 3) := by decide +kernel
theorem dX4_peek_16 : decode cX4_peek 16 = .ok (.if_icmp .ge 12, 3) := by decide +kernel
theorem dX4_peek_19 : decode cX4_peek 19 = .ok (.aload_n 0, 1) := by decide +kernel
theorem dX4_peek_20 : decode cX4_peek 20 = .ok (.getfield 9, 3) := by decide +kernel
theorem dX4_peek_23 : decode cX4_peek 23 = .ok (.iload_n 2, 1) := by decide +kernel
theorem dX4_peek_24 : decode cX4_peek 24 = .ok (.caload, 1) := by decide +kernel
theorem dX4_peek_25 : decode cX4_peek 25 = .ok (.goto 4, 3) := by decide +kernel
theorem dX4_peek_28 : decode cX4_peek 28 = .ok (.iconst (-1), 1) := by decide +kernel
theorem dX4_peek_29 : decode cX4_peek 29 = .ok (.ireturn, 1) := by decide +kernel
theorem dX5_init_0 : decode cX5_init 0 = .ok (.aload_n 0, 1) := by decide +kernel
theorem dX5_init_1 : decode cX5_init 1 = .ok (.invokespecial 3, 3) := by decide +kernel
theorem dX5_init_4 : decode cX5_init 4 = .ok (.aload_n 0, 1) := by decide +kernel
theorem dX5_init_5 : decode cX5_init 5 = .ok (.bipush 7, 2) := by decide +kernel
theorem dX5_init_7 : decode cX5_init 7 = .ok (.newarray .int, 2) := by decide +kernel
theorem dX5_init_9 : decode cX5_init 9 = .ok (.putfield 9, 3) := by decide +kernel
theorem dX5_init_12 : decode cX5_init 12 = .ok (.aload_n 0, 1) := by decide +kernel
theorem dX5_init_13 : decode cX5_init 13 = .ok (.bipush 8, 2) := by decide +kernel
theorem dX5_init_15 : decode cX5_init 15 = .ok (.newarray .int, 2) := by decide +kernel
theorem dX5_init_17 : decode cX5_init 17 = .ok (.putfield 15, 3) := by decide +kernel
theorem dX5_init_20 : decode cX5_init 20 = .ok (.aload_n 0, 1) := by decide +kernel
theorem dX5_init_21 : decode cX5_init 21 = .ok (.bipush 16, 2) := by decide +kernel
theorem dX5_init_23 : decode cX5_init 23 = .ok (.newarray .int, 2) := by decide +kernel
theorem dX5_init_25 : decode cX5_init 25 = .ok (.putfield 18, 3) := by decide +kernel
theorem dX5_init_28 : decode cX5_init 28 = .ok (.aload_n 0, 1) := by decide +kernel
theorem dX5_init_29 : decode cX5_init 29 = .ok (.bipush 8, 2) := by decide +kernel
theorem dX5_init_31 : decode cX5_init 31 = .ok (.newarray .int, 2) := by decide +kernel
theorem dX5_init_33 : decode cX5_init 33 = .ok (.putfield 21, 3) := by decide +kernel
theorem dX5_init_36 : decode cX5_init 36 = .ok (.aload_n 0, 1) := by decide +kernel
theorem dX5_init_37 : decode cX5_init 37 = .ok (.bipush 8, 2) := by decide +kernel
theorem dX5_init_39 : decode cX5_init 39 = .ok (.newarray .int, 2) := by decide +kernel
theorem dX5_init_41 : decode cX5_init 41 = .ok (.putfield 24, 3) := by decide +kernel
theorem dX5_init_44 : decode cX5_init 44 = .ok (.return_, 1) := by decide +kernel
theorem dX5_findRoute_0 : decode cX5_findRoute 0 = .ok (.aload_n 0, 1) := by decide +kernel
theorem dX5_findRoute_1 : decode cX5_findRoute 1 = .ok (.aload_n 1, 1) := by decide +kernel
theorem dX5_findRoute_2 : decode cX5_findRoute 2 = .ok (.iload_n 2, 1) := by decide +kernel
theorem dX5_findRoute_3 : decode cX5_findRoute 3 = .ok (.iload 4, 2) := by decide +kernel
theorem dX5_findRoute_5 : decode cX5_findRoute 5 = .ok (.invokevirtual 27, 3) := by decide +kernel
theorem dX5_findRoute_8 : decode cX5_findRoute 8 = .ok (.aload_n 0, 1) := by decide +kernel
theorem dX5_findRoute_9 : decode cX5_findRoute 9 = .ok (.iconst 0, 1) := by decide +kernel
theorem dX5_findRoute_10 : decode cX5_findRoute 10 = .ok (.putfield 31, 3) := by decide +kernel
theorem dX5_findRoute_13 : decode cX5_findRoute 13 = .ok (.aload_n 0, 1) := by decide +kernel
theorem dX5_findRoute_14 : decode cX5_findRoute 14 = .ok (.iload_n 3, 1) := by decide +kernel
theorem dX5_findRoute_15 : decode cX5_findRoute 15 = .ok (.invokevirtual 35, 3) := by decide +kernel
theorem dX5_findRoute_18 : decode cX5_findRoute 18 = .ok (.ldc 39, 2) := by decide +kernel
theorem dX5_findRoute_20 : decode cX5_findRoute 20 = .ok (.if_icmp .lt 5, 3) := by decide +kernel
theorem dX5_findRoute_23 : decode cX5_findRoute 23 = .ok (.iconst 0, 1) := by decide +kernel
theorem dX5_findRoute_24 : decode cX5_findRoute 24 = .ok (.ireturn, 1) := by decide +kernel
theorem dX5_findRoute_25 : decode cX5_findRoute 25 = .ok (.aload_n 0, 1) := by decide +kernel
theorem dX5_findRoute_26 : decode cX5_findRoute 26 = .ok (.aload_n 0, 1) := by decide +kernel
theorem dX5_findRoute_27 : decode cX5_findRoute 27 = .ok (.iload_n 3, 1) := by decide +kernel
theorem dX5_findRoute_28 : decode cX5_findRoute 28 = .ok (.invokevirtual 35, 3) := by decide +kernel
theorem dX5_findRoute_31 : decode cX5_findRoute 31 = .ok (.bipush 8, 2) := by decide +kernel
theorem dX5_findRoute_33 : decode cX5_findRoute 33 = .ok (.idiv, 1) := by decide +kernel
theorem dX5_findRoute_34 : decode cX5_findRoute 34 = .ok (.putfield 40, 3) := by decide +kernel
theorem dX5_findRoute_37 : decode cX5_findRoute 37 = .ok (.iload_n 3, 1) := by decide +kernel
theorem dX5_findRoute_38 : decode cX5_findRoute 38 = .ok (.istore 5, 2) := by decide +kernel
theorem dX5_findRoute_40 : decode cX5_findRoute 40 = .ok (.iconst 0, 1) := by decide +kernel
theorem dX5_findRoute_41 : decode cX5_findRoute 41 = .ok (.istore 6, 2) := by decide +kernel
theorem dX5_findRoute_43 : decode cX5_findRoute 43 = .ok (.iload 6, 2) := by decide +kernel
theorem dX5_findRoute_45 : decode cX5_findRoute 45 = .ok (.bipush 7, 2) := by decide +kernel
theorem dX5_findRoute_47 : decode cX5_findRoute 47 = .ok (.if_icmp .ge 53, 3) := by decide +kernel
theorem dX5_findRoute_50 : decode cX5_findRoute 50 = .ok (.iload 5, 2) := by decide +kernel
theorem dX5_findRoute_52 : decode cX5_findRoute 52 = .ok (.iload 4, 2) := by decide +kernel
theorem dX5_findRoute_54 : decode cX5_findRoute 54 = .ok (.if_icmp .eq 46, 3) := by decide +kernel
theorem dX5_findRoute_57 : decode cX5_findRoute 57 = .ok (.aload_n 0, 1) := by decide +kernel
theorem dX5_findRoute_58 : decode cX5_findRoute 58 = .ok (.aload_n 1, 1) := by decide +kernel
theorem dX5_findRoute_59 : decode cX5_findRoute 59 = .ok (.iload_n 2, 1) := by decide +kernel
theorem dX5_findRoute_60 : decode cX5_findRoute 60 = .ok (.iload 5, 2) := by decide +kernel
theorem dX5_findRoute_62 : decode cX5_findRoute 62 = .ok (.invokevirtual 43, 3) := by decide +kernel
theorem dX5_findRoute_65 : decode cX5_findRoute 65 = .ok (.istore 7, 2) := by decide +kernel
theorem dX5_findRoute_67 : decode cX5_findRoute 67 = .ok (.aload_n 0, 1) := by decide +kernel
theorem dX5_findRoute_68 : decode cX5_findRoute 68 = .ok (.getfield 9, 3) := by decide +kernel
theorem dX5_findRoute_71 : decode cX5_findRoute 71 = .ok (.iload 6, 2) := by decide +kernel
theorem dX5_findRoute_73 : decode cX5_findRoute 73 = .ok (.iload 7, 2) := by decide +kernel
theorem dX5_findRoute_75 : decode cX5_findRoute 75 = .ok (.iastore, 1) := by decide +kernel
theorem dX5_findRoute_76 : decode cX5_findRoute 76 = .ok (.aload_n 0, 1) := by decide +kernel
theorem dX5_findRoute_77 : decode cX5_findRoute 77 = .ok (.iload 6, 2) := by decide +kernel
theorem dX5_findRoute_79 : decode cX5_findRoute 79 = .ok (.iconst 1, 1) := by decide +kernel
theorem dX5_findRoute_80 : decode cX5_findRoute 80 = .ok (.iadd, 1) := by decide +kernel
theorem dX5_findRoute_81 : decode cX5_findRoute 81 = .ok (.putfield 31, 3) := by decide +kernel
theorem dX5_findRoute_84 : decode cX5_findRoute 84 = .ok (.aload_n 1, 1) := by decide +kernel
theorem dX5_findRoute_85 : decode cX5_findRoute 85 = .ok (.iload 7, 2) := by decide +kernel
theorem dX5_findRoute_87 : decode cX5_findRoute 87 = .ok (.iload 5, 2) := by decide +kernel
theorem dX5_findRoute_89 : decode cX5_findRoute 89 = .ok (.invokevirtual 47, 3) := by decide +kernel
theorem dX5_findRoute_92 : decode cX5_findRoute 92 = .ok (.istore 5, 2) := by decide +kernel
theorem dX5_findRoute_94 : decode cX5_findRoute 94 = .ok (.iinc 6 1, 3) := by decide +kernel
theorem dX5_findRoute_97 : decode cX5_findRoute 97 = .ok (.goto (-54), 3) := by decide +kernel
theorem dX5_findRoute_100 : decode cX5_findRoute 100 = .ok (.iload 5, 2) := by decide +kernel
theorem dX5_findRoute_102 : decode cX5_findRoute 102 = .ok (.iload 4, 2) := by decide +kernel
theorem dX5_findRoute_104 : decode cX5_findRoute 104 = .ok (.if_icmp .ne 7, 3) := by decide +kernel
theorem dX5_findRoute_107 : decode cX5_findRoute 107 = .ok (.iconst 1, 1) := by decide +kernel
theorem dX5_findRoute_108 : decode cX5_findRoute 108 = .ok (.goto 4, 3) := by decide +kernel
theorem dX5_findRoute_111 : decode cX5_findRoute 111 = .ok (.iconst 0, 1) := by decide +kernel
theorem dX5_findRoute_112 : decode cX5_findRoute 112 = .ok (.ireturn, 1) := by decide +kernel
theorem dX5_firstTrunkToGoal_0 : decode cX5_firstTrunkToGoal 0 = .ok (.iconst 0, 1) := by decide +kernel
theorem dX5_firstTrunkToGoal_1 : decode cX5_firstTrunkToGoal 1 = .ok (.istore 4, 2) := by decide +kernel
theorem dX5_firstTrunkToGoal_3 : decode cX5_firstTrunkToGoal 3 = .ok (.iload 4, 2) := by decide +kernel
theorem dX5_firstTrunkToGoal_5 : decode cX5_firstTrunkToGoal 5 = .ok (.aload_n 1, 1) := by decide +kernel
theorem dX5_firstTrunkToGoal_6 : decode cX5_firstTrunkToGoal 6 = .ok (.getfield 53, 3) := by decide +kernel
theorem dX5_firstTrunkToGoal_9 : decode cX5_firstTrunkToGoal 9 = .ok (.if_icmp .ge 61, 3) := by decide +kernel
theorem dX5_firstTrunkToGoal_12 : decode cX5_firstTrunkToGoal 12 = .ok (.aload_n 1, 1) := by decide +kernel
theorem dX5_firstTrunkToGoal_13 : decode cX5_firstTrunkToGoal 13 = .ok (.iload 4, 2) := by decide +kernel
theorem dX5_firstTrunkToGoal_15 : decode cX5_firstTrunkToGoal 15 = .ok (.iload_n 3, 1) := by decide +kernel
theorem dX5_firstTrunkToGoal_16 : decode cX5_firstTrunkToGoal 16 = .ok (.invokevirtual 47, 3) := by decide +kernel
theorem dX5_firstTrunkToGoal_19 : decode cX5_firstTrunkToGoal 19 = .ok (.istore 5, 2) := by decide +kernel
theorem dX5_firstTrunkToGoal_21 : decode cX5_firstTrunkToGoal 21 = .ok (.iload 5, 2) := by decide +kernel
theorem dX5_firstTrunkToGoal_23 : decode cX5_firstTrunkToGoal 23 = .ok (.iconst (-1), 1) := by decide +kernel
theorem dX5_firstTrunkToGoal_24 : decode cX5_firstTrunkToGoal 24 = .ok (.if_icmp .eq 40, 3) := by decide +kernel
theorem dX5_firstTrunkToGoal_27 : decode cX5_firstTrunkToGoal 27 = .ok (.iload_n 2, 1) := by decide +kernel
theorem dX5_firstTrunkToGoal_28 : decode cX5_firstTrunkToGoal 28 = .ok (.iload 4, 2) := by decide +kernel
theorem dX5_firstTrunkToGoal_30 : decode cX5_firstTrunkToGoal 30 = .ok (.invokestatic 56, 3) := by decide +kernel
theorem dX5_firstTrunkToGoal_33 : decode cX5_firstTrunkToGoal 33 = .ok (.ifCond .eq 31, 3) := by decide +kernel
theorem dX5_firstTrunkToGoal_36 : decode cX5_firstTrunkToGoal 36 = .ok (.aload_n 0, 1) := by decide +kernel
theorem dX5_firstTrunkToGoal_37 : decode cX5_firstTrunkToGoal 37 = .ok (.iload_n 3, 1) := by decide +kernel
theorem dX5_firstTrunkToGoal_38 : decode cX5_firstTrunkToGoal 38 = .ok (.invokevirtual 35, 3) := by decide +kernel
theorem dX5_firstTrunkToGoal_41 : decode cX5_firstTrunkToGoal 41 = .ok (.aload_n 0, 1) := by decide +kernel
theorem dX5_firstTrunkToGoal_42 : decode cX5_firstTrunkToGoal 42 = .ok (.iload 5, 2) := by decide +kernel
theorem dX5_firstTrunkToGoal_44 : decode cX5_firstTrunkToGoal 44 = .ok (.invokevirtual 35, 3) := by decide +kernel
theorem dX5_firstTrunkToGoal_47 : decode cX5_firstTrunkToGoal 47 = .ok (.aload_n 1, 1) := by decide +kernel
theorem dX5_firstTrunkToGoal_48 : decode cX5_firstTrunkToGoal 48 = .ok (.getfield 60, 3) := by decide +kernel
theorem dX5_firstTrunkToGoal_51 : decode cX5_firstTrunkToGoal 51 = .ok (.iload 4, 2) := by decide +kernel
theorem dX5_firstTrunkToGoal_53 : decode cX5_firstTrunkToGoal 53 = .ok (.iaload, 1) := by decide +kernel
theorem dX5_firstTrunkToGoal_54 : decode cX5_firstTrunkToGoal 54 = .ok (.invokestatic 63, 3) := by decide +kernel
theorem dX5_firstTrunkToGoal_57 : decode cX5_firstTrunkToGoal 57 = .ok (.iadd, 1) := by decide +kernel
theorem dX5_firstTrunkToGoal_58 : decode cX5_firstTrunkToGoal 58 = .ok (.if_icmp .ne 6, 3) := by decide +kernel
theorem dX5_firstTrunkToGoal_61 : decode cX5_firstTrunkToGoal 61 = .ok (.iload 4, 2) := by decide +kernel
theorem dX5_firstTrunkToGoal_63 : decode cX5_firstTrunkToGoal 63 = .ok (.ireturn, 1) := by decide +kernel
theorem dX5_firstTrunkToGoal_64 : decode cX5_firstTrunkToGoal 64 = .ok (.iinc 4 1, 3) := by decide +kernel
theorem dX5_firstTrunkToGoal_67 : decode cX5_firstTrunkToGoal 67 = .ok (.goto (-64), 3) := by decide +kernel
theorem dX5_firstTrunkToGoal_70 : decode cX5_firstTrunkToGoal 70 = .ok (.iconst (-1), 1) := by decide +kernel
theorem dX5_firstTrunkToGoal_71 : decode cX5_firstTrunkToGoal 71 = .ok (.ireturn, 1) := by decide +kernel
theorem dX5_shortestLength_0 : decode cX5_shortestLength 0 = .ok (.aload_n 0, 1) := by decide +kernel
theorem dX5_shortestLength_1 : decode cX5_shortestLength 1 = .ok (.aload_n 1, 1) := by decide +kernel
theorem dX5_shortestLength_2 : decode cX5_shortestLength 2 = .ok (.iload_n 2, 1) := by decide +kernel
theorem dX5_shortestLength_3 : decode cX5_shortestLength 3 = .ok (.iload_n 3, 1) := by decide +kernel
theorem dX5_shortestLength_4 : decode cX5_shortestLength 4 = .ok (.invokevirtual 27, 3) := by decide +kernel
theorem dX5_shortestLength_7 : decode cX5_shortestLength 7 = .ok (.aload_n 0, 1) := by decide +kernel
theorem dX5_shortestLength_8 : decode cX5_shortestLength 8 = .ok (.iload 4, 2) := by decide +kernel
theorem dX5_shortestLength_10 : decode cX5_shortestLength 10 = .ok (.invokevirtual 35, 3) := by decide +kernel
theorem dX5_shortestLength_13 : decode cX5_shortestLength 13 = .ok (.ldc 39, 2) := by decide +kernel
theorem dX5_shortestLength_15 : decode cX5_shortestLength 15 = .ok (.if_icmp .lt 7, 3) := by decide +kernel
theorem dX5_shortestLength_18 : decode cX5_shortestLength 18 = .ok (.iconst (-1), 1) := by decide +kernel
theorem dX5_shortestLength_19 : decode cX5_shortestLength 19 = .ok (.goto 12, 3) := by decide +kernel
theorem dX5_shortestLength_22 : decode cX5_shortestLength 22 = .ok (.aload_n 0, 1) := by decide +kernel
theorem dX5_shortestLength_23 : decode cX5_shortestLength 23 = .ok (.iload 4, 2) := by decide +kernel
theorem dX5_shortestLength_25 : decode cX5_shortestLength 25 = .ok (.invokevirtual 35, 3) := by decide +kernel
theorem dX5_shortestLength_28 : decode cX5_shortestLength 28 = .ok (.bipush 8, 2) := by decide +kernel
theorem dX5_shortestLength_30 : decode cX5_shortestLength 30 = .ok (.idiv, 1) := by decide +kernel
theorem dX5_shortestLength_31 : decode cX5_shortestLength 31 = .ok (.ireturn, 1) := by decide +kernel
theorem dX5_measure_0 : decode cX5_measure 0 = .ok (.aload_n 0, 1) := by decide +kernel
theorem dX5_measure_1 : decode cX5_measure 1 = .ok (.getfield 15, 3) := by decide +kernel
theorem dX5_measure_4 : decode cX5_measure 4 = .ok (.ldc 39, 2) := by decide +kernel
theorem dX5_measure_6 : decode cX5_measure 6 = .ok (.invokestatic 66, 3) := by decide +kernel
theorem dX5_measure_9 : decode cX5_measure 9 = .ok (.aload_n 0, 1) := by decide +kernel
theorem dX5_measure_10 : decode cX5_measure 10 = .ok (.iload_n 3, 1) := by decide +kernel
theorem dX5_measure_11 : decode cX5_measure 11 = .ok (.iconst 0, 1) := by decide +kernel
theorem dX5_measure_12 : decode cX5_measure 12 = .ok (.invokevirtual 72, 3) := by decide +kernel
theorem dX5_measure_15 : decode cX5_measure 15 = .ok (.iconst 0, 1) := by decide +kernel
theorem dX5_measure_16 : decode cX5_measure 16 = .ok (.istore 4, 2) := by decide +kernel
theorem dX5_measure_18 : decode cX5_measure 18 = .ok (.iconst 0, 1) := by decide +kernel
theorem dX5_measure_19 : decode cX5_measure 19 = .ok (.istore 5, 2) := by decide +kernel
theorem dX5_measure_21 : decode cX5_measure 21 = .ok (.iload 5, 2) := by decide +kernel
theorem dX5_measure_23 : decode cX5_measure 23 = .ok (.aload_n 1, 1) := by decide +kernel
theorem dX5_measure_24 : decode cX5_measure 24 = .ok (.getfield 76, 3) := by decide +kernel
theorem dX5_measure_27 : decode cX5_measure 27 = .ok (.if_icmp .ge 90, 3) := by decide +kernel
theorem dX5_measure_30 : decode cX5_measure 30 = .ok (.aload_n 0, 1) := by decide +kernel
theorem dX5_measure_31 : decode cX5_measure 31 = .ok (.iload 4, 2) := by decide +kernel
theorem dX5_measure_33 : decode cX5_measure 33 = .ok (.invokevirtual 79, 3) := by decide +kernel
theorem dX5_measure_36 : decode cX5_measure 36 = .ok (.istore 6, 2) := by decide +kernel
theorem dX5_measure_38 : decode cX5_measure 38 = .ok (.iload 6, 2) := by decide +kernel
theorem dX5_measure_40 : decode cX5_measure 40 = .ok (.iconst (-1), 1) := by decide +kernel
theorem dX5_measure_41 : decode cX5_measure 41 = .ok (.if_icmp .ne 4, 3) := by decide +kernel
theorem dX5_measure_44 : decode cX5_measure 44 = .ok (.return_, 1) := by decide +kernel
theorem dX5_measure_45 : decode cX5_measure 45 = .ok (.iload 4, 2) := by decide +kernel
theorem dX5_measure_47 : decode cX5_measure 47 = .ok (.iload 6, 2) := by decide +kernel
theorem dX5_measure_49 : decode cX5_measure 49 = .ok (.invokestatic 82, 3) := by decide +kernel
theorem dX5_measure_52 : decode cX5_measure 52 = .ok (.ior, 1) := by decide +kernel
theorem dX5_measure_53 : decode cX5_measure 53 = .ok (.istore 4, 2) := by decide +kernel
theorem dX5_measure_55 : decode cX5_measure 55 = .ok (.iconst 0, 1) := by decide +kernel
theorem dX5_measure_56 : decode cX5_measure 56 = .ok (.istore 7, 2) := by decide +kernel
theorem dX5_measure_58 : decode cX5_measure 58 = .ok (.iload 7, 2) := by decide +kernel
theorem dX5_measure_60 : decode cX5_measure 60 = .ok (.aload_n 1, 1) := by decide +kernel
theorem dX5_measure_61 : decode cX5_measure 61 = .ok (.getfield 53, 3) := by decide +kernel
theorem dX5_measure_64 : decode cX5_measure 64 = .ok (.if_icmp .ge 47, 3) := by decide +kernel
theorem dX5_measure_67 : decode cX5_measure 67 = .ok (.iload_n 2, 1) := by decide +kernel
theorem dX5_measure_68 : decode cX5_measure 68 = .ok (.iload 7, 2) := by decide +kernel
theorem dX5_measure_70 : decode cX5_measure 70 = .ok (.invokestatic 56, 3) := by decide +kernel
theorem dX5_measure_73 : decode cX5_measure 73 = .ok (.ifCond .eq 32, 3) := by decide +kernel
theorem dX5_measure_76 : decode cX5_measure 76 = .ok (.aload_n 0, 1) := by decide +kernel
theorem dX5_measure_77 : decode cX5_measure 77 = .ok (.aload_n 1, 1) := by decide +kernel
theorem dX5_measure_78 : decode cX5_measure 78 = .ok (.iload 7, 2) := by decide +kernel
theorem dX5_measure_80 : decode cX5_measure 80 = .ok (.iload 6, 2) := by decide +kernel
theorem dX5_measure_82 : decode cX5_measure 82 = .ok (.invokevirtual 47, 3) := by decide +kernel
theorem dX5_measure_85 : decode cX5_measure 85 = .ok (.aload_n 0, 1) := by decide +kernel
theorem dX5_measure_86 : decode cX5_measure 86 = .ok (.iload 6, 2) := by decide +kernel
theorem dX5_measure_88 : decode cX5_measure 88 = .ok (.invokevirtual 35, 3) := by decide +kernel
theorem dX5_measure_91 : decode cX5_measure 91 = .ok (.aload_n 1, 1) := by decide +kernel
theorem dX5_measure_92 : decode cX5_measure 92 = .ok (.getfield 60, 3) := by decide +kernel
theorem dX5_measure_95 : decode cX5_measure 95 = .ok (.iload 7, 2) := by decide +kernel
theorem dX5_measure_97 : decode cX5_measure 97 = .ok (.iaload, 1) := by decide +kernel
theorem dX5_measure_98 : decode cX5_measure 98 = .ok (.invokestatic 63, 3) := by decide +kernel
theorem dX5_measure_101 : decode cX5_measure 101 = .ok (.iadd, 1) := by decide +kernel
theorem dX5_measure_102 : decode cX5_measure 102 = .ok (.invokevirtual 72, 3) := by decide +kernel
theorem dX5_measure_105 : decode cX5_measure 105 = .ok (.iinc 7 1, 3) := by decide +kernel
theorem dX5_measure_108 : decode cX5_measure 108 = .ok (.goto (-50), 3) := by decide +kernel
theorem dX5_measure_111 : decode cX5_measure 111 = .ok (.iinc 5 1, 3) := by decide +kernel
theorem dX5_measure_114 : decode cX5_measure 114 = .ok (.goto (-93), 3) := by decide +kernel
theorem dX5_measure_117 : decode cX5_measure 117 = .ok (.return_, 1) := by decide +kernel
theorem dX5_keyOf_0 : decode cX5_keyOf 0 = .ok (.iload_n 0, 1) := by decide +kernel
theorem dX5_keyOf_1 : decode cX5_keyOf 1 = .ok (.bipush 8, 2) := by decide +kernel
theorem dX5_keyOf_3 : decode cX5_keyOf 3 = .ok (.imul, 1) := by decide +kernel
theorem dX5_keyOf_4 : decode cX5_keyOf 4 = .ok (.iconst 1, 1) := by decide +kernel
theorem dX5_keyOf_5 : decode cX5_keyOf 5 = .ok (.iadd, 1) := by decide +kernel
theorem dX5_keyOf_6 : decode cX5_keyOf 6 = .ok (.ireturn, 1) := by decide +kernel
theorem dX5_nearestUnsettled_0 : decode cX5_nearestUnsettled 0 = .ok (.iconst (-1), 1) := by decide +kernel
theorem dX5_nearestUnsettled_1 : decode cX5_nearestUnsettled 1 = .ok (.istore_n 2, 1) := by decide +kernel
theorem dX5_nearestUnsettled_2 : decode cX5_nearestUnsettled 2 = .ok (.ldc 39, 2) := by decide +kernel
theorem dX5_nearestUnsettled_4 : decode cX5_nearestUnsettled 4 = .ok (.istore_n 3, 1) := by decide +kernel
theorem dX5_nearestUnsettled_5 : decode cX5_nearestUnsettled 5 = .ok (.iconst 0, 1) := by decide +kernel
theorem dX5_nearestUnsettled_6 : decode cX5_nearestUnsettled 6 = .ok (.istore 4, 2) := by decide +kernel
theorem dX5_nearestUnsettled_8 : decode cX5_nearestUnsettled 8 = .ok (.iload 4, 2) := by decide +kernel
theorem dX5_nearestUnsettled_10 : decode cX5_nearestUnsettled 10 = .ok (.bipush 8, 2) := by decide +kernel
theorem dX5_nearestUnsettled_12 : decode cX5_nearestUnsettled 12 = .ok (.if_icmp .ge 40, 3) := by decide +kernel
theorem dX5_nearestUnsettled_15 : decode cX5_nearestUnsettled 15 = .ok (.iload_n 1, 1) := by decide +kernel
theorem dX5_nearestUnsettled_16 : decode cX5_nearestUnsettled 16 = .ok (.iload 4, 2) := by decide +kernel
theorem dX5_nearestUnsettled_18 : decode cX5_nearestUnsettled 18 = .ok (.ishr, 1) := by decide +kernel
theorem dX5_nearestUnsettled_19 : decode cX5_nearestUnsettled 19 = .ok (.iconst 1, 1) := by decide +kernel
theorem dX5_nearestUnsettled_20 : decode cX5_nearestUnsettled 20 = .ok (.iand, 1) := by decide +kernel
theorem dX5_nearestUnsettled_21 : decode cX5_nearestUnsettled 21 = .ok (.ifCond .ne 25, 3) := by decide +kernel
theorem dX5_nearestUnsettled_24 : decode cX5_nearestUnsettled 24 = .ok (.aload_n 0, 1) := by decide +kernel
theorem dX5_nearestUnsettled_25 : decode cX5_nearestUnsettled 25 = .ok (.getfield 15, 3) := by decide +kernel
theorem dX5_nearestUnsettled_28 : decode cX5_nearestUnsettled 28 = .ok (.iload 4, 2) := by decide +kernel
theorem dX5_nearestUnsettled_30 : decode cX5_nearestUnsettled 30 = .ok (.iaload, 1) := by decide +kernel
theorem dX5_nearestUnsettled_31 : decode cX5_nearestUnsettled 31 = .ok (.iload_n 3, 1) := by decide +kernel
theorem dX5_nearestUnsettled_32 : decode cX5_nearestUnsettled 32 = .ok (.if_icmp .ge 14, 3) := by decide +kernel
theorem dX5_nearestUnsettled_35 : decode cX5_nearestUnsettled 35 = .ok (.iload 4, 2) := by decide +kernel
theorem dX5_nearestUnsettled_37 : decode cX5_nearestUnsettled 37 = .ok (.istore_n 2, 1) := by decide +kernel
theorem dX5_nearestUnsettled_38 : decode cX5_nearestUnsettled 38 = .ok (.aload_n 0, 1) := by decide +kernel
theorem dX5_nearestUnsettled_39 : decode cX5_nearestUnsettled 39 = .ok (.getfield 15, 3) := by decide +kernel
theorem dX5_nearestUnsettled_42 : decode cX5_nearestUnsettled 42 = .ok (.iload 4, 2) := by decide +kernel
theorem dX5_nearestUnsettled_44 : decode cX5_nearestUnsettled 44 = .ok (.iaload, 1) := by decide +kernel
theorem dX5_nearestUnsettled_45 : decode cX5_nearestUnsettled 45 = .ok (.istore_n 3, 1) := by decide +kernel
theorem dX5_nearestUnsettled_46 : decode cX5_nearestUnsettled 46 = .ok (.iinc 4 1, 3) := by decide +kernel
theorem dX5_nearestUnsettled_49 : decode cX5_nearestUnsettled 49 = .ok (.goto (-41), 3) := by decide +kernel
theorem dX5_nearestUnsettled_52 : decode cX5_nearestUnsettled 52 = .ok (.iload_n 2, 1) := by decide +kernel
theorem dX5_nearestUnsettled_53 : decode cX5_nearestUnsettled 53 = .ok (.ireturn, 1) := by decide +kernel
theorem dX5_distanceOf_0 : decode cX5_distanceOf 0 = .ok (.iload_n 1, 1) := by decide +kernel
theorem dX5_distanceOf_1 : decode cX5_distanceOf 1 = .ok (.ifCond .lt 18, 3) := by decide +kernel
theorem dX5_distanceOf_4 : decode cX5_distanceOf 4 = .ok (.iload_n 1, 1) := by decide +kernel
theorem dX5_distanceOf_5 : decode cX5_distanceOf 5 = .ok (.bipush 8, 2) := by decide +kernel
theorem dX5_distanceOf_7 : decode cX5_distanceOf 7 = .ok (.if_icmp .ge 12, 3) := by decide +kernel
theorem dX5_distanceOf_10 : decode cX5_distanceOf 10 = .ok (.aload_n 0, 1) := by decide +kernel
theorem dX5_distanceOf_11 : decode cX5_distanceOf 11 = .ok (.getfield 15, 3) := by decide +kernel
theorem dX5_distanceOf_14 : decode cX5_distanceOf 14 = .ok (.iload_n 1, 1) := by decide +kernel
theorem dX5_distanceOf_15 : decode cX5_distanceOf 15 = .ok (.iaload, 1) := by decide +kernel
theorem dX5_distanceOf_16 : decode cX5_distanceOf 16 = .ok (.goto 5, 3) := by decide +kernel
theorem dX5_distanceOf_19 : decode cX5_distanceOf 19 = .ok (.ldc 39, 2) := by decide +kernel
theorem dX5_distanceOf_21 : decode cX5_distanceOf 21 = .ok (.ireturn, 1) := by decide +kernel
theorem dX5_shorten_0 : decode cX5_shorten 0 = .ok (.iload_n 1, 1) := by decide +kernel
theorem dX5_shorten_1 : decode cX5_shorten 1 = .ok (.ifCond .lt 26, 3) := by decide +kernel
theorem dX5_shorten_4 : decode cX5_shorten 4 = .ok (.iload_n 1, 1) := by decide +kernel
theorem dX5_shorten_5 : decode cX5_shorten 5 = .ok (.bipush 8, 2) := by decide +kernel
theorem dX5_shorten_7 : decode cX5_shorten 7 = .ok (.if_icmp .ge 20, 3) := by decide +kernel
theorem dX5_shorten_10 : decode cX5_shorten 10 = .ok (.iload_n 2, 1) := by decide +kernel
theorem dX5_shorten_11 : decode cX5_shorten 11 = .ok (.aload_n 0, 1) := by decide +kernel
theorem dX5_shorten_12 : decode cX5_shorten 12 = .ok (.getfield 15, 3) := by decide +kernel
theorem dX5_shorten_15 : decode cX5_shorten 15 = .ok (.iload_n 1, 1) := by decide +kernel
theorem dX5_shorten_16 : decode cX5_shorten 16 = .ok (.iaload, 1) := by decide +kernel
theorem dX5_shorten_17 : decode cX5_shorten 17 = .ok (.if_icmp .ge 10, 3) := by decide +kernel
theorem dX5_shorten_20 : decode cX5_shorten 20 = .ok (.aload_n 0, 1) := by decide +kernel
theorem dX5_shorten_21 : decode cX5_shorten 21 = .ok (.getfield 15, 3) := by decide +kernel
theorem dX5_shorten_24 : decode cX5_shorten 24 = .ok (.iload_n 1, 1) := by decide +kernel
theorem dX5_shorten_25 : decode cX5_shorten 25 = .ok (.iload_n 2, 1) := by decide +kernel
theorem dX5_shorten_26 : decode cX5_shorten 26 = .ok (.iastore, 1) := by decide +kernel
theorem dX5_shorten_27 : decode cX5_shorten 27 = .ok (.return_, 1) := by decide +kernel
theorem dX5_relaxedLength_0 : decode cX5_relaxedLength 0 = .ok (.aload_n 0, 1) := by decide +kernel
theorem dX5_relaxedLength_1 : decode cX5_relaxedLength 1 = .ok (.getfield 15, 3) := by decide +kernel
theorem dX5_relaxedLength_4 : decode cX5_relaxedLength 4 = .ok (.ldc 39, 2) := by decide +kernel
theorem dX5_relaxedLength_6 : decode cX5_relaxedLength 6 = .ok (.invokestatic 66, 3) := by decide +kernel
theorem dX5_relaxedLength_9 : decode cX5_relaxedLength 9 = .ok (.aload_n 0, 1) := by decide +kernel
theorem dX5_relaxedLength_10 : decode cX5_relaxedLength 10 = .ok (.iload_n 3, 1) := by decide +kernel
theorem dX5_relaxedLength_11 : decode cX5_relaxedLength 11 = .ok (.iconst 0, 1) := by decide +kernel
theorem dX5_relaxedLength_12 : decode cX5_relaxedLength 12 = .ok (.invokevirtual 72, 3) := by decide +kernel
theorem dX5_relaxedLength_15 : decode cX5_relaxedLength 15 = .ok (.iconst 1, 1) := by decide +kernel
theorem dX5_relaxedLength_16 : decode cX5_relaxedLength 16 = .ok (.istore 5, 2) := by decide +kernel
theorem dX5_relaxedLength_18 : decode cX5_relaxedLength 18 = .ok (.iload 5, 2) := by decide +kernel
theorem dX5_relaxedLength_20 : decode cX5_relaxedLength 20 = .ok (.aload_n 1, 1) := by decide +kernel
theorem dX5_relaxedLength_21 : decode cX5_relaxedLength 21 = .ok (.getfield 76, 3) := by decide +kernel
theorem dX5_relaxedLength_24 : decode cX5_relaxedLength 24 = .ok (.if_icmp .ge 94, 3) := by decide +kernel
theorem dX5_relaxedLength_27 : decode cX5_relaxedLength 27 = .ok (.iconst 0, 1) := by decide +kernel
theorem dX5_relaxedLength_28 : decode cX5_relaxedLength 28 = .ok (.istore 6, 2) := by decide +kernel
theorem dX5_relaxedLength_30 : decode cX5_relaxedLength 30 = .ok (.iload 6, 2) := by decide +kernel
theorem dX5_relaxedLength_32 : decode cX5_relaxedLength 32 = .ok (.aload_n 1, 1) := by decide +kernel
theorem dX5_relaxedLength_33 : decode cX5_relaxedLength 33 = .ok (.getfield 53, 3) := by decide +kernel
theorem dX5_relaxedLength_36 : decode cX5_relaxedLength 36 = .ok (.if_icmp .ge 76, 3) := by decide +kernel
theorem dX5_relaxedLength_39 : decode cX5_relaxedLength 39 = .ok (.iload_n 2, 1) := by decide +kernel
theorem dX5_relaxedLength_40 : decode cX5_relaxedLength 40 = .ok (.iload 6, 2) := by decide +kernel
theorem dX5_relaxedLength_42 : decode cX5_relaxedLength 42 = .ok (.invokestatic 56, 3) := by decide +kernel
theorem dX5_relaxedLength_45 : decode cX5_relaxedLength 45 = .ok (.ifCond .eq 61, 3) := by decide +kernel
theorem dX5_relaxedLength_48 : decode cX5_relaxedLength 48 = .ok (.aload_n 1, 1) := by decide +kernel
theorem dX5_relaxedLength_49 : decode cX5_relaxedLength 49 = .ok (.getfield 85, 3) := by decide +kernel
theorem dX5_relaxedLength_52 : decode cX5_relaxedLength 52 = .ok (.iload 6, 2) := by decide +kernel
theorem dX5_relaxedLength_54 : decode cX5_relaxedLength 54 = .ok (.iaload, 1) := by decide +kernel
theorem dX5_relaxedLength_55 : decode cX5_relaxedLength 55 = .ok (.istore 7, 2) := by decide +kernel
theorem dX5_relaxedLength_57 : decode cX5_relaxedLength 57 = .ok (.aload_n 1, 1) := by decide +kernel
theorem dX5_relaxedLength_58 : decode cX5_relaxedLength 58 = .ok (.getfield 88, 3) := by decide +kernel
theorem dX5_relaxedLength_61 : decode cX5_relaxedLength 61 = .ok (.iload 6, 2) := by decide +kernel
theorem dX5_relaxedLength_63 : decode cX5_relaxedLength 63 = .ok (.iaload, 1) := by decide +kernel
theorem dX5_relaxedLength_64 : decode cX5_relaxedLength 64 = .ok (.istore 8, 2) := by decide +kernel
theorem dX5_relaxedLength_66 : decode cX5_relaxedLength 66 = .ok (.aload_n 0, 1) := by decide +kernel
theorem dX5_relaxedLength_67 : decode cX5_relaxedLength 67 = .ok (.iload 8, 2) := by decide +kernel
theorem dX5_relaxedLength_69 : decode cX5_relaxedLength 69 = .ok (.aload_n 0, 1) := by decide +kernel
theorem dX5_relaxedLength_70 : decode cX5_relaxedLength 70 = .ok (.iload 7, 2) := by decide +kernel
theorem dX5_relaxedLength_72 : decode cX5_relaxedLength 72 = .ok (.invokevirtual 35, 3) := by decide +kernel
theorem dX5_relaxedLength_75 : decode cX5_relaxedLength 75 = .ok (.aload_n 1, 1) := by decide +kernel
theorem dX5_relaxedLength_76 : decode cX5_relaxedLength 76 = .ok (.getfield 60, 3) := by decide +kernel
theorem dX5_relaxedLength_79 : decode cX5_relaxedLength 79 = .ok (.iload 6, 2) := by decide +kernel
theorem dX5_relaxedLength_81 : decode cX5_relaxedLength 81 = .ok (.iaload, 1) := by decide +kernel
theorem dX5_relaxedLength_82 : decode cX5_relaxedLength 82 = .ok (.iadd, 1) := by decide +kernel
theorem dX5_relaxedLength_83 : decode cX5_relaxedLength 83 = .ok (.invokevirtual 72, 3) := by decide +kernel
theorem dX5_relaxedLength_86 : decode cX5_relaxedLength 86 = .ok (.aload_n 0, 1) := by decide +kernel
theorem dX5_relaxedLength_87 : decode cX5_relaxedLength 87 = .ok (.iload 7, 2) := by decide +kernel
theorem dX5_relaxedLength_89 : decode cX5_relaxedLength 89 = .ok (.aload_n 0, 1) := by decide +kernel
theorem dX5_relaxedLength_90 : decode cX5_relaxedLength 90 = .ok (.iload 8, 2) := by decide +kernel
theorem dX5_relaxedLength_92 : decode cX5_relaxedLength 92 = .ok (.invokevirtual 35, 3) := by decide +kernel
theorem dX5_relaxedLength_95 : decode cX5_relaxedLength 95 = .ok (.aload_n 1, 1) := by decide +kernel
theorem dX5_relaxedLength_96 : decode cX5_relaxedLength 96 = .ok (.getfield 60, 3) := by decide +kernel
theorem dX5_relaxedLength_99 : decode cX5_relaxedLength 99 = .ok (.iload 6, 2) := by decide +kernel
theorem dX5_relaxedLength_101 : decode cX5_relaxedLength 101 = .ok (.iaload, 1) := by decide +kernel
theorem dX5_relaxedLength_102 : decode cX5_relaxedLength 102 = .ok (.iadd, 1) := by decide +kernel
theorem dX5_relaxedLength_103 : decode cX5_relaxedLength 103 = .ok (.invokevirtual 72, 3) := by decide +kernel
theorem dX5_relaxedLength_106 : decode cX5_relaxedLength 106 = .ok (.iinc 6 1, 3) := by decide +kernel
theorem dX5_relaxedLength_109 : decode cX5_relaxedLength 109 = .ok (.goto (-79), 3) := by decide +kernel
theorem dX5_relaxedLength_112 : decode cX5_relaxedLength 112 = .ok (.iinc 5 1, 3) := by decide +kernel
theorem dX5_relaxedLength_115 : decode cX5_relaxedLength 115 = .ok (.goto (-97), 3) := by decide +kernel
theorem dX5_relaxedLength_118 : decode cX5_relaxedLength 118 = .ok (.aload_n 0, 1) := by decide +kernel
theorem dX5_relaxedLength_119 : decode cX5_relaxedLength 119 = .ok (.iload 4, 2) := by decide +kernel
theorem dX5_relaxedLength_121 : decode cX5_relaxedLength 121 = .ok (.invokevirtual 35, 3) := by decide +kernel
theorem dX5_relaxedLength_124 : decode cX5_relaxedLength 124 = .ok (.ldc 39, 2) := by decide +kernel
theorem dX5_relaxedLength_126 : decode cX5_relaxedLength 126 = .ok (.if_icmp .lt 7, 3) := by decide +kernel
theorem dX5_relaxedLength_129 : decode cX5_relaxedLength 129 = .ok (.iconst (-1), 1) := by decide +kernel
theorem dX5_relaxedLength_130 : decode cX5_relaxedLength 130 = .ok (.goto 9, 3) := by decide +kernel
theorem dX5_relaxedLength_133 : decode cX5_relaxedLength 133 = .ok (.aload_n 0, 1) := by decide +kernel
theorem dX5_relaxedLength_134 : decode cX5_relaxedLength 134 = .ok (.iload 4, 2) := by decide +kernel
theorem dX5_relaxedLength_136 : decode cX5_relaxedLength 136 = .ok (.invokevirtual 35, 3) := by decide +kernel
theorem dX5_relaxedLength_139 : decode cX5_relaxedLength 139 = .ok (.ireturn, 1) := by decide +kernel
theorem dX5_countDisjoint_0 : decode cX5_countDisjoint 0 = .ok (.aload_n 0, 1) := by decide +kernel
theorem dX5_countDisjoint_1 : decode cX5_countDisjoint 1 = .ok (.getfield 18, 3) := by decide +kernel
theorem dX5_countDisjoint_4 : decode cX5_countDisjoint 4 = .ok (.iconst 0, 1) := by decide +kernel
theorem dX5_countDisjoint_5 : decode cX5_countDisjoint 5 = .ok (.invokestatic 66, 3) := by decide +kernel
theorem dX5_countDisjoint_8 : decode cX5_countDisjoint 8 = .ok (.iconst 0, 1) := by decide +kernel
theorem dX5_countDisjoint_9 : decode cX5_countDisjoint 9 = .ok (.istore 5, 2) := by decide +kernel
theorem dX5_countDisjoint_11 : decode cX5_countDisjoint 11 = .ok (.iload 5, 2) := by decide +kernel
theorem dX5_countDisjoint_13 : decode cX5_countDisjoint 13 = .ok (.bipush 16, 2) := by decide +kernel
theorem dX5_countDisjoint_15 : decode cX5_countDisjoint 15 = .ok (.if_icmp .ge 29, 3) := by decide +kernel
theorem dX5_countDisjoint_18 : decode cX5_countDisjoint 18 = .ok (.aload_n 0, 1) := by decide +kernel
theorem dX5_countDisjoint_19 : decode cX5_countDisjoint 19 = .ok (.aload_n 1, 1) := by decide +kernel
theorem dX5_countDisjoint_20 : decode cX5_countDisjoint 20 = .ok (.iload_n 2, 1) := by decide +kernel
theorem dX5_countDisjoint_21 : decode cX5_countDisjoint 21 = .ok (.iload_n 3, 1) := by decide +kernel
theorem dX5_countDisjoint_22 : decode cX5_countDisjoint 22 = .ok (.iload 4, 2) := by decide +kernel
theorem dX5_countDisjoint_24 : decode cX5_countDisjoint 24 = .ok (.invokevirtual 91, 3) := by decide +kernel
theorem dX5_countDisjoint_27 : decode cX5_countDisjoint 27 = .ok (.ifCond .eq 17, 3) := by decide +kernel
theorem dX5_countDisjoint_30 : decode cX5_countDisjoint 30 = .ok (.aload_n 0, 1) := by decide +kernel
theorem dX5_countDisjoint_31 : decode cX5_countDisjoint 31 = .ok (.aload_n 1, 1) := by decide +kernel
theorem dX5_countDisjoint_32 : decode cX5_countDisjoint 32 = .ok (.iload_n 3, 1) := by decide +kernel
theorem dX5_countDisjoint_33 : decode cX5_countDisjoint 33 = .ok (.iload 4, 2) := by decide +kernel
theorem dX5_countDisjoint_35 : decode cX5_countDisjoint 35 = .ok (.invokevirtual 95, 3) := by decide +kernel
theorem dX5_countDisjoint_38 : decode cX5_countDisjoint 38 = .ok (.iinc 5 1, 3) := by decide +kernel
theorem dX5_countDisjoint_41 : decode cX5_countDisjoint 41 = .ok (.goto (-30), 3) := by decide +kernel
theorem dX5_countDisjoint_44 : decode cX5_countDisjoint 44 = .ok (.iload 5, 2) := by decide +kernel
theorem dX5_countDisjoint_46 : decode cX5_countDisjoint 46 = .ok (.ireturn, 1) := by decide +kernel
theorem dX5_search_0 : decode cX5_search 0 = .ok (.iload_n 3, 1) := by decide +kernel
theorem dX5_search_1 : decode cX5_search 1 = .ok (.invokestatic 82, 3) := by decide +kernel
theorem dX5_search_4 : decode cX5_search 4 = .ok (.istore 5, 2) := by decide +kernel
theorem dX5_search_6 : decode cX5_search 6 = .ok (.aload_n 0, 1) := by decide +kernel
theorem dX5_search_7 : decode cX5_search 7 = .ok (.getfield 21, 3) := by decide +kernel
theorem dX5_search_10 : decode cX5_search 10 = .ok (.iconst 0, 1) := by decide +kernel
theorem dX5_search_11 : decode cX5_search 11 = .ok (.iload_n 3, 1) := by decide +kernel
theorem dX5_search_12 : decode cX5_search 12 = .ok (.iastore, 1) := by decide +kernel
theorem dX5_search_13 : decode cX5_search 13 = .ok (.iconst 1, 1) := by decide +kernel
theorem dX5_search_14 : decode cX5_search 14 = .ok (.istore 6, 2) := by decide +kernel
theorem dX5_search_16 : decode cX5_search 16 = .ok (.iconst 0, 1) := by decide +kernel
theorem dX5_search_17 : decode cX5_search 17 = .ok (.istore 7, 2) := by decide +kernel
theorem dX5_search_19 : decode cX5_search 19 = .ok (.iload 7, 2) := by decide +kernel
theorem dX5_search_21 : decode cX5_search 21 = .ok (.bipush 8, 2) := by decide +kernel
theorem dX5_search_23 : decode cX5_search 23 = .ok (.if_icmp .ge 131, 3) := by decide +kernel
theorem dX5_search_26 : decode cX5_search 26 = .ok (.iload 7, 2) := by decide +kernel
theorem dX5_search_28 : decode cX5_search 28 = .ok (.iload 6, 2) := by decide +kernel
theorem dX5_search_30 : decode cX5_search 30 = .ok (.if_icmp .ge 124, 3) := by decide +kernel
theorem dX5_search_33 : decode cX5_search 33 = .ok (.aload_n 0, 1) := by decide +kernel
theorem dX5_search_34 : decode cX5_search 34 = .ok (.getfield 21, 3) := by decide +kernel
theorem dX5_search_37 : decode cX5_search 37 = .ok (.iload 7, 2) := by decide +kernel
theorem dX5_search_39 : decode cX5_search 39 = .ok (.iaload, 1) := by decide +kernel
theorem dX5_search_40 : decode cX5_search 40 = .ok (.istore 8, 2) := by decide +kernel
theorem dX5_search_42 : decode cX5_search 42 = .ok (.iconst 0, 1) := by decide +kernel
theorem dX5_search_43 : decode cX5_search 43 = .ok (.istore 9, 2) := by decide +kernel
theorem dX5_search_45 : decode cX5_search 45 = .ok (.iload 9, 2) := by decide +kernel
theorem dX5_search_47 : decode cX5_search 47 = .ok (.aload_n 1, 1) := by decide +kernel
theorem dX5_search_48 : decode cX5_search 48 = .ok (.getfield 53, 3) := by decide +kernel
theorem dX5_search_51 : decode cX5_search 51 = .ok (.if_icmp .ge 97, 3) := by decide +kernel
theorem dX5_search_54 : decode cX5_search 54 = .ok (.aload_n 1, 1) := by decide +kernel
theorem dX5_search_55 : decode cX5_search 55 = .ok (.iload 9, 2) := by decide +kernel
theorem dX5_search_57 : decode cX5_search 57 = .ok (.iload 8, 2) := by decide +kernel
theorem dX5_search_59 : decode cX5_search 59 = .ok (.invokevirtual 47, 3) := by decide +kernel
theorem dX5_search_62 : decode cX5_search 62 = .ok (.istore 10, 2) := by decide +kernel
theorem dX5_search_64 : decode cX5_search 64 = .ok (.iload_n 2, 1) := by decide +kernel
theorem dX5_search_65 : decode cX5_search 65 = .ok (.iload 9, 2) := by decide +kernel
theorem dX5_search_67 : decode cX5_search 67 = .ok (.invokestatic 56, 3) := by decide +kernel
theorem dX5_search_70 : decode cX5_search 70 = .ok (.ifCond .eq 72, 3) := by decide +kernel
theorem dX5_search_73 : decode cX5_search 73 = .ok (.aload_n 0, 1) := by decide +kernel
theorem dX5_search_74 : decode cX5_search 74 = .ok (.aload_n 1, 1) := by decide +kernel
theorem dX5_search_75 : decode cX5_search 75 = .ok (.iload 9, 2) := by decide +kernel
theorem dX5_search_77 : decode cX5_search 77 = .ok (.iload 8, 2) := by decide +kernel
theorem dX5_search_79 : decode cX5_search 79 = .ok (.invokevirtual 98, 3) := by decide +kernel
theorem dX5_search_82 : decode cX5_search 82 = .ok (.ifCond .eq 60, 3) := by decide +kernel
theorem dX5_search_85 : decode cX5_search 85 = .ok (.aload_n 1, 1) := by decide +kernel
theorem dX5_search_86 : decode cX5_search 86 = .ok (.iload 10, 2) := by decide +kernel
theorem dX5_search_88 : decode cX5_search 88 = .ok (.invokevirtual 102, 3) := by decide +kernel
theorem dX5_search_91 : decode cX5_search 91 = .ok (.ifCond .eq 51, 3) := by decide +kernel
theorem dX5_search_94 : decode cX5_search 94 = .ok (.iload 5, 2) := by decide +kernel
theorem dX5_search_96 : decode cX5_search 96 = .ok (.iload 10, 2) := by decide +kernel
theorem dX5_search_98 : decode cX5_search 98 = .ok (.invokestatic 56, 3) := by decide +kernel
theorem dX5_search_101 : decode cX5_search 101 = .ok (.ifCond .ne 41, 3) := by decide +kernel
theorem dX5_search_104 : decode cX5_search 104 = .ok (.iload 6, 2) := by decide +kernel
theorem dX5_search_106 : decode cX5_search 106 = .ok (.bipush 8, 2) := by decide +kernel
theorem dX5_search_108 : decode cX5_search 108 = .ok (.if_icmp .ge 34, 3) := by decide +kernel
theorem dX5_search_111 : decode cX5_search 111 = .ok (.iload 5, 2) := by decide +kernel
theorem dX5_search_113 : decode cX5_search 113 = .ok (.iload 10, 2) := by decide +kernel
theorem dX5_search_115 : decode cX5_search 115 = .ok (.invokestatic 82, 3) := by decide +kernel
theorem dX5_search_118 : decode cX5_search 118 = .ok (.ior, 1) := by decide +kernel
theorem dX5_search_119 : decode cX5_search 119 = .ok (.istore 5, 2) := by decide +kernel
theorem dX5_search_121 : decode cX5_search 121 = .ok (.aload_n 0, 1) := by decide +kernel
theorem dX5_search_122 : decode cX5_search 122 = .ok (.getfield 24, 3) := by decide +kernel
theorem dX5_search_125 : decode cX5_search 125 = .ok (.iload 10, 2) := by decide +kernel
theorem dX5_search_127 : decode cX5_search 127 = .ok (.iload 9, 2) := by decide +kernel
theorem dX5_search_129 : decode cX5_search 129 = .ok (.iastore, 1) := by decide +kernel
theorem dX5_search_130 : decode cX5_search 130 = .ok (.aload_n 0, 1) := by decide +kernel
theorem dX5_search_131 : decode cX5_search 131 = .ok (.getfield 21, 3) := by decide +kernel
theorem dX5_search_134 : decode cX5_search 134 = .ok (.iload 6, 2) := by decide +kernel
theorem dX5_search_136 : decode cX5_search 136 = .ok (.iload 10, 2) := by decide +kernel
theorem dX5_search_138 : decode cX5_search 138 = .ok (.iastore, 1) := by decide +kernel
theorem dX5_search_139 : decode cX5_search 139 = .ok (.iinc 6 1, 3) := by decide +kernel
theorem dX5_search_142 : decode cX5_search 142 = .ok (.iinc 9 1, 3) := by decide +kernel
theorem dX5_search_145 : decode cX5_search 145 = .ok (.goto (-100), 3) := by decide +kernel
theorem dX5_search_148 : decode cX5_search 148 = .ok (.iinc 7 1, 3) := by decide +kernel
theorem dX5_search_151 : decode cX5_search 151 = .ok (.goto (-132), 3) := by decide +kernel
theorem dX5_search_154 : decode cX5_search 154 = .ok (.iload 5, 2) := by decide +kernel
theorem dX5_search_156 : decode cX5_search 156 = .ok (.iload 4, 2) := by decide +kernel
theorem dX5_search_158 : decode cX5_search 158 = .ok (.invokestatic 56, 3) := by decide +kernel
theorem dX5_search_161 : decode cX5_search 161 = .ok (.ireturn, 1) := by decide +kernel
theorem dX5_hasRoom_0 : decode cX5_hasRoom 0 = .ok (.aload_n 1, 1) := by decide +kernel
theorem dX5_hasRoom_1 : decode cX5_hasRoom 1 = .ok (.getfield 85, 3) := by decide +kernel
theorem dX5_hasRoom_4 : decode cX5_hasRoom 4 = .ok (.iload_n 2, 1) := by decide +kernel
theorem dX5_hasRoom_5 : decode cX5_hasRoom 5 = .ok (.iaload, 1) := by decide +kernel
theorem dX5_hasRoom_6 : decode cX5_hasRoom 6 = .ok (.iload_n 3, 1) := by decide +kernel
theorem dX5_hasRoom_7 : decode cX5_hasRoom 7 = .ok (.if_icmp .ne 21, 3) := by decide +kernel
theorem dX5_hasRoom_10 : decode cX5_hasRoom 10 = .ok (.aload_n 0, 1) := by decide +kernel
theorem dX5_hasRoom_11 : decode cX5_hasRoom 11 = .ok (.getfield 18, 3) := by decide +kernel
theorem dX5_hasRoom_14 : decode cX5_hasRoom 14 = .ok (.iload_n 2, 1) := by decide +kernel
theorem dX5_hasRoom_15 : decode cX5_hasRoom 15 = .ok (.iaload, 1) := by decide +kernel
theorem dX5_hasRoom_16 : decode cX5_hasRoom 16 = .ok (.iconst 1, 1) := by decide +kernel
theorem dX5_hasRoom_17 : decode cX5_hasRoom 17 = .ok (.if_icmp .ge 7, 3) := by decide +kernel
theorem dX5_hasRoom_20 : decode cX5_hasRoom 20 = .ok (.iconst 1, 1) := by decide +kernel
theorem dX5_hasRoom_21 : decode cX5_hasRoom 21 = .ok (.goto 22, 3) := by decide +kernel
theorem dX5_hasRoom_24 : decode cX5_hasRoom 24 = .ok (.iconst 0, 1) := by decide +kernel
theorem dX5_hasRoom_25 : decode cX5_hasRoom 25 = .ok (.goto 18, 3) := by decide +kernel
theorem dX5_hasRoom_28 : decode cX5_hasRoom 28 = .ok (.aload_n 0, 1) := by decide +kernel
theorem dX5_hasRoom_29 : decode cX5_hasRoom 29 = .ok (.getfield 18, 3) := by decide +kernel
theorem dX5_hasRoom_32 : decode cX5_hasRoom 32 = .ok (.iload_n 2, 1) := by decide +kernel
theorem dX5_hasRoom_33 : decode cX5_hasRoom 33 = .ok (.iaload, 1) := by decide +kernel
theorem dX5_hasRoom_34 : decode cX5_hasRoom 34 = .ok (.iconst (-1), 1) := by decide +kernel
theorem dX5_hasRoom_35 : decode cX5_hasRoom 35 = .ok (.if_icmp .le 7, 3) := by decide +kernel
theorem dX5_hasRoom_38 : decode cX5_hasRoom 38 = .ok (.iconst 1, 1) := by decide +kernel
theorem dX5_hasRoom_39 : decode cX5_hasRoom 39 = .ok (.goto 4, 3) := by decide +kernel
theorem dX5_hasRoom_42 : decode cX5_hasRoom 42 = .ok (.iconst 0, 1) := by decide +kernel
theorem dX5_hasRoom_43 : decode cX5_hasRoom 43 = .ok (.ireturn, 1) := by decide +kernel
theorem dX5_augment_0 : decode cX5_augment 0 = .ok (.iload_n 3, 1) := by decide +kernel
theorem dX5_augment_1 : decode cX5_augment 1 = .ok (.istore 4, 2) := by decide +kernel
theorem dX5_augment_3 : decode cX5_augment 3 = .ok (.iconst 0, 1) := by decide +kernel
theorem dX5_augment_4 : decode cX5_augment 4 = .ok (.istore 5, 2) := by decide +kernel
theorem dX5_augment_6 : decode cX5_augment 6 = .ok (.iload 5, 2) := by decide +kernel
theorem dX5_augment_8 : decode cX5_augment 8 = .ok (.bipush 7, 2) := by decide +kernel
theorem dX5_augment_10 : decode cX5_augment 10 = .ok (.if_icmp .ge 83, 3) := by decide +kernel
theorem dX5_augment_13 : decode cX5_augment 13 = .ok (.iload 4, 2) := by decide +kernel
theorem dX5_augment_15 : decode cX5_augment 15 = .ok (.iload_n 2, 1) := by decide +kernel
theorem dX5_augment_16 : decode cX5_augment 16 = .ok (.if_icmp .eq 77, 3) := by decide +kernel
theorem dX5_augment_19 : decode cX5_augment 19 = .ok (.aload_n 1, 1) := by decide +kernel
theorem dX5_augment_20 : decode cX5_augment 20 = .ok (.iload 4, 2) := by decide +kernel
theorem dX5_augment_22 : decode cX5_augment 22 = .ok (.invokevirtual 102, 3) := by decide +kernel
theorem dX5_augment_25 : decode cX5_augment 25 = .ok (.ifCond .eq 68, 3) := by decide +kernel
theorem dX5_augment_28 : decode cX5_augment 28 = .ok (.aload_n 0, 1) := by decide +kernel
theorem dX5_augment_29 : decode cX5_augment 29 = .ok (.getfield 24, 3) := by decide +kernel
theorem dX5_augment_32 : decode cX5_augment 32 = .ok (.iload 4, 2) := by decide +kernel
theorem dX5_augment_34 : decode cX5_augment 34 = .ok (.iaload, 1) := by decide +kernel
theorem dX5_augment_35 : decode cX5_augment 35 = .ok (.istore 6, 2) := by decide +kernel
theorem dX5_augment_37 : decode cX5_augment 37 = .ok (.aload_n 1, 1) := by decide +kernel
theorem dX5_augment_38 : decode cX5_augment 38 = .ok (.iload 6, 2) := by decide +kernel
theorem dX5_augment_40 : decode cX5_augment 40 = .ok (.iload 4, 2) := by decide +kernel
theorem dX5_augment_42 : decode cX5_augment 42 = .ok (.invokevirtual 47, 3) := by decide +kernel
theorem dX5_augment_45 : decode cX5_augment 45 = .ok (.istore 7, 2) := by decide +kernel
theorem dX5_augment_47 : decode cX5_augment 47 = .ok (.aload_n 1, 1) := by decide +kernel
theorem dX5_augment_48 : decode cX5_augment 48 = .ok (.iload 6, 2) := by decide +kernel
theorem dX5_augment_50 : decode cX5_augment 50 = .ok (.invokevirtual 106, 3) := by decide +kernel
theorem dX5_augment_53 : decode cX5_augment 53 = .ok (.ifCond .eq 30, 3) := by decide +kernel
theorem dX5_augment_56 : decode cX5_augment 56 = .ok (.aload_n 0, 1) := by decide +kernel
theorem dX5_augment_57 : decode cX5_augment 57 = .ok (.getfield 18, 3) := by decide +kernel
theorem dX5_augment_60 : decode cX5_augment 60 = .ok (.iload 6, 2) := by decide +kernel
theorem dX5_augment_62 : decode cX5_augment 62 = .ok (.dup2, 1) := by decide +kernel
theorem dX5_augment_63 : decode cX5_augment 63 = .ok (.iaload, 1) := by decide +kernel
theorem dX5_augment_64 : decode cX5_augment 64 = .ok (.aload_n 1, 1) := by decide +kernel
theorem dX5_augment_65 : decode cX5_augment 65 = .ok (.getfield 85, 3) := by decide +kernel
theorem dX5_augment_68 : decode cX5_augment 68 = .ok (.iload 6, 2) := by decide +kernel
theorem dX5_augment_70 : decode cX5_augment 70 = .ok (.iaload, 1) := by decide +kernel
theorem dX5_augment_71 : decode cX5_augment 71 = .ok (.iload 7, 2) := by decide +kernel
theorem dX5_augment_73 : decode cX5_augment 73 = .ok (.if_icmp .ne 7, 3) := by decide +kernel
theorem dX5_augment_76 : decode cX5_augment 76 = .ok (.iconst 1, 1) := by decide +kernel
theorem dX5_augment_77 : decode cX5_augment 77 = .ok (.goto 4, 3) := by decide +kernel
theorem dX5_augment_80 : decode cX5_augment 80 = .ok (.iconst (-1), 1) := by decide +kernel
theorem dX5_augment_81 : decode cX5_augment 81 = .ok (.iadd, 1) := by decide +kernel
theorem dX5_augment_82 : decode cX5_augment 82 = .ok (.iastore, 1) := by decide +kernel
theorem dX5_augment_83 : decode cX5_augment 83 = .ok (.iload 7, 2) := by decide +kernel
theorem dX5_augment_85 : decode cX5_augment 85 = .ok (.istore 4, 2) := by decide +kernel
theorem dX5_augment_87 : decode cX5_augment 87 = .ok (.iinc 5 1, 3) := by decide +kernel
theorem dX5_augment_90 : decode cX5_augment 90 = .ok (.goto (-84), 3) := by decide +kernel
theorem dX5_augment_93 : decode cX5_augment 93 = .ok (.return_, 1) := by decide +kernel
theorem dX5_smallestCut_0 : decode cX5_smallestCut 0 = .ok (.bipush 16, 2) := by decide +kernel
theorem dX5_smallestCut_2 : decode cX5_smallestCut 2 = .ok (.istore 5, 2) := by decide +kernel
theorem dX5_smallestCut_4 : decode cX5_smallestCut 4 = .ok (.iconst 0, 1) := by decide +kernel
theorem dX5_smallestCut_5 : decode cX5_smallestCut 5 = .ok (.istore 6, 2) := by decide +kernel
theorem dX5_smallestCut_7 : decode cX5_smallestCut 7 = .ok (.iload 6, 2) := by decide +kernel
theorem dX5_smallestCut_9 : decode cX5_smallestCut 9 = .ok (.aload_n 1, 1) := by decide +kernel
theorem dX5_smallestCut_10 : decode cX5_smallestCut 10 = .ok (.getfield 76, 3) := by decide +kernel
theorem dX5_smallestCut_13 : decode cX5_smallestCut 13 = .ok (.invokestatic 82, 3) := by decide +kernel
theorem dX5_smallestCut_16 : decode cX5_smallestCut 16 = .ok (.if_icmp .ge 43, 3) := by decide +kernel
theorem dX5_smallestCut_19 : decode cX5_smallestCut 19 = .ok (.iload 6, 2) := by decide +kernel
theorem dX5_smallestCut_21 : decode cX5_smallestCut 21 = .ok (.iload_n 3, 1) := by decide +kernel
theorem dX5_smallestCut_22 : decode cX5_smallestCut 22 = .ok (.invokestatic 56, 3) := by decide +kernel
theorem dX5_smallestCut_25 : decode cX5_smallestCut 25 = .ok (.ifCond .eq 28, 3) := by decide +kernel
theorem dX5_smallestCut_28 : decode cX5_smallestCut 28 = .ok (.iload 6, 2) := by decide +kernel
theorem dX5_smallestCut_30 : decode cX5_smallestCut 30 = .ok (.iload 4, 2) := by decide +kernel
theorem dX5_smallestCut_32 : decode cX5_smallestCut 32 = .ok (.invokestatic 56, 3) := by decide +kernel
theorem dX5_smallestCut_35 : decode cX5_smallestCut 35 = .ok (.ifCond .ne 18, 3) := by decide +kernel
theorem dX5_smallestCut_38 : decode cX5_smallestCut 38 = .ok (.iload 5, 2) := by decide +kernel
theorem dX5_smallestCut_40 : decode cX5_smallestCut 40 = .ok (.aload_n 0, 1) := by decide +kernel
theorem dX5_smallestCut_41 : decode cX5_smallestCut 41 = .ok (.aload_n 1, 1) := by decide +kernel
theorem dX5_smallestCut_42 : decode cX5_smallestCut 42 = .ok (.iload_n 2, 1) := by decide +kernel
theorem dX5_smallestCut_43 : decode cX5_smallestCut 43 = .ok (.iload 6, 2) := by decide +kernel
theorem dX5_smallestCut_45 : decode cX5_smallestCut 45 = .ok (.invokevirtual 109, 3) := by decide +kernel
theorem dX5_smallestCut_48 : decode cX5_smallestCut 48 = .ok (.invokestatic 112, 3) := by decide +kernel
theorem dX5_smallestCut_51 : decode cX5_smallestCut 51 = .ok (.istore 5, 2) := by decide +kernel
theorem dX5_smallestCut_53 : decode cX5_smallestCut 53 = .ok (.iinc 6 1, 3) := by decide +kernel
theorem dX5_smallestCut_56 : decode cX5_smallestCut 56 = .ok (.goto (-49), 3) := by decide +kernel
theorem dX5_smallestCut_59 : decode cX5_smallestCut 59 = .ok (.iload 5, 2) := by decide +kernel
theorem dX5_smallestCut_61 : decode cX5_smallestCut 61 = .ok (.ireturn, 1) := by decide +kernel
theorem dX5_countLeaving_0 : decode cX5_countLeaving 0 = .ok (.iconst 0, 1) := by decide +kernel
theorem dX5_countLeaving_1 : decode cX5_countLeaving 1 = .ok (.istore 4, 2) := by decide +kernel
theorem dX5_countLeaving_3 : decode cX5_countLeaving 3 = .ok (.iconst 0, 1) := by decide +kernel
theorem dX5_countLeaving_4 : decode cX5_countLeaving 4 = .ok (.istore 5, 2) := by decide +kernel
theorem dX5_countLeaving_6 : decode cX5_countLeaving 6 = .ok (.iload 5, 2) := by decide +kernel
theorem dX5_countLeaving_8 : decode cX5_countLeaving 8 = .ok (.aload_n 1, 1) := by decide +kernel
theorem dX5_countLeaving_9 : decode cX5_countLeaving 9 = .ok (.getfield 53, 3) := by decide +kernel
theorem dX5_countLeaving_12 : decode cX5_countLeaving 12 = .ok (.if_icmp .ge 58, 3) := by decide +kernel
theorem dX5_countLeaving_15 : decode cX5_countLeaving 15 = .ok (.iload_n 3, 1) := by decide +kernel
theorem dX5_countLeaving_16 : decode cX5_countLeaving 16 = .ok (.aload_n 1, 1) := by decide +kernel
theorem dX5_countLeaving_17 : decode cX5_countLeaving 17 = .ok (.getfield 85, 3) := by decide +kernel
theorem dX5_countLeaving_20 : decode cX5_countLeaving 20 = .ok (.iload 5, 2) := by decide +kernel
theorem dX5_countLeaving_22 : decode cX5_countLeaving 22 = .ok (.iaload, 1) := by decide +kernel
theorem dX5_countLeaving_23 : decode cX5_countLeaving 23 = .ok (.invokestatic 56, 3) := by decide +kernel
theorem dX5_countLeaving_26 : decode cX5_countLeaving 26 = .ok (.iload_n 3, 1) := by decide +kernel
theorem dX5_countLeaving_27 : decode cX5_countLeaving 27 = .ok (.aload_n 1, 1) := by decide +kernel
theorem dX5_countLeaving_28 : decode cX5_countLeaving 28 = .ok (.getfield 88, 3) := by decide +kernel
theorem dX5_countLeaving_31 : decode cX5_countLeaving 31 = .ok (.iload 5, 2) := by decide +kernel
theorem dX5_countLeaving_33 : decode cX5_countLeaving 33 = .ok (.iaload, 1) := by decide +kernel
theorem dX5_countLeaving_34 : decode cX5_countLeaving 34 = .ok (.invokestatic 56, 3) := by decide +kernel
theorem dX5_countLeaving_37 : decode cX5_countLeaving 37 = .ok (.if_icmp .eq 7, 3) := by decide +kernel
theorem dX5_countLeaving_40 : decode cX5_countLeaving 40 = .ok (.iconst 1, 1) := by decide +kernel
theorem dX5_countLeaving_41 : decode cX5_countLeaving 41 = .ok (.goto 4, 3) := by decide +kernel
theorem dX5_countLeaving_44 : decode cX5_countLeaving 44 = .ok (.iconst 0, 1) := by decide +kernel
theorem dX5_countLeaving_45 : decode cX5_countLeaving 45 = .ok (.istore 6, 2) := by decide +kernel
theorem dX5_countLeaving_47 : decode cX5_countLeaving 47 = .ok (.iload 6, 2) := by decide +kernel
theorem dX5_countLeaving_49 : decode cX5_countLeaving 49 = .ok (.ifCond .eq 15, 3) := by decide +kernel
theorem dX5_countLeaving_52 : decode cX5_countLeaving 52 = .ok (.iload_n 2, 1) := by decide +kernel
theorem dX5_countLeaving_53 : decode cX5_countLeaving 53 = .ok (.iload 5, 2) := by decide +kernel
theorem dX5_countLeaving_55 : decode cX5_countLeaving 55 = .ok (.invokestatic 56, 3) := by decide +kernel
theorem dX5_countLeaving_58 : decode cX5_countLeaving 58 = .ok (.ifCond .eq 6, 3) := by decide +kernel
theorem dX5_countLeaving_61 : decode cX5_countLeaving 61 = .ok (.iinc 4 1, 3) := by decide +kernel
theorem dX5_countLeaving_64 : decode cX5_countLeaving 64 = .ok (.iinc 5 1, 3) := by decide +kernel
theorem dX5_countLeaving_67 : decode cX5_countLeaving 67 = .ok (.goto (-61), 3) := by decide +kernel
theorem dX5_countLeaving_70 : decode cX5_countLeaving 70 = .ok (.iload 4, 2) := by decide +kernel
theorem dX5_countLeaving_72 : decode cX5_countLeaving 72 = .ok (.ireturn, 1) := by decide +kernel
theorem dX5_agreesWithItself_0 : decode cX5_agreesWithItself 0 = .ok (.iconst 0, 1) := by decide +kernel
theorem dX5_agreesWithItself_1 : decode cX5_agreesWithItself 1 = .ok (.istore_n 3, 1) := by decide +kernel
theorem dX5_agreesWithItself_2 : decode cX5_agreesWithItself 2 = .ok (.iload_n 3, 1) := by decide +kernel
theorem dX5_agreesWithItself_3 : decode cX5_agreesWithItself 3 = .ok (.aload_n 1, 1) := by decide +kernel
theorem dX5_agreesWithItself_4 : decode cX5_agreesWithItself 4 = .ok (.getfield 76, 3) := by decide +kernel
theorem dX5_agreesWithItself_7 : decode cX5_agreesWithItself 7 = .ok (.if_icmp .ge 73, 3) := by decide +kernel
theorem dX5_agreesWithItself_10 : decode cX5_agreesWithItself 10 = .ok (.iload_n 3, 1) := by decide +kernel
theorem dX5_agreesWithItself_11 : decode cX5_agreesWithItself 11 = .ok (.iconst 1, 1) := by decide +kernel
theorem dX5_agreesWithItself_12 : decode cX5_agreesWithItself 12 = .ok (.iadd, 1) := by decide +kernel
theorem dX5_agreesWithItself_13 : decode cX5_agreesWithItself 13 = .ok (.istore 4, 2) := by decide +kernel
theorem dX5_agreesWithItself_15 : decode cX5_agreesWithItself 15 = .ok (.iload 4, 2) := by decide +kernel
theorem dX5_agreesWithItself_17 : decode cX5_agreesWithItself 17 = .ok (.aload_n 1, 1) := by decide +kernel
theorem dX5_agreesWithItself_18 : decode cX5_agreesWithItself 18 = .ok (.getfield 76, 3) := by decide +kernel
theorem dX5_agreesWithItself_21 : decode cX5_agreesWithItself 21 = .ok (.if_icmp .ge 53, 3) := by decide +kernel
theorem dX5_agreesWithItself_24 : decode cX5_agreesWithItself 24 = .ok (.aload_n 0, 1) := by decide +kernel
theorem dX5_agreesWithItself_25 : decode cX5_agreesWithItself 25 = .ok (.aload_n 1, 1) := by decide +kernel
theorem dX5_agreesWithItself_26 : decode cX5_agreesWithItself 26 = .ok (.iload_n 2, 1) := by decide +kernel
theorem dX5_agreesWithItself_27 : decode cX5_agreesWithItself 27 = .ok (.iload_n 3, 1) := by decide +kernel
theorem dX5_agreesWithItself_28 : decode cX5_agreesWithItself 28 = .ok (.iload 4, 2) := by decide +kernel
theorem dX5_agreesWithItself_30 : decode cX5_agreesWithItself 30 = .ok (.invokevirtual 117, 3) := by decide +kernel
theorem dX5_agreesWithItself_33 : decode cX5_agreesWithItself 33 = .ok (.aload_n 0, 1) := by decide +kernel
theorem dX5_agreesWithItself_34 : decode cX5_agreesWithItself 34 = .ok (.aload_n 1, 1) := by decide +kernel
theorem dX5_agreesWithItself_35 : decode cX5_agreesWithItself 35 = .ok (.iload_n 2, 1) := by decide +kernel
theorem dX5_agreesWithItself_36 : decode cX5_agreesWithItself 36 = .ok (.iload_n 3, 1) := by decide +kernel
theorem dX5_agreesWithItself_37 : decode cX5_agreesWithItself 37 = .ok (.iload 4, 2) := by decide +kernel
theorem dX5_agreesWithItself_39 : decode cX5_agreesWithItself 39 = .ok (.invokevirtual 121, 3) := by decide +kernel
theorem dX5_agreesWithItself_42 : decode cX5_agreesWithItself 42 = .ok (.if_icmp .ne 24, 3) := by decide +kernel
theorem dX5_agreesWithItself_45 : decode cX5_agreesWithItself 45 = .ok (.aload_n 0, 1) := by decide +kernel
theorem dX5_agreesWithItself_46 : decode cX5_agreesWithItself 46 = .ok (.aload_n 1, 1) := by decide +kernel
theorem dX5_agreesWithItself_47 : decode cX5_agreesWithItself 47 = .ok (.iload_n 2, 1) := by decide +kernel
theorem dX5_agreesWithItself_48 : decode cX5_agreesWithItself 48 = .ok (.iload_n 3, 1) := by decide +kernel
theorem dX5_agreesWithItself_49 : decode cX5_agreesWithItself 49 = .ok (.iload 4, 2) := by decide +kernel
theorem dX5_agreesWithItself_51 : decode cX5_agreesWithItself 51 = .ok (.invokevirtual 124, 3) := by decide +kernel
theorem dX5_agreesWithItself_54 : decode cX5_agreesWithItself 54 = .ok (.aload_n 0, 1) := by decide +kernel
theorem dX5_agreesWithItself_55 : decode cX5_agreesWithItself 55 = .ok (.aload_n 1, 1) := by decide +kernel
theorem dX5_agreesWithItself_56 : decode cX5_agreesWithItself 56 = .ok (.iload_n 2, 1) := by decide +kernel
theorem dX5_agreesWithItself_57 : decode cX5_agreesWithItself 57 = .ok (.iload_n 3, 1) := by decide +kernel
theorem dX5_agreesWithItself_58 : decode cX5_agreesWithItself 58 = .ok (.iload 4, 2) := by decide +kernel
theorem dX5_agreesWithItself_60 : decode cX5_agreesWithItself 60 = .ok (.invokevirtual 127, 3) := by decide +kernel
theorem dX5_agreesWithItself_63 : decode cX5_agreesWithItself 63 = .ok (.if_icmp .eq 5, 3) := by decide +kernel
theorem dX5_agreesWithItself_66 : decode cX5_agreesWithItself 66 = .ok (.iconst 0, 1) := by decide +kernel
theorem dX5_agreesWithItself_67 : decode cX5_agreesWithItself 67 = .ok (.ireturn, 1) := by decide +kernel
theorem dX5_agreesWithItself_68 : decode cX5_agreesWithItself 68 = .ok (.iinc 4 1, 3) := by decide +kernel
theorem dX5_agreesWithItself_71 : decode cX5_agreesWithItself 71 = .ok (.goto (-56), 3) := by decide +kernel
theorem dX5_agreesWithItself_74 : decode cX5_agreesWithItself 74 = .ok (.iinc 3 1, 3) := by decide +kernel
theorem dX5_agreesWithItself_77 : decode cX5_agreesWithItself 77 = .ok (.goto (-75), 3) := by decide +kernel
theorem dX5_agreesWithItself_80 : decode cX5_agreesWithItself 80 = .ok (.iconst 1, 1) := by decide +kernel
theorem dX5_agreesWithItself_81 : decode cX5_agreesWithItself 81 = .ok (.ireturn, 1) := by decide +kernel
