theorem dL_addSwitch_0 : decode cL_addSwitch 0 = .ok (.aload_n 1, 1) := by decide +kernel
theorem dL_addSwitch_1 : decode cL_addSwitch 1 = .ok (.iconst 0, 1) := by decide +kernel
theorem dL_addSwitch_2 : decode cL_addSwitch 2 = .ok (.aload_n 0, 1) := by decide +kernel
theorem dL_addSwitch_3 : decode cL_addSwitch 3 = .ok (.invokevirtual 7, 3) := by decide +kernel
theorem dL_addSwitch_6 : decode cL_addSwitch 6 = .ok (.i2l, 1) := by decide +kernel
theorem dL_addSwitch_7 : decode cL_addSwitch 7 = .ok (.lastore, 1) := by decide +kernel
theorem dL_addSwitch_8 : decode cL_addSwitch 8 = .ok (.goto 6, 3) := by decide +kernel
theorem dL_addSwitch_11 : decode cL_addSwitch 11 = .ok (.astore_n 2, 1) := by decide +kernel
theorem dL_addSwitch_12 : decode cL_addSwitch 12 = .ok (.iconst 1, 1) := by decide +kernel
theorem dL_addSwitch_13 : decode cL_addSwitch 13 = .ok (.ireturn, 1) := by decide +kernel
theorem dL_addSwitch_14 : decode cL_addSwitch 14 = .ok (.iconst 0, 1) := by decide +kernel
theorem dL_addSwitch_15 : decode cL_addSwitch 15 = .ok (.ireturn, 1) := by decide +kernel
theorem dL_addTrunk_0 : decode cL_addTrunk 0 = .ok (.aload 4, 2) := by decide +kernel
theorem dL_addTrunk_2 : decode cL_addTrunk 2 = .ok (.iconst 0, 1) := by decide +kernel
theorem dL_addTrunk_3 : decode cL_addTrunk 3 = .ok (.aload_n 0, 1) := by decide +kernel
theorem dL_addTrunk_4 : decode cL_addTrunk 4 = .ok (.iload_n 1, 1) := by decide +kernel
theorem dL_addTrunk_5 : decode cL_addTrunk 5 = .ok (.iload_n 2, 1) := by decide +kernel
theorem dL_addTrunk_6 : decode cL_addTrunk 6 = .ok (.iload_n 3, 1) := by decide +kernel
theorem dL_addTrunk_7 : decode cL_addTrunk 7 = .ok (.invokevirtual 15, 3) := by decide +kernel
theorem dL_addTrunk_10 : decode cL_addTrunk 10 = .ok (.i2l, 1) := by decide +kernel
theorem dL_addTrunk_11 : decode cL_addTrunk 11 = .ok (.lastore, 1) := by decide +kernel
theorem dL_addTrunk_12 : decode cL_addTrunk 12 = .ok (.goto 15, 3) := by decide +kernel
theorem dL_addTrunk_15 : decode cL_addTrunk 15 = .ok (.astore 5, 2) := by decide +kernel
theorem dL_addTrunk_17 : decode cL_addTrunk 17 = .ok (.iconst 1, 1) := by decide +kernel
theorem dL_addTrunk_18 : decode cL_addTrunk 18 = .ok (.ireturn, 1) := by decide +kernel
theorem dL_addTrunk_19 : decode cL_addTrunk 19 = .ok (.astore 5, 2) := by decide +kernel
theorem dL_addTrunk_21 : decode cL_addTrunk 21 = .ok (.iconst 2, 1) := by decide +kernel
theorem dL_addTrunk_22 : decode cL_addTrunk 22 = .ok (.ireturn, 1) := by decide +kernel
theorem dL_addTrunk_23 : decode cL_addTrunk 23 = .ok (.astore 5, 2) := by decide +kernel
theorem dL_addTrunk_25 : decode cL_addTrunk 25 = .ok (.iconst 3, 1) := by decide +kernel
theorem dL_addTrunk_26 : decode cL_addTrunk 26 = .ok (.ireturn, 1) := by decide +kernel
theorem dL_addTrunk_27 : decode cL_addTrunk 27 = .ok (.iconst 0, 1) := by decide +kernel
theorem dL_addTrunk_28 : decode cL_addTrunk 28 = .ok (.ireturn, 1) := by decide +kernel
theorem dL_addSubscriber_0 : decode cL_addSubscriber 0 = .ok (.aload_n 3, 1) := by decide +kernel
theorem dL_addSubscriber_1 : decode cL_addSubscriber 1 = .ok (.iconst 0, 1) := by decide +kernel
theorem dL_addSubscriber_2 : decode cL_addSubscriber 2 = .ok (.aload_n 0, 1) := by decide +kernel
theorem dL_addSubscriber_3 : decode cL_addSubscriber 3 = .ok (.iload_n 1, 1) := by decide +kernel
theorem dL_addSubscriber_4 : decode cL_addSubscriber 4 = .ok (.iload_n 2, 1) := by decide +kernel
theorem dL_addSubscriber_5 : decode cL_addSubscriber 5 = .ok (.invokevirtual 23, 3) := by decide +kernel
theorem dL_addSubscriber_8 : decode cL_addSubscriber 8 = .ok (.i2l, 1) := by decide +kernel
theorem dL_addSubscriber_9 : decode cL_addSubscriber 9 = .ok (.lastore, 1) := by decide +kernel
theorem dL_addSubscriber_10 : decode cL_addSubscriber 10 = .ok (.goto 15, 3) := by decide +kernel
theorem dL_addSubscriber_13 : decode cL_addSubscriber 13 = .ok (.astore 4, 2) := by decide +kernel
theorem dL_addSubscriber_15 : decode cL_addSubscriber 15 = .ok (.iconst 1, 1) := by decide +kernel
theorem dL_addSubscriber_16 : decode cL_addSubscriber 16 = .ok (.ireturn, 1) := by decide +kernel
theorem dL_addSubscriber_17 : decode cL_addSubscriber 17 = .ok (.astore 4, 2) := by decide +kernel
theorem dL_addSubscriber_19 : decode cL_addSubscriber 19 = .ok (.iconst 2, 1) := by decide +kernel
theorem dL_addSubscriber_20 : decode cL_addSubscriber 20 = .ok (.ireturn, 1) := by decide +kernel
theorem dL_addSubscriber_21 : decode cL_addSubscriber 21 = .ok (.astore 4, 2) := by decide +kernel
theorem dL_addSubscriber_23 : decode cL_addSubscriber 23 = .ok (.iconst 3, 1) := by decide +kernel
theorem dL_addSubscriber_24 : decode cL_addSubscriber 24 = .ok (.ireturn, 1) := by decide +kernel
theorem dL_addSubscriber_25 : decode cL_addSubscriber 25 = .ok (.iconst 0, 1) := by decide +kernel
theorem dL_addSubscriber_26 : decode cL_addSubscriber 26 = .ok (.ireturn, 1) := by decide +kernel
theorem dL_cut_0 : decode cL_cut 0 = .ok (.aload_n 2, 1) := by decide +kernel
theorem dL_cut_1 : decode cL_cut 1 = .ok (.iconst 0, 1) := by decide +kernel
theorem dL_cut_2 : decode cL_cut 2 = .ok (.aload_n 0, 1) := by decide +kernel
theorem dL_cut_3 : decode cL_cut 3 = .ok (.iload_n 1, 1) := by decide +kernel
theorem dL_cut_4 : decode cL_cut 4 = .ok (.invokevirtual 27, 3) := by decide +kernel
theorem dL_cut_7 : decode cL_cut 7 = .ok (.ifCond .eq 7, 3) := by decide +kernel
theorem dL_cut_10 : decode cL_cut 10 = .ok (.lconst 1, 1) := by decide +kernel
theorem dL_cut_11 : decode cL_cut 11 = .ok (.goto 4, 3) := by decide +kernel
theorem dL_cut_14 : decode cL_cut 14 = .ok (.lconst 0, 1) := by decide +kernel
theorem dL_cut_15 : decode cL_cut 15 = .ok (.lastore, 1) := by decide +kernel
theorem dL_cut_16 : decode cL_cut 16 = .ok (.goto 9, 3) := by decide +kernel
theorem dL_cut_19 : decode cL_cut 19 = .ok (.astore_n 3, 1) := by decide +kernel
theorem dL_cut_20 : decode cL_cut 20 = .ok (.iconst 1, 1) := by decide +kernel
theorem dL_cut_21 : decode cL_cut 21 = .ok (.ireturn, 1) := by decide +kernel
theorem dL_cut_22 : decode cL_cut 22 = .ok (.astore_n 3, 1) := by decide +kernel
theorem dL_cut_23 : decode cL_cut 23 = .ok (.iconst 2, 1) := by decide +kernel
theorem dL_cut_24 : decode cL_cut 24 = .ok (.ireturn, 1) := by decide +kernel
theorem dL_cut_25 : decode cL_cut 25 = .ok (.iconst 0, 1) := by decide +kernel
theorem dL_cut_26 : decode cL_cut 26 = .ok (.ireturn, 1) := by decide +kernel
theorem dL_mend_0 : decode cL_mend 0 = .ok (.aload_n 2, 1) := by decide +kernel
theorem dL_mend_1 : decode cL_mend 1 = .ok (.iconst 0, 1) := by decide +kernel
theorem dL_mend_2 : decode cL_mend 2 = .ok (.aload_n 0, 1) := by decide +kernel
theorem dL_mend_3 : decode cL_mend 3 = .ok (.iload_n 1, 1) := by decide +kernel
theorem dL_mend_4 : decode cL_mend 4 = .ok (.invokevirtual 31, 3) := by decide +kernel
theorem dL_mend_7 : decode cL_mend 7 = .ok (.i2l, 1) := by decide +kernel
theorem dL_mend_8 : decode cL_mend 8 = .ok (.lastore, 1) := by decide +kernel
theorem dL_mend_9 : decode cL_mend 9 = .ok (.goto 9, 3) := by decide +kernel
theorem dL_mend_12 : decode cL_mend 12 = .ok (.astore_n 3, 1) := by decide +kernel
theorem dL_mend_13 : decode cL_mend 13 = .ok (.iconst 1, 1) := by decide +kernel
theorem dL_mend_14 : decode cL_mend 14 = .ok (.ireturn, 1) := by decide +kernel
theorem dL_mend_15 : decode cL_mend 15 = .ok (.astore_n 3, 1) := by decide +kernel
theorem dL_mend_16 : decode cL_mend 16 = .ok (.iconst 2, 1) := by decide +kernel
theorem dL_mend_17 : decode cL_mend 17 = .ok (.ireturn, 1) := by decide +kernel
theorem dL_mend_18 : decode cL_mend 18 = .ok (.iconst 0, 1) := by decide +kernel
theorem dL_mend_19 : decode cL_mend 19 = .ok (.ireturn, 1) := by decide +kernel
theorem dL_call_0 : decode cL_call 0 = .ok (.aload_n 3, 1) := by decide +kernel
theorem dL_call_1 : decode cL_call 1 = .ok (.iconst 0, 1) := by decide +kernel
theorem dL_call_2 : decode cL_call 2 = .ok (.aload_n 0, 1) := by decide +kernel
theorem dL_call_3 : decode cL_call 3 = .ok (.iload_n 1, 1) := by decide +kernel
theorem dL_call_4 : decode cL_call 4 = .ok (.iload_n 2, 1) := by decide +kernel
theorem dL_call_5 : decode cL_call 5 = .ok (.invokevirtual 35, 3) := by decide +kernel
theorem dL_call_8 : decode cL_call 8 = .ok (.i2l, 1) := by decide +kernel
theorem dL_call_9 : decode cL_call 9 = .ok (.lastore, 1) := by decide +kernel
theorem dL_call_10 : decode cL_call 10 = .ok (.goto 19, 3) := by decide +kernel
theorem dL_call_13 : decode cL_call 13 = .ok (.astore 4, 2) := by decide +kernel
theorem dL_call_15 : decode cL_call 15 = .ok (.iconst 1, 1) := by decide +kernel
theorem dL_call_16 : decode cL_call 16 = .ok (.ireturn, 1) := by decide +kernel
theorem dL_call_17 : decode cL_call 17 = .ok (.astore 4, 2) := by decide +kernel
theorem dL_call_19 : decode cL_call 19 = .ok (.iconst 2, 1) := by decide +kernel
theorem dL_call_20 : decode cL_call 20 = .ok (.ireturn, 1) := by decide +kernel
theorem dL_call_21 : decode cL_call 21 = .ok (.astore 4, 2) := by decide +kernel
theorem dL_call_23 : decode cL_call 23 = .ok (.iconst 3, 1) := by decide +kernel
theorem dL_call_24 : decode cL_call 24 = .ok (.ireturn, 1) := by decide +kernel
theorem dL_call_25 : decode cL_call 25 = .ok (.astore 4, 2) := by decide +kernel
theorem dL_call_27 : decode cL_call 27 = .ok (.iconst 4, 1) := by decide +kernel
theorem dL_call_28 : decode cL_call 28 = .ok (.ireturn, 1) := by decide +kernel
theorem dL_call_29 : decode cL_call 29 = .ok (.iconst 0, 1) := by decide +kernel
theorem dL_call_30 : decode cL_call 30 = .ok (.ireturn, 1) := by decide +kernel
theorem dL_hangUp_0 : decode cL_hangUp 0 = .ok (.aload_n 2, 1) := by decide +kernel
theorem dL_hangUp_1 : decode cL_hangUp 1 = .ok (.iconst 0, 1) := by decide +kernel
theorem dL_hangUp_2 : decode cL_hangUp 2 = .ok (.aload_n 0, 1) := by decide +kernel
theorem dL_hangUp_3 : decode cL_hangUp 3 = .ok (.iload_n 1, 1) := by decide +kernel
theorem dL_hangUp_4 : decode cL_hangUp 4 = .ok (.invokevirtual 40, 3) := by decide +kernel
theorem dL_hangUp_7 : decode cL_hangUp 7 = .ok (.i2l, 1) := by decide +kernel
theorem dL_hangUp_8 : decode cL_hangUp 8 = .ok (.lastore, 1) := by decide +kernel
theorem dL_hangUp_9 : decode cL_hangUp 9 = .ok (.goto 9, 3) := by decide +kernel
theorem dL_hangUp_12 : decode cL_hangUp 12 = .ok (.astore_n 3, 1) := by decide +kernel
theorem dL_hangUp_13 : decode cL_hangUp 13 = .ok (.iconst 1, 1) := by decide +kernel
theorem dL_hangUp_14 : decode cL_hangUp 14 = .ok (.ireturn, 1) := by decide +kernel
theorem dL_hangUp_15 : decode cL_hangUp 15 = .ok (.astore_n 3, 1) := by decide +kernel
theorem dL_hangUp_16 : decode cL_hangUp 16 = .ok (.iconst 2, 1) := by decide +kernel
theorem dL_hangUp_17 : decode cL_hangUp 17 = .ok (.ireturn, 1) := by decide +kernel
theorem dL_hangUp_18 : decode cL_hangUp 18 = .ok (.iconst 0, 1) := by decide +kernel
theorem dL_hangUp_19 : decode cL_hangUp 19 = .ok (.ireturn, 1) := by decide +kernel
theorem dL_pass_0 : decode cL_pass 0 = .ok (.aload_n 2, 1) := by decide +kernel
theorem dL_pass_1 : decode cL_pass 1 = .ok (.iconst 0, 1) := by decide +kernel
theorem dL_pass_2 : decode cL_pass 2 = .ok (.aload_n 0, 1) := by decide +kernel
theorem dL_pass_3 : decode cL_pass 3 = .ok (.iload_n 1, 1) := by decide +kernel
theorem dL_pass_4 : decode cL_pass 4 = .ok (.invokevirtual 43, 3) := by decide +kernel
theorem dL_pass_7 : decode cL_pass 7 = .ok (.i2l, 1) := by decide +kernel
theorem dL_pass_8 : decode cL_pass 8 = .ok (.lastore, 1) := by decide +kernel
theorem dL_pass_9 : decode cL_pass 9 = .ok (.goto 6, 3) := by decide +kernel
theorem dL_pass_12 : decode cL_pass 12 = .ok (.astore_n 3, 1) := by decide +kernel
theorem dL_pass_13 : decode cL_pass 13 = .ok (.iconst 1, 1) := by decide +kernel
theorem dL_pass_14 : decode cL_pass 14 = .ok (.ireturn, 1) := by decide +kernel
theorem dL_pass_15 : decode cL_pass 15 = .ok (.iconst 0, 1) := by decide +kernel
theorem dL_pass_16 : decode cL_pass 16 = .ok (.ireturn, 1) := by decide +kernel
theorem dL_trunkLength_0 : decode cL_trunkLength 0 = .ok (.aload_n 2, 1) := by decide +kernel
theorem dL_trunkLength_1 : decode cL_trunkLength 1 = .ok (.iconst 0, 1) := by decide +kernel
theorem dL_trunkLength_2 : decode cL_trunkLength 2 = .ok (.aload_n 0, 1) := by decide +kernel
theorem dL_trunkLength_3 : decode cL_trunkLength 3 = .ok (.iload_n 1, 1) := by decide +kernel
theorem dL_trunkLength_4 : decode cL_trunkLength 4 = .ok (.invokevirtual 46, 3) := by decide +kernel
theorem dL_trunkLength_7 : decode cL_trunkLength 7 = .ok (.i2l, 1) := by decide +kernel
theorem dL_trunkLength_8 : decode cL_trunkLength 8 = .ok (.lastore, 1) := by decide +kernel
theorem dL_trunkLength_9 : decode cL_trunkLength 9 = .ok (.goto 6, 3) := by decide +kernel
theorem dL_trunkLength_12 : decode cL_trunkLength 12 = .ok (.astore_n 3, 1) := by decide +kernel
theorem dL_trunkLength_13 : decode cL_trunkLength 13 = .ok (.iconst 1, 1) := by decide +kernel
theorem dL_trunkLength_14 : decode cL_trunkLength 14 = .ok (.ireturn, 1) := by decide +kernel
theorem dL_trunkLength_15 : decode cL_trunkLength 15 = .ok (.iconst 0, 1) := by decide +kernel
theorem dL_trunkLength_16 : decode cL_trunkLength 16 = .ok (.ireturn, 1) := by decide +kernel
theorem dL_otherEnd_0 : decode cL_otherEnd 0 = .ok (.aload_n 3, 1) := by decide +kernel
theorem dL_otherEnd_1 : decode cL_otherEnd 1 = .ok (.iconst 0, 1) := by decide +kernel
theorem dL_otherEnd_2 : decode cL_otherEnd 2 = .ok (.aload_n 0, 1) := by decide +kernel
theorem dL_otherEnd_3 : decode cL_otherEnd 3 = .ok (.iload_n 1, 1) := by decide +kernel
theorem dL_otherEnd_4 : decode cL_otherEnd 4 = .ok (.iload_n 2, 1) := by decide +kernel
theorem dL_otherEnd_5 : decode cL_otherEnd 5 = .ok (.invokevirtual 49, 3) := by decide +kernel
theorem dL_otherEnd_8 : decode cL_otherEnd 8 = .ok (.i2l, 1) := by decide +kernel
theorem dL_otherEnd_9 : decode cL_otherEnd 9 = .ok (.lastore, 1) := by decide +kernel
theorem dL_otherEnd_10 : decode cL_otherEnd 10 = .ok (.goto 11, 3) := by decide +kernel
theorem dL_otherEnd_13 : decode cL_otherEnd 13 = .ok (.astore 4, 2) := by decide +kernel
theorem dL_otherEnd_15 : decode cL_otherEnd 15 = .ok (.iconst 1, 1) := by decide +kernel
theorem dL_otherEnd_16 : decode cL_otherEnd 16 = .ok (.ireturn, 1) := by decide +kernel
theorem dL_otherEnd_17 : decode cL_otherEnd 17 = .ok (.astore 4, 2) := by decide +kernel
theorem dL_otherEnd_19 : decode cL_otherEnd 19 = .ok (.iconst 2, 1) := by decide +kernel
theorem dL_otherEnd_20 : decode cL_otherEnd 20 = .ok (.ireturn, 1) := by decide +kernel
theorem dL_otherEnd_21 : decode cL_otherEnd 21 = .ok (.iconst 0, 1) := by decide +kernel
theorem dL_otherEnd_22 : decode cL_otherEnd 22 = .ok (.ireturn, 1) := by decide +kernel
theorem dL_isCut_0 : decode cL_isCut 0 = .ok (.aload_n 2, 1) := by decide +kernel
theorem dL_isCut_1 : decode cL_isCut 1 = .ok (.iconst 0, 1) := by decide +kernel
theorem dL_isCut_2 : decode cL_isCut 2 = .ok (.aload_n 0, 1) := by decide +kernel
theorem dL_isCut_3 : decode cL_isCut 3 = .ok (.iload_n 1, 1) := by decide +kernel
theorem dL_isCut_4 : decode cL_isCut 4 = .ok (.invokevirtual 52, 3) := by decide +kernel
theorem dL_isCut_7 : decode cL_isCut 7 = .ok (.ifCond .eq 7, 3) := by decide +kernel
theorem dL_isCut_10 : decode cL_isCut 10 = .ok (.lconst 1, 1) := by decide +kernel
theorem dL_isCut_11 : decode cL_isCut 11 = .ok (.goto 4, 3) := by decide +kernel
theorem dL_isCut_14 : decode cL_isCut 14 = .ok (.lconst 0, 1) := by decide +kernel
theorem dL_isCut_15 : decode cL_isCut 15 = .ok (.lastore, 1) := by decide +kernel
theorem dL_isCut_16 : decode cL_isCut 16 = .ok (.goto 6, 3) := by decide +kernel
theorem dL_isCut_19 : decode cL_isCut 19 = .ok (.astore_n 3, 1) := by decide +kernel
theorem dL_isCut_20 : decode cL_isCut 20 = .ok (.iconst 1, 1) := by decide +kernel
theorem dL_isCut_21 : decode cL_isCut 21 = .ok (.ireturn, 1) := by decide +kernel
theorem dL_isCut_22 : decode cL_isCut 22 = .ok (.iconst 0, 1) := by decide +kernel
theorem dL_isCut_23 : decode cL_isCut 23 = .ok (.ireturn, 1) := by decide +kernel
theorem dL_userOf_0 : decode cL_userOf 0 = .ok (.aload_n 2, 1) := by decide +kernel
theorem dL_userOf_1 : decode cL_userOf 1 = .ok (.iconst 0, 1) := by decide +kernel
theorem dL_userOf_2 : decode cL_userOf 2 = .ok (.aload_n 0, 1) := by decide +kernel
theorem dL_userOf_3 : decode cL_userOf 3 = .ok (.iload_n 1, 1) := by decide +kernel
theorem dL_userOf_4 : decode cL_userOf 4 = .ok (.invokevirtual 55, 3) := by decide +kernel
theorem dL_userOf_7 : decode cL_userOf 7 = .ok (.i2l, 1) := by decide +kernel
theorem dL_userOf_8 : decode cL_userOf 8 = .ok (.lastore, 1) := by decide +kernel
theorem dL_userOf_9 : decode cL_userOf 9 = .ok (.goto 9, 3) := by decide +kernel
theorem dL_userOf_12 : decode cL_userOf 12 = .ok (.astore_n 3, 1) := by decide +kernel
theorem dL_userOf_13 : decode cL_userOf 13 = .ok (.iconst 1, 1) := by decide +kernel
theorem dL_userOf_14 : decode cL_userOf 14 = .ok (.ireturn, 1) := by decide +kernel
theorem dL_userOf_15 : decode cL_userOf 15 = .ok (.astore_n 3, 1) := by decide +kernel
theorem dL_userOf_16 : decode cL_userOf 16 = .ok (.iconst 2, 1) := by decide +kernel
theorem dL_userOf_17 : decode cL_userOf 17 = .ok (.ireturn, 1) := by decide +kernel
theorem dL_userOf_18 : decode cL_userOf 18 = .ok (.iconst 0, 1) := by decide +kernel
theorem dL_userOf_19 : decode cL_userOf 19 = .ok (.ireturn, 1) := by decide +kernel
theorem dL_minutesOn_0 : decode cL_minutesOn 0 = .ok (.aload_n 2, 1) := by decide +kernel
theorem dL_minutesOn_1 : decode cL_minutesOn 1 = .ok (.iconst 0, 1) := by decide +kernel
theorem dL_minutesOn_2 : decode cL_minutesOn 2 = .ok (.aload_n 0, 1) := by decide +kernel
theorem dL_minutesOn_3 : decode cL_minutesOn 3 = .ok (.iload_n 1, 1) := by decide +kernel
theorem dL_minutesOn_4 : decode cL_minutesOn 4 = .ok (.invokevirtual 60, 3) := by decide +kernel
theorem dL_minutesOn_7 : decode cL_minutesOn 7 = .ok (.i2l, 1) := by decide +kernel
theorem dL_minutesOn_8 : decode cL_minutesOn 8 = .ok (.lastore, 1) := by decide +kernel
theorem dL_minutesOn_9 : decode cL_minutesOn 9 = .ok (.goto 6, 3) := by decide +kernel
theorem dL_minutesOn_12 : decode cL_minutesOn 12 = .ok (.astore_n 3, 1) := by decide +kernel
theorem dL_minutesOn_13 : decode cL_minutesOn 13 = .ok (.iconst 1, 1) := by decide +kernel
theorem dL_minutesOn_14 : decode cL_minutesOn 14 = .ok (.ireturn, 1) := by decide +kernel
theorem dL_minutesOn_15 : decode cL_minutesOn 15 = .ok (.iconst 0, 1) := by decide +kernel
theorem dL_minutesOn_16 : decode cL_minutesOn 16 = .ok (.ireturn, 1) := by decide +kernel
theorem dL_routeLength_0 : decode cL_routeLength 0 = .ok (.aload_n 3, 1) := by decide +kernel
theorem dL_routeLength_1 : decode cL_routeLength 1 = .ok (.iconst 0, 1) := by decide +kernel
theorem dL_routeLength_2 : decode cL_routeLength 2 = .ok (.aload_n 0, 1) := by decide +kernel
theorem dL_routeLength_3 : decode cL_routeLength 3 = .ok (.iload_n 1, 1) := by decide +kernel
theorem dL_routeLength_4 : decode cL_routeLength 4 = .ok (.iload_n 2, 1) := by decide +kernel
theorem dL_routeLength_5 : decode cL_routeLength 5 = .ok (.invokevirtual 63, 3) := by decide +kernel
theorem dL_routeLength_8 : decode cL_routeLength 8 = .ok (.i2l, 1) := by decide +kernel
theorem dL_routeLength_9 : decode cL_routeLength 9 = .ok (.lastore, 1) := by decide +kernel
theorem dL_routeLength_10 : decode cL_routeLength 10 = .ok (.goto 11, 3) := by decide +kernel
theorem dL_routeLength_13 : decode cL_routeLength 13 = .ok (.astore 4, 2) := by decide +kernel
theorem dL_routeLength_15 : decode cL_routeLength 15 = .ok (.iconst 1, 1) := by decide +kernel
theorem dL_routeLength_16 : decode cL_routeLength 16 = .ok (.ireturn, 1) := by decide +kernel
theorem dL_routeLength_17 : decode cL_routeLength 17 = .ok (.astore 4, 2) := by decide +kernel
theorem dL_routeLength_19 : decode cL_routeLength 19 = .ok (.iconst 2, 1) := by decide +kernel
theorem dL_routeLength_20 : decode cL_routeLength 20 = .ok (.ireturn, 1) := by decide +kernel
theorem dL_routeLength_21 : decode cL_routeLength 21 = .ok (.iconst 0, 1) := by decide +kernel
theorem dL_routeLength_22 : decode cL_routeLength 22 = .ok (.ireturn, 1) := by decide +kernel
theorem dL_routeLengthByRelaxation_0 : decode cL_routeLengthByRelaxation 0 = .ok (.aload_n 3, 1) := by decide +kernel
theorem dL_routeLengthByRelaxation_1 : decode cL_routeLengthByRelaxation 1 = .ok (.iconst 0, 1) := by decide +kernel
theorem dL_routeLengthByRelaxation_2 : decode cL_routeLengthByRelaxation 2 = .ok (.aload_n 0, 1) := by decide +kernel
theorem dL_routeLengthByRelaxation_3 : decode cL_routeLengthByRelaxation 3 = .ok (.iload_n 1, 1) := by decide +kernel
theorem dL_routeLengthByRelaxation_4 : decode cL_routeLengthByRelaxation 4 = .ok (.iload_n 2, 1) := by decide +kernel
theorem dL_routeLengthByRelaxation_5 : decode cL_routeLengthByRelaxation 5 = .ok (.invokevirtual 66, 3) := by decide +kernel
theorem dL_routeLengthByRelaxation_8 : decode cL_routeLengthByRelaxation 8 = .ok (.i2l, 1) := by decide +kernel
theorem dL_routeLengthByRelaxation_9 : decode cL_routeLengthByRelaxation 9 = .ok (.lastore, 1) := by decide +kernel
theorem dL_routeLengthByRelaxation_10 : decode cL_routeLengthByRelaxation 10 = .ok (.goto 11, 3) := by decide +kernel
theorem dL_routeLengthByRelaxation_13 : decode cL_routeLengthByRelaxation 13 = .ok (.astore 4, 2) := by decide +kernel
theorem dL_routeLengthByRelaxation_15 : decode cL_routeLengthByRelaxation 15 = .ok (.iconst 1, 1) := by decide +kernel
theorem dL_routeLengthByRelaxation_16 : decode cL_routeLengthByRelaxation 16 = .ok (.ireturn, 1) := by decide +kernel
theorem dL_routeLengthByRelaxation_17 : decode cL_routeLengthByRelaxation 17 = .ok (.astore 4, 2) := by decide +kernel
theorem dL_routeLengthByRelaxation_19 : decode cL_routeLengthByRelaxation 19 = .ok (.iconst 2, 1) := by decide +kernel
theorem dL_routeLengthByRelaxation_20 : decode cL_routeLengthByRelaxation 20 = .ok (.ireturn, 1) := by decide +kernel
theorem dL_routeLengthByRelaxation_21 : decode cL_routeLengthByRelaxation 21 = .ok (.iconst 0, 1) := by decide +kernel
theorem dL_routeLengthByRelaxation_22 : decode cL_routeLengthByRelaxation 22 = .ok (.ireturn, 1) := by decide +kernel
theorem dL_disjointRoutes_0 : decode cL_disjointRoutes 0 = .ok (.aload_n 3, 1) := by decide +kernel
theorem dL_disjointRoutes_1 : decode cL_disjointRoutes 1 = .ok (.iconst 0, 1) := by decide +kernel
theorem dL_disjointRoutes_2 : decode cL_disjointRoutes 2 = .ok (.aload_n 0, 1) := by decide +kernel
theorem dL_disjointRoutes_3 : decode cL_disjointRoutes 3 = .ok (.iload_n 1, 1) := by decide +kernel
theorem dL_disjointRoutes_4 : decode cL_disjointRoutes 4 = .ok (.iload_n 2, 1) := by decide +kernel
theorem dL_disjointRoutes_5 : decode cL_disjointRoutes 5 = .ok (.invokevirtual 69, 3) := by decide +kernel
theorem dL_disjointRoutes_8 : decode cL_disjointRoutes 8 = .ok (.i2l, 1) := by decide +kernel
theorem dL_disjointRoutes_9 : decode cL_disjointRoutes 9 = .ok (.lastore, 1) := by decide +kernel
theorem dL_disjointRoutes_10 : decode cL_disjointRoutes 10 = .ok (.goto 11, 3) := by decide +kernel
theorem dL_disjointRoutes_13 : decode cL_disjointRoutes 13 = .ok (.astore 4, 2) := by decide +kernel
theorem dL_disjointRoutes_15 : decode cL_disjointRoutes 15 = .ok (.iconst 1, 1) := by decide +kernel
theorem dL_disjointRoutes_16 : decode cL_disjointRoutes 16 = .ok (.ireturn, 1) := by decide +kernel
theorem dL_disjointRoutes_17 : decode cL_disjointRoutes 17 = .ok (.astore 4, 2) := by decide +kernel
theorem dL_disjointRoutes_19 : decode cL_disjointRoutes 19 = .ok (.iconst 2, 1) := by decide +kernel
theorem dL_disjointRoutes_20 : decode cL_disjointRoutes 20 = .ok (.ireturn, 1) := by decide +kernel
theorem dL_disjointRoutes_21 : decode cL_disjointRoutes 21 = .ok (.iconst 0, 1) := by decide +kernel
theorem dL_disjointRoutes_22 : decode cL_disjointRoutes 22 = .ok (.ireturn, 1) := by decide +kernel
theorem dL_minimalCut_0 : decode cL_minimalCut 0 = .ok (.aload_n 3, 1) := by decide +kernel
theorem dL_minimalCut_1 : decode cL_minimalCut 1 = .ok (.iconst 0, 1) := by decide +kernel
theorem dL_minimalCut_2 : decode cL_minimalCut 2 = .ok (.aload_n 0, 1) := by decide +kernel
theorem dL_minimalCut_3 : decode cL_minimalCut 3 = .ok (.iload_n 1, 1) := by decide +kernel
theorem dL_minimalCut_4 : decode cL_minimalCut 4 = .ok (.iload_n 2, 1) := by decide +kernel
theorem dL_minimalCut_5 : decode cL_minimalCut 5 = .ok (.invokevirtual 72, 3) := by decide +kernel
theorem dL_minimalCut_8 : decode cL_minimalCut 8 = .ok (.i2l, 1) := by decide +kernel
theorem dL_minimalCut_9 : decode cL_minimalCut 9 = .ok (.lastore, 1) := by decide +kernel
theorem dL_minimalCut_10 : decode cL_minimalCut 10 = .ok (.goto 11, 3) := by decide +kernel
theorem dL_minimalCut_13 : decode cL_minimalCut 13 = .ok (.astore 4, 2) := by decide +kernel
theorem dL_minimalCut_15 : decode cL_minimalCut 15 = .ok (.iconst 1, 1) := by decide +kernel
theorem dL_minimalCut_16 : decode cL_minimalCut 16 = .ok (.ireturn, 1) := by decide +kernel
theorem dL_minimalCut_17 : decode cL_minimalCut 17 = .ok (.astore 4, 2) := by decide +kernel
theorem dL_minimalCut_19 : decode cL_minimalCut 19 = .ok (.iconst 2, 1) := by decide +kernel
theorem dL_minimalCut_20 : decode cL_minimalCut 20 = .ok (.ireturn, 1) := by decide +kernel
theorem dL_minimalCut_21 : decode cL_minimalCut 21 = .ok (.iconst 0, 1) := by decide +kernel
theorem dL_minimalCut_22 : decode cL_minimalCut 22 = .ok (.ireturn, 1) := by decide +kernel
theorem dL_home_0 : decode cL_home 0 = .ok (.aload_n 2, 1) := by decide +kernel
theorem dL_home_1 : decode cL_home 1 = .ok (.iconst 0, 1) := by decide +kernel
theorem dL_home_2 : decode cL_home 2 = .ok (.aload_n 0, 1) := by decide +kernel
theorem dL_home_3 : decode cL_home 3 = .ok (.iload_n 1, 1) := by decide +kernel
theorem dL_home_4 : decode cL_home 4 = .ok (.invokevirtual 75, 3) := by decide +kernel
theorem dL_home_7 : decode cL_home 7 = .ok (.i2l, 1) := by decide +kernel
theorem dL_home_8 : decode cL_home 8 = .ok (.lastore, 1) := by decide +kernel
theorem dL_home_9 : decode cL_home 9 = .ok (.goto 6, 3) := by decide +kernel
theorem dL_home_12 : decode cL_home 12 = .ok (.astore_n 3, 1) := by decide +kernel
theorem dL_home_13 : decode cL_home 13 = .ok (.iconst 1, 1) := by decide +kernel
theorem dL_home_14 : decode cL_home 14 = .ok (.ireturn, 1) := by decide +kernel
theorem dL_home_15 : decode cL_home 15 = .ok (.iconst 0, 1) := by decide +kernel
theorem dL_home_16 : decode cL_home 16 = .ok (.ireturn, 1) := by decide +kernel
theorem dL_tariff_0 : decode cL_tariff 0 = .ok (.aload_n 2, 1) := by decide +kernel
theorem dL_tariff_1 : decode cL_tariff 1 = .ok (.iconst 0, 1) := by decide +kernel
theorem dL_tariff_2 : decode cL_tariff 2 = .ok (.aload_n 0, 1) := by decide +kernel
theorem dL_tariff_3 : decode cL_tariff 3 = .ok (.iload_n 1, 1) := by decide +kernel
theorem dL_tariff_4 : decode cL_tariff 4 = .ok (.invokevirtual 78, 3) := by decide +kernel
theorem dL_tariff_7 : decode cL_tariff 7 = .ok (.i2l, 1) := by decide +kernel
theorem dL_tariff_8 : decode cL_tariff 8 = .ok (.lastore, 1) := by decide +kernel
theorem dL_tariff_9 : decode cL_tariff 9 = .ok (.goto 6, 3) := by decide +kernel
theorem dL_tariff_12 : decode cL_tariff 12 = .ok (.astore_n 3, 1) := by decide +kernel
theorem dL_tariff_13 : decode cL_tariff 13 = .ok (.iconst 1, 1) := by decide +kernel
theorem dL_tariff_14 : decode cL_tariff 14 = .ok (.ireturn, 1) := by decide +kernel
theorem dL_tariff_15 : decode cL_tariff 15 = .ok (.iconst 0, 1) := by decide +kernel
theorem dL_tariff_16 : decode cL_tariff 16 = .ok (.ireturn, 1) := by decide +kernel
theorem dL_bill_0 : decode cL_bill 0 = .ok (.aload_n 2, 1) := by decide +kernel
theorem dL_bill_1 : decode cL_bill 1 = .ok (.iconst 0, 1) := by decide +kernel
theorem dL_bill_2 : decode cL_bill 2 = .ok (.aload_n 0, 1) := by decide +kernel
theorem dL_bill_3 : decode cL_bill 3 = .ok (.iload_n 1, 1) := by decide +kernel
theorem dL_bill_4 : decode cL_bill 4 = .ok (.invokevirtual 81, 3) := by decide +kernel
theorem dL_bill_7 : decode cL_bill 7 = .ok (.i2l, 1) := by decide +kernel
theorem dL_bill_8 : decode cL_bill 8 = .ok (.lastore, 1) := by decide +kernel
theorem dL_bill_9 : decode cL_bill 9 = .ok (.goto 6, 3) := by decide +kernel
theorem dL_bill_12 : decode cL_bill 12 = .ok (.astore_n 3, 1) := by decide +kernel
theorem dL_bill_13 : decode cL_bill 13 = .ok (.iconst 1, 1) := by decide +kernel
theorem dL_bill_14 : decode cL_bill 14 = .ok (.ireturn, 1) := by decide +kernel
theorem dL_bill_15 : decode cL_bill 15 = .ok (.iconst 0, 1) := by decide +kernel
theorem dL_bill_16 : decode cL_bill 16 = .ok (.ireturn, 1) := by decide +kernel
theorem dL_isTalking_0 : decode cL_isTalking 0 = .ok (.aload_n 2, 1) := by decide +kernel
theorem dL_isTalking_1 : decode cL_isTalking 1 = .ok (.iconst 0, 1) := by decide +kernel
theorem dL_isTalking_2 : decode cL_isTalking 2 = .ok (.aload_n 0, 1) := by decide +kernel
theorem dL_isTalking_3 : decode cL_isTalking 3 = .ok (.iload_n 1, 1) := by decide +kernel
theorem dL_isTalking_4 : decode cL_isTalking 4 = .ok (.invokevirtual 84, 3) := by decide +kernel
theorem dL_isTalking_7 : decode cL_isTalking 7 = .ok (.ifCond .eq 7, 3) := by decide +kernel
theorem dL_isTalking_10 : decode cL_isTalking 10 = .ok (.lconst 1, 1) := by decide +kernel
theorem dL_isTalking_11 : decode cL_isTalking 11 = .ok (.goto 4, 3) := by decide +kernel
theorem dL_isTalking_14 : decode cL_isTalking 14 = .ok (.lconst 0, 1) := by decide +kernel
theorem dL_isTalking_15 : decode cL_isTalking 15 = .ok (.lastore, 1) := by decide +kernel
theorem dL_isTalking_16 : decode cL_isTalking 16 = .ok (.goto 6, 3) := by decide +kernel
theorem dL_isTalking_19 : decode cL_isTalking 19 = .ok (.astore_n 3, 1) := by decide +kernel
theorem dL_isTalking_20 : decode cL_isTalking 20 = .ok (.iconst 1, 1) := by decide +kernel
theorem dL_isTalking_21 : decode cL_isTalking 21 = .ok (.ireturn, 1) := by decide +kernel
theorem dL_isTalking_22 : decode cL_isTalking 22 = .ok (.iconst 0, 1) := by decide +kernel
theorem dL_isTalking_23 : decode cL_isTalking 23 = .ok (.ireturn, 1) := by decide +kernel
theorem dL_partner_0 : decode cL_partner 0 = .ok (.aload_n 2, 1) := by decide +kernel
theorem dL_partner_1 : decode cL_partner 1 = .ok (.iconst 0, 1) := by decide +kernel
theorem dL_partner_2 : decode cL_partner 2 = .ok (.aload_n 0, 1) := by decide +kernel
theorem dL_partner_3 : decode cL_partner 3 = .ok (.iload_n 1, 1) := by decide +kernel
theorem dL_partner_4 : decode cL_partner 4 = .ok (.invokevirtual 87, 3) := by decide +kernel
theorem dL_partner_7 : decode cL_partner 7 = .ok (.i2l, 1) := by decide +kernel
theorem dL_partner_8 : decode cL_partner 8 = .ok (.lastore, 1) := by decide +kernel
theorem dL_partner_9 : decode cL_partner 9 = .ok (.goto 9, 3) := by decide +kernel
theorem dL_partner_12 : decode cL_partner 12 = .ok (.astore_n 3, 1) := by decide +kernel
theorem dL_partner_13 : decode cL_partner 13 = .ok (.iconst 1, 1) := by decide +kernel
theorem dL_partner_14 : decode cL_partner 14 = .ok (.ireturn, 1) := by decide +kernel
theorem dL_partner_15 : decode cL_partner 15 = .ok (.astore_n 3, 1) := by decide +kernel
theorem dL_partner_16 : decode cL_partner 16 = .ok (.iconst 2, 1) := by decide +kernel
theorem dL_partner_17 : decode cL_partner 17 = .ok (.ireturn, 1) := by decide +kernel
theorem dL_partner_18 : decode cL_partner 18 = .ok (.iconst 0, 1) := by decide +kernel
theorem dL_partner_19 : decode cL_partner 19 = .ok (.ireturn, 1) := by decide +kernel
theorem dL_minutes_0 : decode cL_minutes 0 = .ok (.aload_n 2, 1) := by decide +kernel
theorem dL_minutes_1 : decode cL_minutes 1 = .ok (.iconst 0, 1) := by decide +kernel
theorem dL_minutes_2 : decode cL_minutes 2 = .ok (.aload_n 0, 1) := by decide +kernel
theorem dL_minutes_3 : decode cL_minutes 3 = .ok (.iload_n 1, 1) := by decide +kernel
theorem dL_minutes_4 : decode cL_minutes 4 = .ok (.invokevirtual 90, 3) := by decide +kernel
theorem dL_minutes_7 : decode cL_minutes 7 = .ok (.i2l, 1) := by decide +kernel
theorem dL_minutes_8 : decode cL_minutes 8 = .ok (.lastore, 1) := by decide +kernel
theorem dL_minutes_9 : decode cL_minutes 9 = .ok (.goto 9, 3) := by decide +kernel
theorem dL_minutes_12 : decode cL_minutes 12 = .ok (.astore_n 3, 1) := by decide +kernel
theorem dL_minutes_13 : decode cL_minutes 13 = .ok (.iconst 1, 1) := by decide +kernel
theorem dL_minutes_14 : decode cL_minutes 14 = .ok (.ireturn, 1) := by decide +kernel
theorem dL_minutes_15 : decode cL_minutes 15 = .ok (.astore_n 3, 1) := by decide +kernel
theorem dL_minutes_16 : decode cL_minutes 16 = .ok (.iconst 2, 1) := by decide +kernel
theorem dL_minutes_17 : decode cL_minutes 17 = .ok (.ireturn, 1) := by decide +kernel
theorem dL_minutes_18 : decode cL_minutes 18 = .ok (.iconst 0, 1) := by decide +kernel
theorem dL_minutes_19 : decode cL_minutes 19 = .ok (.ireturn, 1) := by decide +kernel
theorem dL_routeSize_0 : decode cL_routeSize 0 = .ok (.aload_n 2, 1) := by decide +kernel
theorem dL_routeSize_1 : decode cL_routeSize 1 = .ok (.iconst 0, 1) := by decide +kernel
theorem dL_routeSize_2 : decode cL_routeSize 2 = .ok (.aload_n 0, 1) := by decide +kernel
theorem dL_routeSize_3 : decode cL_routeSize 3 = .ok (.iload_n 1, 1) := by decide +kernel
theorem dL_routeSize_4 : decode cL_routeSize 4 = .ok (.invokevirtual 93, 3) := by decide +kernel
theorem dL_routeSize_7 : decode cL_routeSize 7 = .ok (.i2l, 1) := by decide +kernel
theorem dL_routeSize_8 : decode cL_routeSize 8 = .ok (.lastore, 1) := by decide +kernel
theorem dL_routeSize_9 : decode cL_routeSize 9 = .ok (.goto 9, 3) := by decide +kernel
theorem dL_routeSize_12 : decode cL_routeSize 12 = .ok (.astore_n 3, 1) := by decide +kernel
theorem dL_routeSize_13 : decode cL_routeSize 13 = .ok (.iconst 1, 1) := by decide +kernel
theorem dL_routeSize_14 : decode cL_routeSize 14 = .ok (.ireturn, 1) := by decide +kernel
theorem dL_routeSize_15 : decode cL_routeSize 15 = .ok (.astore_n 3, 1) := by decide +kernel
theorem dL_routeSize_16 : decode cL_routeSize 16 = .ok (.iconst 2, 1) := by decide +kernel
theorem dL_routeSize_17 : decode cL_routeSize 17 = .ok (.ireturn, 1) := by decide +kernel
theorem dL_routeSize_18 : decode cL_routeSize 18 = .ok (.iconst 0, 1) := by decide +kernel
theorem dL_routeSize_19 : decode cL_routeSize 19 = .ok (.ireturn, 1) := by decide +kernel
theorem dL_routeTrunk_0 : decode cL_routeTrunk 0 = .ok (.aload_n 3, 1) := by decide +kernel
theorem dL_routeTrunk_1 : decode cL_routeTrunk 1 = .ok (.iconst 0, 1) := by decide +kernel
theorem dL_routeTrunk_2 : decode cL_routeTrunk 2 = .ok (.aload_n 0, 1) := by decide +kernel
theorem dL_routeTrunk_3 : decode cL_routeTrunk 3 = .ok (.iload_n 1, 1) := by decide +kernel
theorem dL_routeTrunk_4 : decode cL_routeTrunk 4 = .ok (.iload_n 2, 1) := by decide +kernel
theorem dL_routeTrunk_5 : decode cL_routeTrunk 5 = .ok (.invokevirtual 96, 3) := by decide +kernel
theorem dL_routeTrunk_8 : decode cL_routeTrunk 8 = .ok (.i2l, 1) := by decide +kernel
theorem dL_routeTrunk_9 : decode cL_routeTrunk 9 = .ok (.lastore, 1) := by decide +kernel
theorem dL_routeTrunk_10 : decode cL_routeTrunk 10 = .ok (.goto 11, 3) := by decide +kernel
theorem dL_routeTrunk_13 : decode cL_routeTrunk 13 = .ok (.astore 4, 2) := by decide +kernel
theorem dL_routeTrunk_15 : decode cL_routeTrunk 15 = .ok (.iconst 1, 1) := by decide +kernel
theorem dL_routeTrunk_16 : decode cL_routeTrunk 16 = .ok (.ireturn, 1) := by decide +kernel
theorem dL_routeTrunk_17 : decode cL_routeTrunk 17 = .ok (.astore 4, 2) := by decide +kernel
theorem dL_routeTrunk_19 : decode cL_routeTrunk 19 = .ok (.iconst 2, 1) := by decide +kernel
theorem dL_routeTrunk_20 : decode cL_routeTrunk 20 = .ok (.ireturn, 1) := by decide +kernel
theorem dL_routeTrunk_21 : decode cL_routeTrunk 21 = .ok (.iconst 0, 1) := by decide +kernel
theorem dL_routeTrunk_22 : decode cL_routeTrunk 22 = .ok (.ireturn, 1) := by decide +kernel
theorem dL_chargeNow_0 : decode cL_chargeNow 0 = .ok (.aload_n 2, 1) := by decide +kernel
theorem dL_chargeNow_1 : decode cL_chargeNow 1 = .ok (.iconst 0, 1) := by decide +kernel
theorem dL_chargeNow_2 : decode cL_chargeNow 2 = .ok (.aload_n 0, 1) := by decide +kernel
theorem dL_chargeNow_3 : decode cL_chargeNow 3 = .ok (.iload_n 1, 1) := by decide +kernel
theorem dL_chargeNow_4 : decode cL_chargeNow 4 = .ok (.invokevirtual 99, 3) := by decide +kernel
theorem dL_chargeNow_7 : decode cL_chargeNow 7 = .ok (.i2l, 1) := by decide +kernel
theorem dL_chargeNow_8 : decode cL_chargeNow 8 = .ok (.lastore, 1) := by decide +kernel
theorem dL_chargeNow_9 : decode cL_chargeNow 9 = .ok (.goto 9, 3) := by decide +kernel
theorem dL_chargeNow_12 : decode cL_chargeNow 12 = .ok (.astore_n 3, 1) := by decide +kernel
theorem dL_chargeNow_13 : decode cL_chargeNow 13 = .ok (.iconst 1, 1) := by decide +kernel
theorem dL_chargeNow_14 : decode cL_chargeNow 14 = .ok (.ireturn, 1) := by decide +kernel
theorem dL_chargeNow_15 : decode cL_chargeNow 15 = .ok (.astore_n 3, 1) := by decide +kernel
theorem dL_chargeNow_16 : decode cL_chargeNow 16 = .ok (.iconst 2, 1) := by decide +kernel
theorem dL_chargeNow_17 : decode cL_chargeNow 17 = .ok (.ireturn, 1) := by decide +kernel
theorem dL_chargeNow_18 : decode cL_chargeNow 18 = .ok (.iconst 0, 1) := by decide +kernel
theorem dL_chargeNow_19 : decode cL_chargeNow 19 = .ok (.ireturn, 1) := by decide +kernel
theorem dL_blockedCaller_0 : decode cL_blockedCaller 0 = .ok (.aload_n 2, 1) := by decide +kernel
theorem dL_blockedCaller_1 : decode cL_blockedCaller 1 = .ok (.iconst 0, 1) := by decide +kernel
theorem dL_blockedCaller_2 : decode cL_blockedCaller 2 = .ok (.aload_n 0, 1) := by decide +kernel
theorem dL_blockedCaller_3 : decode cL_blockedCaller 3 = .ok (.iload_n 1, 1) := by decide +kernel
theorem dL_blockedCaller_4 : decode cL_blockedCaller 4 = .ok (.invokevirtual 102, 3) := by decide +kernel
theorem dL_blockedCaller_7 : decode cL_blockedCaller 7 = .ok (.i2l, 1) := by decide +kernel
theorem dL_blockedCaller_8 : decode cL_blockedCaller 8 = .ok (.lastore, 1) := by decide +kernel
theorem dL_blockedCaller_9 : decode cL_blockedCaller 9 = .ok (.goto 6, 3) := by decide +kernel
theorem dL_blockedCaller_12 : decode cL_blockedCaller 12 = .ok (.astore_n 3, 1) := by decide +kernel
theorem dL_blockedCaller_13 : decode cL_blockedCaller 13 = .ok (.iconst 1, 1) := by decide +kernel
theorem dL_blockedCaller_14 : decode cL_blockedCaller 14 = .ok (.ireturn, 1) := by decide +kernel
theorem dL_blockedCaller_15 : decode cL_blockedCaller 15 = .ok (.iconst 0, 1) := by decide +kernel
theorem dL_blockedCaller_16 : decode cL_blockedCaller 16 = .ok (.ireturn, 1) := by decide +kernel
theorem dL_blockedCallee_0 : decode cL_blockedCallee 0 = .ok (.aload_n 2, 1) := by decide +kernel
theorem dL_blockedCallee_1 : decode cL_blockedCallee 1 = .ok (.iconst 0, 1) := by decide +kernel
theorem dL_blockedCallee_2 : decode cL_blockedCallee 2 = .ok (.aload_n 0, 1) := by decide +kernel
theorem dL_blockedCallee_3 : decode cL_blockedCallee 3 = .ok (.iload_n 1, 1) := by decide +kernel
theorem dL_blockedCallee_4 : decode cL_blockedCallee 4 = .ok (.invokevirtual 105, 3) := by decide +kernel
theorem dL_blockedCallee_7 : decode cL_blockedCallee 7 = .ok (.i2l, 1) := by decide +kernel
theorem dL_blockedCallee_8 : decode cL_blockedCallee 8 = .ok (.lastore, 1) := by decide +kernel
theorem dL_blockedCallee_9 : decode cL_blockedCallee 9 = .ok (.goto 6, 3) := by decide +kernel
theorem dL_blockedCallee_12 : decode cL_blockedCallee 12 = .ok (.astore_n 3, 1) := by decide +kernel
theorem dL_blockedCallee_13 : decode cL_blockedCallee 13 = .ok (.iconst 1, 1) := by decide +kernel
theorem dL_blockedCallee_14 : decode cL_blockedCallee 14 = .ok (.ireturn, 1) := by decide +kernel
theorem dL_blockedCallee_15 : decode cL_blockedCallee 15 = .ok (.iconst 0, 1) := by decide +kernel
theorem dL_blockedCallee_16 : decode cL_blockedCallee 16 = .ok (.ireturn, 1) := by decide +kernel
theorem dL_blockedReason_0 : decode cL_blockedReason 0 = .ok (.aload_n 2, 1) := by decide +kernel
theorem dL_blockedReason_1 : decode cL_blockedReason 1 = .ok (.iconst 0, 1) := by decide +kernel
theorem dL_blockedReason_2 : decode cL_blockedReason 2 = .ok (.aload_n 0, 1) := by decide +kernel
theorem dL_blockedReason_3 : decode cL_blockedReason 3 = .ok (.iload_n 1, 1) := by decide +kernel
theorem dL_blockedReason_4 : decode cL_blockedReason 4 = .ok (.invokevirtual 108, 3) := by decide +kernel
theorem dL_blockedReason_7 : decode cL_blockedReason 7 = .ok (.i2l, 1) := by decide +kernel
theorem dL_blockedReason_8 : decode cL_blockedReason 8 = .ok (.lastore, 1) := by decide +kernel
theorem dL_blockedReason_9 : decode cL_blockedReason 9 = .ok (.goto 6, 3) := by decide +kernel
theorem dL_blockedReason_12 : decode cL_blockedReason 12 = .ok (.astore_n 3, 1) := by decide +kernel
theorem dL_blockedReason_13 : decode cL_blockedReason 13 = .ok (.iconst 1, 1) := by decide +kernel
theorem dL_blockedReason_14 : decode cL_blockedReason 14 = .ok (.ireturn, 1) := by decide +kernel
theorem dL_blockedReason_15 : decode cL_blockedReason 15 = .ok (.iconst 0, 1) := by decide +kernel
theorem dL_blockedReason_16 : decode cL_blockedReason 16 = .ok (.ireturn, 1) := by decide +kernel
theorem dL_subscriberByBill_0 : decode cL_subscriberByBill 0 = .ok (.aload_n 2, 1) := by decide +kernel
theorem dL_subscriberByBill_1 : decode cL_subscriberByBill 1 = .ok (.iconst 0, 1) := by decide +kernel
theorem dL_subscriberByBill_2 : decode cL_subscriberByBill 2 = .ok (.aload_n 0, 1) := by decide +kernel
theorem dL_subscriberByBill_3 : decode cL_subscriberByBill 3 = .ok (.iload_n 1, 1) := by decide +kernel
theorem dL_subscriberByBill_4 : decode cL_subscriberByBill 4 = .ok (.invokevirtual 112, 3) := by decide +kernel
theorem dL_subscriberByBill_7 : decode cL_subscriberByBill 7 = .ok (.i2l, 1) := by decide +kernel
theorem dL_subscriberByBill_8 : decode cL_subscriberByBill 8 = .ok (.lastore, 1) := by decide +kernel
theorem dL_subscriberByBill_9 : decode cL_subscriberByBill 9 = .ok (.goto 6, 3) := by decide +kernel
theorem dL_subscriberByBill_12 : decode cL_subscriberByBill 12 = .ok (.astore_n 3, 1) := by decide +kernel
theorem dL_subscriberByBill_13 : decode cL_subscriberByBill 13 = .ok (.iconst 1, 1) := by decide +kernel
theorem dL_subscriberByBill_14 : decode cL_subscriberByBill 14 = .ok (.ireturn, 1) := by decide +kernel
theorem dL_subscriberByBill_15 : decode cL_subscriberByBill 15 = .ok (.iconst 0, 1) := by decide +kernel
theorem dL_subscriberByBill_16 : decode cL_subscriberByBill 16 = .ok (.ireturn, 1) := by decide +kernel
theorem dL_meanCharge_0 : decode cL_meanCharge 0 = .ok (.aload_n 1, 1) := by decide +kernel
theorem dL_meanCharge_1 : decode cL_meanCharge 1 = .ok (.iconst 0, 1) := by decide +kernel
theorem dL_meanCharge_2 : decode cL_meanCharge 2 = .ok (.aload_n 0, 1) := by decide +kernel
theorem dL_meanCharge_3 : decode cL_meanCharge 3 = .ok (.invokevirtual 115, 3) := by decide +kernel
theorem dL_meanCharge_6 : decode cL_meanCharge 6 = .ok (.dastore, 1) := by decide +kernel
theorem dL_meanCharge_7 : decode cL_meanCharge 7 = .ok (.goto 6, 3) := by decide +kernel
theorem dL_meanCharge_10 : decode cL_meanCharge 10 = .ok (.astore_n 2, 1) := by decide +kernel
theorem dL_meanCharge_11 : decode cL_meanCharge 11 = .ok (.iconst 1, 1) := by decide +kernel
theorem dL_meanCharge_12 : decode cL_meanCharge 12 = .ok (.ireturn, 1) := by decide +kernel
theorem dL_meanCharge_13 : decode cL_meanCharge 13 = .ok (.iconst 0, 1) := by decide +kernel
theorem dL_meanCharge_14 : decode cL_meanCharge 14 = .ok (.ireturn, 1) := by decide +kernel
theorem dL_usedShare_0 : decode cL_usedShare 0 = .ok (.aload_n 1, 1) := by decide +kernel
theorem dL_usedShare_1 : decode cL_usedShare 1 = .ok (.iconst 0, 1) := by decide +kernel
theorem dL_usedShare_2 : decode cL_usedShare 2 = .ok (.aload_n 0, 1) := by decide +kernel
theorem dL_usedShare_3 : decode cL_usedShare 3 = .ok (.invokevirtual 121, 3) := by decide +kernel
theorem dL_usedShare_6 : decode cL_usedShare 6 = .ok (.f2d, 1) := by decide +kernel
theorem dL_usedShare_7 : decode cL_usedShare 7 = .ok (.dastore, 1) := by decide +kernel
theorem dL_usedShare_8 : decode cL_usedShare 8 = .ok (.goto 6, 3) := by decide +kernel
theorem dL_usedShare_11 : decode cL_usedShare 11 = .ok (.astore_n 2, 1) := by decide +kernel
theorem dL_usedShare_12 : decode cL_usedShare 12 = .ok (.iconst 1, 1) := by decide +kernel
theorem dL_usedShare_13 : decode cL_usedShare 13 = .ok (.ireturn, 1) := by decide +kernel
theorem dL_usedShare_14 : decode cL_usedShare 14 = .ok (.iconst 0, 1) := by decide +kernel
theorem dL_usedShare_15 : decode cL_usedShare 15 = .ok (.ireturn, 1) := by decide +kernel
theorem dL_writeTrunk_0 : decode cL_writeTrunk 0 = .ok (.aload_n 2, 1) := by decide +kernel
theorem dL_writeTrunk_1 : decode cL_writeTrunk 1 = .ok (.iconst 0, 1) := by decide +kernel
theorem dL_writeTrunk_2 : decode cL_writeTrunk 2 = .ok (.aload_n 0, 1) := by decide +kernel
theorem dL_writeTrunk_3 : decode cL_writeTrunk 3 = .ok (.iload_n 1, 1) := by decide +kernel
theorem dL_writeTrunk_4 : decode cL_writeTrunk 4 = .ok (.invokevirtual 125, 3) := by decide +kernel
theorem dL_writeTrunk_7 : decode cL_writeTrunk 7 = .ok (.i2l, 1) := by decide +kernel
theorem dL_writeTrunk_8 : decode cL_writeTrunk 8 = .ok (.lastore, 1) := by decide +kernel
theorem dL_writeTrunk_9 : decode cL_writeTrunk 9 = .ok (.goto 6, 3) := by decide +kernel
theorem dL_writeTrunk_12 : decode cL_writeTrunk 12 = .ok (.astore_n 3, 1) := by decide +kernel
theorem dL_writeTrunk_13 : decode cL_writeTrunk 13 = .ok (.iconst 1, 1) := by decide +kernel
theorem dL_writeTrunk_14 : decode cL_writeTrunk 14 = .ok (.ireturn, 1) := by decide +kernel
theorem dL_writeTrunk_15 : decode cL_writeTrunk 15 = .ok (.iconst 0, 1) := by decide +kernel
theorem dL_writeTrunk_16 : decode cL_writeTrunk 16 = .ok (.ireturn, 1) := by decide +kernel
theorem dL_charAt_0 : decode cL_charAt 0 = .ok (.aload_n 2, 1) := by decide +kernel
theorem dL_charAt_1 : decode cL_charAt 1 = .ok (.iconst 0, 1) := by decide +kernel
theorem dL_charAt_2 : decode cL_charAt 2 = .ok (.aload_n 0, 1) := by decide +kernel
theorem dL_charAt_3 : decode cL_charAt 3 = .ok (.iload_n 1, 1) := by decide +kernel
theorem dL_charAt_4 : decode cL_charAt 4 = .ok (.invokevirtual 128, 3) := by decide +kernel
theorem dL_charAt_7 : decode cL_charAt 7 = .ok (.i2l, 1) := by decide +kernel
theorem dL_charAt_8 : decode cL_charAt 8 = .ok (.lastore, 1) := by decide +kernel
theorem dL_charAt_9 : decode cL_charAt 9 = .ok (.goto 6, 3) := by decide +kernel
theorem dL_charAt_12 : decode cL_charAt 12 = .ok (.astore_n 3, 1) := by decide +kernel
theorem dL_charAt_13 : decode cL_charAt 13 = .ok (.iconst 1, 1) := by decide +kernel
theorem dL_charAt_14 : decode cL_charAt 14 = .ok (.ireturn, 1) := by decide +kernel
theorem dL_charAt_15 : decode cL_charAt 15 = .ok (.iconst 0, 1) := by decide +kernel
theorem dL_charAt_16 : decode cL_charAt 16 = .ok (.ireturn, 1) := by decide +kernel
theorem dL_type_0 : decode cL_type 0 = .ok (.aload_n 2, 1) := by decide +kernel
theorem dL_type_1 : decode cL_type 1 = .ok (.iconst 0, 1) := by decide +kernel
theorem dL_type_2 : decode cL_type 2 = .ok (.aload_n 0, 1) := by decide +kernel
theorem dL_type_3 : decode cL_type 3 = .ok (.iload_n 1, 1) := by decide +kernel
theorem dL_type_4 : decode cL_type 4 = .ok (.invokevirtual 131, 3) := by decide +kernel
theorem dL_type_7 : decode cL_type 7 = .ok (.i2l, 1) := by decide +kernel
theorem dL_type_8 : decode cL_type 8 = .ok (.lastore, 1) := by decide +kernel
theorem dL_type_9 : decode cL_type 9 = .ok (.goto 6, 3) := by decide +kernel
theorem dL_type_12 : decode cL_type 12 = .ok (.astore_n 3, 1) := by decide +kernel
theorem dL_type_13 : decode cL_type 13 = .ok (.iconst 1, 1) := by decide +kernel
theorem dL_type_14 : decode cL_type 14 = .ok (.ireturn, 1) := by decide +kernel
theorem dL_type_15 : decode cL_type 15 = .ok (.iconst 0, 1) := by decide +kernel
theorem dL_type_16 : decode cL_type 16 = .ok (.ireturn, 1) := by decide +kernel
theorem dL_run_0 : decode cL_run 0 = .ok (.aload_n 1, 1) := by decide +kernel
theorem dL_run_1 : decode cL_run 1 = .ok (.iconst 0, 1) := by decide +kernel
theorem dL_run_2 : decode cL_run 2 = .ok (.aload_n 0, 1) := by decide +kernel
theorem dL_run_3 : decode cL_run 3 = .ok (.invokevirtual 135, 3) := by decide +kernel
theorem dL_run_6 : decode cL_run 6 = .ok (.i2l, 1) := by decide +kernel
theorem dL_run_7 : decode cL_run 7 = .ok (.lastore, 1) := by decide +kernel
theorem dL_run_8 : decode cL_run 8 = .ok (.goto 9, 3) := by decide +kernel
theorem dL_run_11 : decode cL_run 11 = .ok (.astore_n 2, 1) := by decide +kernel
theorem dL_run_12 : decode cL_run 12 = .ok (.iconst 1, 1) := by decide +kernel
theorem dL_run_13 : decode cL_run 13 = .ok (.ireturn, 1) := by decide +kernel
theorem dL_run_14 : decode cL_run 14 = .ok (.astore_n 2, 1) := by decide +kernel
theorem dL_run_15 : decode cL_run 15 = .ok (.iconst 2, 1) := by decide +kernel
theorem dL_run_16 : decode cL_run 16 = .ok (.ireturn, 1) := by decide +kernel
theorem dL_run_17 : decode cL_run 17 = .ok (.iconst 0, 1) := by decide +kernel
theorem dL_run_18 : decode cL_run 18 = .ok (.ireturn, 1) := by decide +kernel
theorem dL_errorPosition_0 : decode cL_errorPosition 0 = .ok (.aload_n 1, 1) := by decide +kernel
theorem dL_errorPosition_1 : decode cL_errorPosition 1 = .ok (.iconst 0, 1) := by decide +kernel
theorem dL_errorPosition_2 : decode cL_errorPosition 2 = .ok (.aload_n 0, 1) := by decide +kernel
theorem dL_errorPosition_3 : decode cL_errorPosition 3 = .ok (.invokevirtual 138, 3) := by decide +kernel
theorem dL_errorPosition_6 : decode cL_errorPosition 6 = .ok (.i2l, 1) := by decide +kernel
theorem dL_errorPosition_7 : decode cL_errorPosition 7 = .ok (.lastore, 1) := by decide +kernel
theorem dL_errorPosition_8 : decode cL_errorPosition 8 = .ok (.goto 6, 3) := by decide +kernel
theorem dL_errorPosition_11 : decode cL_errorPosition 11 = .ok (.astore_n 2, 1) := by decide +kernel
theorem dL_errorPosition_12 : decode cL_errorPosition 12 = .ok (.iconst 1, 1) := by decide +kernel
theorem dL_errorPosition_13 : decode cL_errorPosition 13 = .ok (.ireturn, 1) := by decide +kernel
theorem dL_errorPosition_14 : decode cL_errorPosition 14 = .ok (.iconst 0, 1) := by decide +kernel
theorem dL_errorPosition_15 : decode cL_errorPosition 15 = .ok (.ireturn, 1) := by decide +kernel
theorem dL_failedCommand_0 : decode cL_failedCommand 0 = .ok (.aload_n 1, 1) := by decide +kernel
theorem dL_failedCommand_1 : decode cL_failedCommand 1 = .ok (.iconst 0, 1) := by decide +kernel
theorem dL_failedCommand_2 : decode cL_failedCommand 2 = .ok (.aload_n 0, 1) := by decide +kernel
theorem dL_failedCommand_3 : decode cL_failedCommand 3 = .ok (.invokevirtual 141, 3) := by decide +kernel
theorem dL_failedCommand_6 : decode cL_failedCommand 6 = .ok (.i2l, 1) := by decide +kernel
theorem dL_failedCommand_7 : decode cL_failedCommand 7 = .ok (.lastore, 1) := by decide +kernel
theorem dL_failedCommand_8 : decode cL_failedCommand 8 = .ok (.goto 6, 3) := by decide +kernel
theorem dL_failedCommand_11 : decode cL_failedCommand 11 = .ok (.astore_n 2, 1) := by decide +kernel
theorem dL_failedCommand_12 : decode cL_failedCommand 12 = .ok (.iconst 1, 1) := by decide +kernel
theorem dL_failedCommand_13 : decode cL_failedCommand 13 = .ok (.ireturn, 1) := by decide +kernel
theorem dL_failedCommand_14 : decode cL_failedCommand 14 = .ok (.iconst 0, 1) := by decide +kernel
theorem dL_failedCommand_15 : decode cL_failedCommand 15 = .ok (.ireturn, 1) := by decide +kernel
theorem dL_undo_0 : decode cL_undo 0 = .ok (.aload_n 1, 1) := by decide +kernel
theorem dL_undo_1 : decode cL_undo 1 = .ok (.iconst 0, 1) := by decide +kernel
theorem dL_undo_2 : decode cL_undo 2 = .ok (.aload_n 0, 1) := by decide +kernel
theorem dL_undo_3 : decode cL_undo 3 = .ok (.invokevirtual 144, 3) := by decide +kernel
theorem dL_undo_6 : decode cL_undo 6 = .ok (.i2l, 1) := by decide +kernel
theorem dL_undo_7 : decode cL_undo 7 = .ok (.lastore, 1) := by decide +kernel
theorem dL_undo_8 : decode cL_undo 8 = .ok (.goto 6, 3) := by decide +kernel
theorem dL_undo_11 : decode cL_undo 11 = .ok (.astore_n 2, 1) := by decide +kernel
theorem dL_undo_12 : decode cL_undo 12 = .ok (.iconst 1, 1) := by decide +kernel
theorem dL_undo_13 : decode cL_undo 13 = .ok (.ireturn, 1) := by decide +kernel
theorem dL_undo_14 : decode cL_undo 14 = .ok (.iconst 0, 1) := by decide +kernel
theorem dL_undo_15 : decode cL_undo 15 = .ok (.ireturn, 1) := by decide +kernel
theorem dL_restore_0 : decode cL_restore 0 = .ok (.aload_n 1, 1) := by decide +kernel
theorem dL_restore_1 : decode cL_restore 1 = .ok (.iconst 0, 1) := by decide +kernel
theorem dL_restore_2 : decode cL_restore 2 = .ok (.aload_n 0, 1) := by decide +kernel
theorem dL_restore_3 : decode cL_restore 3 = .ok (.invokevirtual 147, 3) := by decide +kernel
theorem dL_restore_6 : decode cL_restore 6 = .ok (.i2l, 1) := by decide +kernel
theorem dL_restore_7 : decode cL_restore 7 = .ok (.lastore, 1) := by decide +kernel
theorem dL_restore_8 : decode cL_restore 8 = .ok (.goto 6, 3) := by decide +kernel
theorem dL_restore_11 : decode cL_restore 11 = .ok (.astore_n 2, 1) := by decide +kernel
theorem dL_restore_12 : decode cL_restore 12 = .ok (.iconst 1, 1) := by decide +kernel
theorem dL_restore_13 : decode cL_restore 13 = .ok (.ireturn, 1) := by decide +kernel
theorem dL_restore_14 : decode cL_restore 14 = .ok (.iconst 0, 1) := by decide +kernel
theorem dL_restore_15 : decode cL_restore 15 = .ok (.ireturn, 1) := by decide +kernel
