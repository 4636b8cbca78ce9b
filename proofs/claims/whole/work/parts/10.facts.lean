theorem wf_31 : Cond.initialized "jdk/internal/util/Preconditions" ∈ WT := wt_of (i := 31) (by decide +kernel) rfl
theorem wf_851 : Cond.code ⟨"jdk/internal/util/Preconditions", "checkIndex", "(IILjava/util/function/BiFunction;)I"⟩ prog_40_method_11_code 3 (some .int) ∈ WT := wt_of (i := 851) (by decide +kernel) rfl
theorem wf_850 : Cond.static ⟨"jdk/internal/util/Preconditions", "checkIndex", "(IILjava/util/function/BiFunction;)I"⟩ ∈ WT := wt_of (i := 850) (by decide +kernel) rfl
theorem fS_J3_checkIndex_8e157 : cfS ⟨"jdk/internal/util/Preconditions", "checkIndex", "(IILjava/util/function/BiFunction;)I"⟩ prog_40_method_11_code 3 (some .int) 3 := ⟨⟨⟨by decide +kernel, by decide +kernel, by decide +kernel⟩, wf_31, wf_851⟩, wf_850⟩
theorem wf_849 : Cond.methodLink "java/lang/String" 1059 ⟨"jdk/internal/util/Preconditions", "checkIndex", "(IILjava/util/function/BiFunction;)I"⟩ ∈ WT := wt_of (i := 849) (by decide +kernel) rfl
theorem wf_561 : Cond.fieldLink "java/lang/String" 1053 "jdk/internal/util/Preconditions" "SIOOBE_FORMATTER" "Ljava/util/function/BiFunction;" ∈ WT := wt_of (i := 561) (by decide +kernel) rfl
theorem wf_583 : Cond.fieldLink "java/lang/String" 38 "java/lang/String" "COMPACT_STRINGS" "Z" ∈ WT := wt_of (i := 583) (by decide +kernel) rfl
theorem wf_770 : Cond.fieldLink "java/lang/String" 15 "java/lang/String" "coder" "B" ∈ WT := wt_of (i := 770) (by decide +kernel) rfl
theorem wf_11 : Cond.initialized "java/lang/String" ∈ WT := wt_of (i := 11) (by decide +kernel) rfl
theorem wf_582 : Cond.code ⟨"java/lang/String", "coder", "()B"⟩ prog_27_method_152_code 1 (some .byte) ∈ WT := wt_of (i := 582) (by decide +kernel) rfl
theorem wf_580 : Cond.instanceMethod ⟨"java/lang/String", "coder", "()B"⟩ ∈ WT := wt_of (i := 580) (by decide +kernel) rfl
theorem wf_581 : Cond.selects "java/lang/String" ⟨"java/lang/String", "coder", "()B"⟩ ⟨"java/lang/String", "coder", "()B"⟩ ∈ WT := wt_of (i := 581) (by decide +kernel) rfl
theorem fV_J0_coder_7d493 : cfV ⟨"java/lang/String", "coder", "()B"⟩ prog_27_method_152_code 1 (some .byte) 0 := ⟨⟨⟨by decide +kernel, by decide +kernel, by decide +kernel⟩, wf_11, wf_582⟩, wf_580, wf_581⟩
theorem wf_1470 : Cond.code ⟨"java/lang/String", "isLatin1", "()Z"⟩ prog_27_method_154_code 1 (some .boolean) ∈ WT := wt_of (i := 1470) (by decide +kernel) rfl
theorem wf_1468 : Cond.instanceMethod ⟨"java/lang/String", "isLatin1", "()Z"⟩ ∈ WT := wt_of (i := 1468) (by decide +kernel) rfl
theorem wf_1469 : Cond.selects "java/lang/String" ⟨"java/lang/String", "isLatin1", "()Z"⟩ ⟨"java/lang/String", "isLatin1", "()Z"⟩ ∈ WT := wt_of (i := 1469) (by decide +kernel) rfl
theorem fV_J0_isLatin1_aae02 : cfV ⟨"java/lang/String", "isLatin1", "()Z"⟩ prog_27_method_154_code 1 (some .boolean) 0 := ⟨⟨⟨by decide +kernel, by decide +kernel, by decide +kernel⟩, wf_11, wf_1470⟩, wf_1468, wf_1469⟩
theorem wf_32 : Cond.initialized "java/lang/StringLatin1" ∈ WT := wt_of (i := 32) (by decide +kernel) rfl
theorem wf_1473 : Cond.code ⟨"java/lang/StringLatin1", "charAt", "([BI)C"⟩ prog_30_method_2_code 2 (some .char) ∈ WT := wt_of (i := 1473) (by decide +kernel) rfl
theorem wf_1472 : Cond.static ⟨"java/lang/StringLatin1", "charAt", "([BI)C"⟩ ∈ WT := wt_of (i := 1472) (by decide +kernel) rfl
theorem fS_J1_charAt_3b067 : cfS ⟨"java/lang/StringLatin1", "charAt", "([BI)C"⟩ prog_30_method_2_code 2 (some .char) 2 := ⟨⟨⟨by decide +kernel, by decide +kernel, by decide +kernel⟩, wf_32, wf_1473⟩, wf_1472⟩
theorem wf_848 : Cond.code ⟨"java/lang/String", "checkIndex", "(II)V"⟩ prog_27_method_155_code 2 none ∈ WT := wt_of (i := 848) (by decide +kernel) rfl
theorem wf_847 : Cond.static ⟨"java/lang/String", "checkIndex", "(II)V"⟩ ∈ WT := wt_of (i := 847) (by decide +kernel) rfl
theorem fS_J0_checkIndex_df160 : cfS ⟨"java/lang/String", "checkIndex", "(II)V"⟩ prog_27_method_155_code 2 none 2 := ⟨⟨⟨by decide +kernel, by decide +kernel, by decide +kernel⟩, wf_11, wf_848⟩, wf_847⟩
theorem wf_578 : Cond.code ⟨"java/lang/String", "length", "()I"⟩ prog_27_method_54_code 1 (some .int) ∈ WT := wt_of (i := 578) (by decide +kernel) rfl
theorem wf_576 : Cond.instanceMethod ⟨"java/lang/String", "length", "()I"⟩ ∈ WT := wt_of (i := 576) (by decide +kernel) rfl
theorem wf_577 : Cond.selects "java/lang/String" ⟨"java/lang/String", "length", "()I"⟩ ⟨"java/lang/String", "length", "()I"⟩ ∈ WT := wt_of (i := 577) (by decide +kernel) rfl
theorem fV_J0_length_8abf5 : cfV ⟨"java/lang/String", "length", "()I"⟩ prog_27_method_54_code 1 (some .int) 0 := ⟨⟨⟨by decide +kernel, by decide +kernel, by decide +kernel⟩, wf_11, wf_578⟩, wf_576, wf_577⟩
theorem wf_1466 : Cond.code ⟨"java/lang/String", "charAt", "(I)C"⟩ prog_27_method_56_code 2 (some .char) ∈ WT := wt_of (i := 1466) (by decide +kernel) rfl
theorem wf_1464 : Cond.instanceMethod ⟨"java/lang/String", "charAt", "(I)C"⟩ ∈ WT := wt_of (i := 1464) (by decide +kernel) rfl
theorem wf_1465 : Cond.selects "java/lang/String" ⟨"java/lang/String", "charAt", "(I)C"⟩ ⟨"java/lang/String", "charAt", "(I)C"⟩ ∈ WT := wt_of (i := 1465) (by decide +kernel) rfl
theorem fV_J0_charAt_5068e : cfV ⟨"java/lang/String", "charAt", "(I)C"⟩ prog_27_method_56_code 2 (some .char) 1 := ⟨⟨⟨by decide +kernel, by decide +kernel, by decide +kernel⟩, wf_11, wf_1466⟩, wf_1464, wf_1465⟩
theorem wf_769 : Cond.fieldLink "java/lang/String" 9 "java/lang/String" "value" "[B" ∈ WT := wt_of (i := 769) (by decide +kernel) rfl
theorem wf_579 : Cond.methodLink "java/lang/String" 335 ⟨"java/lang/String", "coder", "()B"⟩ ∈ WT := wt_of (i := 579) (by decide +kernel) rfl
theorem wf_1474 : Cond.methodLink "java/lang/StringLatin1" 9 ⟨"java/lang/String", "checkIndex", "(II)V"⟩ ∈ WT := wt_of (i := 1474) (by decide +kernel) rfl
theorem wf_1467 : Cond.methodLink "java/lang/String" 492 ⟨"java/lang/String", "isLatin1", "()Z"⟩ ∈ WT := wt_of (i := 1467) (by decide +kernel) rfl
theorem wf_1471 : Cond.methodLink "java/lang/String" 495 ⟨"java/lang/StringLatin1", "charAt", "([BI)C"⟩ ∈ WT := wt_of (i := 1471) (by decide +kernel) rfl
theorem wf_190 : Cond.fieldLink "Switchboard$BlockedCalls" 9 "Switchboard$BlockedCalls" "callers" "[I" ∈ WT := wt_of (i := 190) (by decide +kernel) rfl
theorem wf_188 : Cond.fieldLink "Switchboard$BlockedCalls" 22 "Switchboard$BlockedCalls" "count" "I" ∈ WT := wt_of (i := 188) (by decide +kernel) rfl
theorem wf_192 : Cond.fieldLink "Switchboard$BlockedCalls" 15 "Switchboard$BlockedCalls" "callees" "[I" ∈ WT := wt_of (i := 192) (by decide +kernel) rfl
theorem wf_194 : Cond.fieldLink "Switchboard$BlockedCalls" 18 "Switchboard$BlockedCalls" "reasons" "[C" ∈ WT := wt_of (i := 194) (by decide +kernel) rfl
theorem wf_927 : Cond.methodLink "Switchboard$BlockedCalls" 26 ⟨"Switchboard$BlockedCalls", "dropOldest", "()V"⟩ ∈ WT := wt_of (i := 927) (by decide +kernel) rfl
theorem wf_6 : Cond.initialized "Switchboard$BlockedCalls" ∈ WT := wt_of (i := 6) (by decide +kernel) rfl
theorem wf_930 : Cond.code ⟨"Switchboard$BlockedCalls", "dropOldest", "()V"⟩ prog_2_method_3_code 2 none ∈ WT := wt_of (i := 930) (by decide +kernel) rfl
theorem wf_929 : Cond.instanceMethod ⟨"Switchboard$BlockedCalls", "dropOldest", "()V"⟩ ∈ WT := wt_of (i := 929) (by decide +kernel) rfl
theorem fV_X0_dropOldest : cfV yX0_dropOldest cX0_dropOldest 2 none 0 := ⟨⟨⟨by decide +kernel, by decide +kernel, by decide +kernel⟩, wf_6, wf_930⟩, wf_929, (wt_sel (i := 12) (n := 4) (by decide +kernel))⟩
theorem wf_96 : Cond.fieldLink "Switchboard$Call" 15 "Switchboard$Call" "caller" "I" ∈ WT := wt_of (i := 96) (by decide +kernel) rfl
theorem wf_99 : Cond.fieldLink "Switchboard$Call" 19 "Switchboard$Call" "callee" "I" ∈ WT := wt_of (i := 99) (by decide +kernel) rfl
theorem wf_105 : Cond.fieldLink "Switchboard$Call" 22 "Switchboard$Call" "routeSize" "I" ∈ WT := wt_of (i := 105) (by decide +kernel) rfl
theorem wf_110 : Cond.fieldLink "Switchboard$Call" 9 "Switchboard$Call" "route" "[I" ∈ WT := wt_of (i := 110) (by decide +kernel) rfl
theorem wf_253 : Cond.fieldLink "Switchboard$Call" 25 "Switchboard$Router" "route" "[I" ∈ WT := wt_of (i := 253) (by decide +kernel) rfl
theorem wf_869 : Cond.methodLink "Switchboard" 383 ⟨"java/lang/Math", "min", "(II)I"⟩ ∈ WT := wt_of (i := 869) (by decide +kernel) rfl
theorem fm_min : Cond.static Lib.Math.min.name ∈ WT ∧ Cond.initialized "java/lang/Math" ∈ WT ∧ Cond.code Lib.Math.min.name Lib.Math.min.code 2 (some .int) ∈ WT := ⟨wt_of (i := 475) (by decide +kernel) rfl, wt_of (i := 22) (by decide +kernel) rfl, wt_of (i := 476) (by decide +kernel) rfl⟩
theorem wf_870 : Cond.methodLink "Switchboard" 458 ⟨"java/lang/System", "arraycopy", "(Ljava/lang/Object;ILjava/lang/Object;II)V"⟩ ∈ WT := wt_of (i := 870) (by decide +kernel) rfl
theorem fm_arraycopy : Cond.native arraycopyName ∈ WT ∧ Cond.static arraycopyName ∈ WT ∧ Cond.initialized "java/lang/System" ∈ WT := ⟨wt_of (i := 543) (by decide +kernel) rfl, wt_of (i := 542) (by decide +kernel) rfl, wt_of (i := 23) (by decide +kernel) rfl⟩
theorem wf_1 : Cond.initialized "Switchboard" ∈ WT := wt_of (i := 1) (by decide +kernel) rfl
theorem wf_868 : Cond.code ⟨"Switchboard", "copyRow", "([I[I)V"⟩ prog_1_method_69_code 2 none ∈ WT := wt_of (i := 868) (by decide +kernel) rfl
theorem wf_867 : Cond.static ⟨"Switchboard", "copyRow", "([I[I)V"⟩ ∈ WT := wt_of (i := 867) (by decide +kernel) rfl
theorem fS_X7_copyRow : cfS yX7_copyRow cX7_copyRow 2 none 2 := ⟨⟨⟨by decide +kernel, by decide +kernel, by decide +kernel⟩, wf_1, wf_868⟩, wf_867⟩
theorem wf_255 : Cond.fieldLink "Switchboard$Call" 32 "Switchboard$Router" "routeSize" "I" ∈ WT := wt_of (i := 255) (by decide +kernel) rfl
theorem wf_257 : Cond.fieldLink "Switchboard$Call" 33 "Switchboard$Router" "routeLength" "I" ∈ WT := wt_of (i := 257) (by decide +kernel) rfl
theorem wf_108 : Cond.fieldLink "Switchboard$Call" 36 "Switchboard$Call" "routeLength" "I" ∈ WT := wt_of (i := 108) (by decide +kernel) rfl
theorem wf_102 : Cond.fieldLink "Switchboard$Call" 37 "Switchboard$Call" "minutes" "I" ∈ WT := wt_of (i := 102) (by decide +kernel) rfl
theorem wf_53 : Cond.fieldLink "Switchboard$Network" 24 "Switchboard$Network" "switchCount" "I" ∈ WT := wt_of (i := 53) (by decide +kernel) rfl
theorem wf_57 : Cond.fieldLink "Switchboard$Network" 28 "Switchboard$Network" "trunkCount" "I" ∈ WT := wt_of (i := 57) (by decide +kernel) rfl
theorem wf_901 : Cond.methodLink "Switchboard$Network" 31 ⟨"Switchboard$Network", "hasSwitch", "(I)Z"⟩ ∈ WT := wt_of (i := 901) (by decide +kernel) rfl
theorem wf_3 : Cond.initialized "Switchboard$Network" ∈ WT := wt_of (i := 3) (by decide +kernel) rfl
theorem wf_457 : Cond.code ⟨"Switchboard$Network", "hasSwitch", "(I)Z"⟩ prog_5_method_2_code 2 (some .boolean) ∈ WT := wt_of (i := 457) (by decide +kernel) rfl
theorem wf_455 : Cond.instanceMethod ⟨"Switchboard$Network", "hasSwitch", "(I)Z"⟩ ∈ WT := wt_of (i := 455) (by decide +kernel) rfl
theorem wf_456 : Cond.selects "Switchboard$Network" ⟨"Switchboard$Network", "hasSwitch", "(I)Z"⟩ ⟨"Switchboard$Network", "hasSwitch", "(I)Z"⟩ ∈ WT := wt_of (i := 456) (by decide +kernel) rfl
theorem fV_X3_hasSwitch : cfV yX3_hasSwitch cX3_hasSwitch 2 (some .boolean) 1 := ⟨⟨⟨by decide +kernel, by decide +kernel, by decide +kernel⟩, wf_3, wf_457⟩, wf_455, wf_456⟩
theorem wf_953 : Cond.methodLink "Switchboard$Network" 35 ⟨"Switchboard$Network", "hasTrunk", "(I)Z"⟩ ∈ WT := wt_of (i := 953) (by decide +kernel) rfl
theorem wf_465 : Cond.code ⟨"Switchboard$Network", "hasTrunk", "(I)Z"⟩ prog_5_method_3_code 2 (some .boolean) ∈ WT := wt_of (i := 465) (by decide +kernel) rfl
theorem wf_463 : Cond.instanceMethod ⟨"Switchboard$Network", "hasTrunk", "(I)Z"⟩ ∈ WT := wt_of (i := 463) (by decide +kernel) rfl
theorem wf_464 : Cond.selects "Switchboard$Network" ⟨"Switchboard$Network", "hasTrunk", "(I)Z"⟩ ⟨"Switchboard$Network", "hasTrunk", "(I)Z"⟩ ∈ WT := wt_of (i := 464) (by decide +kernel) rfl
theorem fV_X3_hasTrunk : cfV yX3_hasTrunk cX3_hasTrunk 2 (some .boolean) 1 := ⟨⟨⟨by decide +kernel, by decide +kernel, by decide +kernel⟩, wf_3, wf_465⟩, wf_463, wf_464⟩
theorem wf_70 : Cond.fieldLink "Switchboard$Network" 38 "Switchboard$Network" "cutTrunks" "I" ∈ WT := wt_of (i := 70) (by decide +kernel) rfl
theorem wf_426 : Cond.code ⟨"Switchboard", "hasBit", "(II)Z"⟩ prog_1_method_68_code 2 (some .boolean) ∈ WT := wt_of (i := 426) (by decide +kernel) rfl
theorem wf_425 : Cond.static ⟨"Switchboard", "hasBit", "(II)Z"⟩ ∈ WT := wt_of (i := 425) (by decide +kernel) rfl
theorem fS_X7_hasBit : cfS yX7_hasBit cX7_hasBit 2 (some .boolean) 2 := ⟨⟨⟨by decide +kernel, by decide +kernel, by decide +kernel⟩, wf_1, wf_426⟩, wf_425⟩
theorem wf_59 : Cond.fieldLink "Switchboard$Network" 9 "Switchboard$Network" "ones" "[I" ∈ WT := wt_of (i := 59) (by decide +kernel) rfl
theorem wf_62 : Cond.fieldLink "Switchboard$Network" 15 "Switchboard$Network" "others" "[I" ∈ WT := wt_of (i := 62) (by decide +kernel) rfl
theorem wf_65 : Cond.fieldLink "Switchboard$Network" 18 "Switchboard$Network" "lengths" "[I" ∈ WT := wt_of (i := 65) (by decide +kernel) rfl
theorem wf_390 : Cond.code ⟨"Switchboard", "bit", "(I)I"⟩ prog_1_method_67_code 1 (some .int) ∈ WT := wt_of (i := 390) (by decide +kernel) rfl
theorem wf_389 : Cond.static ⟨"Switchboard", "bit", "(I)I"⟩ ∈ WT := wt_of (i := 389) (by decide +kernel) rfl
theorem fS_X7_bit : cfS yX7_bit cX7_bit 1 (some .int) 1 := ⟨⟨⟨by decide +kernel, by decide +kernel, by decide +kernel⟩, wf_1, wf_390⟩, wf_389⟩
theorem wf_1067 : Cond.constant "java/lang/Integer" 265 1431655765 ∈ WT := wt_of (i := 1067) (by decide +kernel) rfl
theorem wf_1068 : Cond.constant "java/lang/Integer" 266 858993459 ∈ WT := wt_of (i := 1068) (by decide +kernel) rfl
theorem wf_1069 : Cond.constant "java/lang/Integer" 267 252645135 ∈ WT := wt_of (i := 1069) (by decide +kernel) rfl
theorem wf_1064 : Cond.methodLink "Switchboard$Network" 49 ⟨"java/lang/Integer", "bitCount", "(I)I"⟩ ∈ WT := wt_of (i := 1064) (by decide +kernel) rfl
theorem wf_25 : Cond.initialized "java/lang/Integer" ∈ WT := wt_of (i := 25) (by decide +kernel) rfl
theorem wf_1066 : Cond.code ⟨"java/lang/Integer", "bitCount", "(I)I"⟩ prog_23_method_49_code 1 (some .int) ∈ WT := wt_of (i := 1066) (by decide +kernel) rfl
theorem wf_1065 : Cond.static ⟨"java/lang/Integer", "bitCount", "(I)I"⟩ ∈ WT := wt_of (i := 1065) (by decide +kernel) rfl
theorem fS_J6_bitCount_0f7a4 : cfS ⟨"java/lang/Integer", "bitCount", "(I)I"⟩ prog_23_method_49_code 1 (some .int) 1 := ⟨⟨⟨by decide +kernel, by decide +kernel, by decide +kernel⟩, wf_25, wf_1066⟩, wf_1065⟩
theorem wf_68 : Cond.fieldLink "Switchboard$Network" 21 "Switchboard$Network" "carried" "[I" ∈ WT := wt_of (i := 68) (by decide +kernel) rfl
theorem wf_128 : Cond.fieldLink "Switchboard$State" 35 "Switchboard$State" "subscriberCount" "I" ∈ WT := wt_of (i := 128) (by decide +kernel) rfl
theorem wf_935 : Cond.methodLink "Switchboard$State" 39 ⟨"Switchboard$State", "hasSubscriber", "(I)Z"⟩ ∈ WT := wt_of (i := 935) (by decide +kernel) rfl
theorem wf_2 : Cond.initialized "Switchboard$State" ∈ WT := wt_of (i := 2) (by decide +kernel) rfl
theorem wf_914 : Cond.code ⟨"Switchboard$State", "hasSubscriber", "(I)Z"⟩ prog_8_method_2_code 2 (some .boolean) ∈ WT := wt_of (i := 914) (by decide +kernel) rfl
theorem wf_912 : Cond.instanceMethod ⟨"Switchboard$State", "hasSubscriber", "(I)Z"⟩ ∈ WT := wt_of (i := 912) (by decide +kernel) rfl
theorem wf_913 : Cond.selects "Switchboard$State" ⟨"Switchboard$State", "hasSubscriber", "(I)Z"⟩ ⟨"Switchboard$State", "hasSubscriber", "(I)Z"⟩ ∈ WT := wt_of (i := 913) (by decide +kernel) rfl
theorem fV_X6_hasSubscriber : cfV yX6_hasSubscriber cX6_hasSubscriber 2 (some .boolean) 1 := ⟨⟨⟨by decide +kernel, by decide +kernel, by decide +kernel⟩, wf_2, wf_914⟩, wf_912, wf_913⟩
theorem wf_130 : Cond.fieldLink "Switchboard$State" 18 "Switchboard$State" "homes" "[I" ∈ WT := wt_of (i := 130) (by decide +kernel) rfl
theorem wf_126 : Cond.fieldLink "Switchboard$State" 12 "Switchboard$State" "network" "LSwitchboard$Network;" ∈ WT := wt_of (i := 126) (by decide +kernel) rfl
theorem wf_906 : Cond.methodLink "Switchboard$State" 43 ⟨"Switchboard$Network", "hasSwitch", "(I)Z"⟩ ∈ WT := wt_of (i := 906) (by decide +kernel) rfl
theorem wf_135 : Cond.fieldLink "Switchboard$State" 50 "Switchboard$State" "callCount" "I" ∈ WT := wt_of (i := 135) (by decide +kernel) rfl
theorem wf_137 : Cond.fieldLink "Switchboard$State" 30 "Switchboard$State" "calls" "[LSwitchboard$Call;" ∈ WT := wt_of (i := 137) (by decide +kernel) rfl
theorem wf_919 : Cond.methodLink "Switchboard$State" 53 ⟨"Switchboard$Call", "isOf", "(I)Z"⟩ ∈ WT := wt_of (i := 919) (by decide +kernel) rfl
theorem wf_4 : Cond.initialized "Switchboard$Call" ∈ WT := wt_of (i := 4) (by decide +kernel) rfl
theorem wf_922 : Cond.code ⟨"Switchboard$Call", "isOf", "(I)Z"⟩ prog_3_method_2_code 2 (some .boolean) ∈ WT := wt_of (i := 922) (by decide +kernel) rfl
theorem wf_920 : Cond.instanceMethod ⟨"Switchboard$Call", "isOf", "(I)Z"⟩ ∈ WT := wt_of (i := 920) (by decide +kernel) rfl
theorem wf_921 : Cond.selects "Switchboard$Call" ⟨"Switchboard$Call", "isOf", "(I)Z"⟩ ⟨"Switchboard$Call", "isOf", "(I)Z"⟩ ∈ WT := wt_of (i := 921) (by decide +kernel) rfl
theorem fV_X1_isOf : cfV yX1_isOf cX1_isOf 2 (some .boolean) 1 := ⟨⟨⟨by decide +kernel, by decide +kernel, by decide +kernel⟩, wf_4, wf_922⟩, wf_920, wf_921⟩
theorem wf_948 : Cond.methodLink "Switchboard$State" 46 ⟨"Switchboard$State", "callIndexOf", "(I)I"⟩ ∈ WT := wt_of (i := 948) (by decide +kernel) rfl
theorem wf_918 : Cond.code ⟨"Switchboard$State", "callIndexOf", "(I)I"⟩ prog_8_method_7_code 3 (some .int) ∈ WT := wt_of (i := 918) (by decide +kernel) rfl
theorem wf_916 : Cond.instanceMethod ⟨"Switchboard$State", "callIndexOf", "(I)I"⟩ ∈ WT := wt_of (i := 916) (by decide +kernel) rfl
theorem wf_917 : Cond.selects "Switchboard$State" ⟨"Switchboard$State", "callIndexOf", "(I)I"⟩ ⟨"Switchboard$State", "callIndexOf", "(I)I"⟩ ∈ WT := wt_of (i := 917) (by decide +kernel) rfl
theorem fV_X6_callIndexOf : cfV yX6_callIndexOf cX6_callIndexOf 3 (some .int) 1 := ⟨⟨⟨by decide +kernel, by decide +kernel, by decide +kernel⟩, wf_2, wf_918⟩, wf_916, wf_917⟩
theorem wf_131 : Cond.fieldLink "Switchboard$State" 22 "Switchboard$State" "tariffs" "[I" ∈ WT := wt_of (i := 131) (by decide +kernel) rfl
theorem wf_395 : Cond.methodLink "Switchboard$State" 56 ⟨"Switchboard$Call", "trunkBits", "()I"⟩ ∈ WT := wt_of (i := 395) (by decide +kernel) rfl
theorem wf_398 : Cond.code ⟨"Switchboard$Call", "trunkBits", "()I"⟩ prog_3_method_3_code 3 (some .int) ∈ WT := wt_of (i := 398) (by decide +kernel) rfl
theorem wf_396 : Cond.instanceMethod ⟨"Switchboard$Call", "trunkBits", "()I"⟩ ∈ WT := wt_of (i := 396) (by decide +kernel) rfl
theorem wf_397 : Cond.selects "Switchboard$Call" ⟨"Switchboard$Call", "trunkBits", "()I"⟩ ⟨"Switchboard$Call", "trunkBits", "()I"⟩ ∈ WT := wt_of (i := 397) (by decide +kernel) rfl
theorem fV_X1_trunkBits : cfV yX1_trunkBits cX1_trunkBits 3 (some .int) 0 := ⟨⟨⟨by decide +kernel, by decide +kernel, by decide +kernel⟩, wf_4, wf_398⟩, wf_396, wf_397⟩
theorem wf_384 : Cond.methodLink "Switchboard$State" 64 ⟨"Switchboard$Network", "allTrunks", "()I"⟩ ∈ WT := wt_of (i := 384) (by decide +kernel) rfl
theorem wf_387 : Cond.code ⟨"Switchboard$Network", "allTrunks", "()I"⟩ prog_5_method_12_code 1 (some .int) ∈ WT := wt_of (i := 387) (by decide +kernel) rfl
theorem wf_385 : Cond.instanceMethod ⟨"Switchboard$Network", "allTrunks", "()I"⟩ ∈ WT := wt_of (i := 385) (by decide +kernel) rfl
theorem wf_386 : Cond.selects "Switchboard$Network" ⟨"Switchboard$Network", "allTrunks", "()I"⟩ ⟨"Switchboard$Network", "allTrunks", "()I"⟩ ∈ WT := wt_of (i := 386) (by decide +kernel) rfl
theorem fV_X3_allTrunks : cfV yX3_allTrunks cX3_allTrunks 1 (some .int) 0 := ⟨⟨⟨by decide +kernel, by decide +kernel, by decide +kernel⟩, wf_3, wf_387⟩, wf_385, wf_386⟩
theorem wf_71 : Cond.fieldLink "Switchboard$State" 67 "Switchboard$Network" "cutTrunks" "I" ∈ WT := wt_of (i := 71) (by decide +kernel) rfl
theorem wf_391 : Cond.methodLink "Switchboard$State" 70 ⟨"Switchboard$State", "usedTrunks", "()I"⟩ ∈ WT := wt_of (i := 391) (by decide +kernel) rfl
theorem wf_394 : Cond.code ⟨"Switchboard$State", "usedTrunks", "()I"⟩ prog_8_method_9_code 3 (some .int) ∈ WT := wt_of (i := 394) (by decide +kernel) rfl
theorem wf_392 : Cond.instanceMethod ⟨"Switchboard$State", "usedTrunks", "()I"⟩ ∈ WT := wt_of (i := 392) (by decide +kernel) rfl
theorem wf_393 : Cond.selects "Switchboard$State" ⟨"Switchboard$State", "usedTrunks", "()I"⟩ ⟨"Switchboard$State", "usedTrunks", "()I"⟩ ∈ WT := wt_of (i := 393) (by decide +kernel) rfl
theorem fV_X6_usedTrunks : cfV yX6_usedTrunks cX6_usedTrunks 3 (some .int) 0 := ⟨⟨⟨by decide +kernel, by decide +kernel, by decide +kernel⟩, wf_2, wf_394⟩, wf_392, wf_393⟩
theorem wf_97 : Cond.fieldLink "Switchboard$State" 73 "Switchboard$Call" "caller" "I" ∈ WT := wt_of (i := 97) (by decide +kernel) rfl
theorem wf_100 : Cond.fieldLink "Switchboard$State" 76 "Switchboard$Call" "callee" "I" ∈ WT := wt_of (i := 100) (by decide +kernel) rfl
theorem wf_103 : Cond.fieldLink "Switchboard$State" 79 "Switchboard$Call" "minutes" "I" ∈ WT := wt_of (i := 103) (by decide +kernel) rfl
theorem wf_1036 : Cond.methodLink "Switchboard$State" 82 ⟨"Switchboard$Call", "takeRoute", "(LSwitchboard$Router;)V"⟩ ∈ WT := wt_of (i := 1036) (by decide +kernel) rfl
theorem wf_1039 : Cond.code ⟨"Switchboard$Call", "takeRoute", "(LSwitchboard$Router;)V"⟩ prog_3_method_4_code 2 none ∈ WT := wt_of (i := 1039) (by decide +kernel) rfl
theorem wf_1037 : Cond.instanceMethod ⟨"Switchboard$Call", "takeRoute", "(LSwitchboard$Router;)V"⟩ ∈ WT := wt_of (i := 1037) (by decide +kernel) rfl
theorem wf_1038 : Cond.selects "Switchboard$Call" ⟨"Switchboard$Call", "takeRoute", "(LSwitchboard$Router;)V"⟩ ⟨"Switchboard$Call", "takeRoute", "(LSwitchboard$Router;)V"⟩ ∈ WT := wt_of (i := 1038) (by decide +kernel) rfl
theorem fV_X1_takeRoute : cfV yX1_takeRoute cX1_takeRoute 2 none 1 := ⟨⟨⟨by decide +kernel, by decide +kernel, by decide +kernel⟩, wf_4, wf_1039⟩, wf_1037, wf_1038⟩
theorem wf_109 : Cond.fieldLink "Switchboard$State" 86 "Switchboard$Call" "routeLength" "I" ∈ WT := wt_of (i := 109) (by decide +kernel) rfl
theorem wf_872 : Cond.methodLink "Switchboard$State" 100 ⟨"Switchboard$Call", "copyFrom", "(LSwitchboard$Call;)V"⟩ ∈ WT := wt_of (i := 872) (by decide +kernel) rfl
theorem wf_875 : Cond.code ⟨"Switchboard$Call", "copyFrom", "(LSwitchboard$Call;)V"⟩ prog_3_method_5_code 2 none ∈ WT := wt_of (i := 875) (by decide +kernel) rfl
theorem wf_873 : Cond.instanceMethod ⟨"Switchboard$Call", "copyFrom", "(LSwitchboard$Call;)V"⟩ ∈ WT := wt_of (i := 873) (by decide +kernel) rfl
theorem wf_874 : Cond.selects "Switchboard$Call" ⟨"Switchboard$Call", "copyFrom", "(LSwitchboard$Call;)V"⟩ ⟨"Switchboard$Call", "copyFrom", "(LSwitchboard$Call;)V"⟩ ∈ WT := wt_of (i := 874) (by decide +kernel) rfl
theorem fV_X1_copyFrom : cfV yX1_copyFrom cX1_copyFrom 2 none 1 := ⟨⟨⟨by decide +kernel, by decide +kernel, by decide +kernel⟩, wf_4, wf_875⟩, wf_873, wf_874⟩
theorem wf_139 : Cond.fieldLink "Switchboard$State" 93 "Switchboard$State" "charged" "J" ∈ WT := wt_of (i := 139) (by decide +kernel) rfl
theorem wf_141 : Cond.fieldLink "Switchboard$State" 97 "Switchboard$State" "endedCalls" "I" ∈ WT := wt_of (i := 141) (by decide +kernel) rfl
theorem wf_1044 : Cond.methodLink "Switchboard$State" 89 ⟨"Switchboard$State", "chargeOf", "(LSwitchboard$Call;)I"⟩ ∈ WT := wt_of (i := 1044) (by decide +kernel) rfl
theorem wf_1047 : Cond.code ⟨"Switchboard$State", "chargeOf", "(LSwitchboard$Call;)I"⟩ prog_8_method_12_code 4 (some .int) ∈ WT := wt_of (i := 1047) (by decide +kernel) rfl
theorem wf_1045 : Cond.instanceMethod ⟨"Switchboard$State", "chargeOf", "(LSwitchboard$Call;)I"⟩ ∈ WT := wt_of (i := 1045) (by decide +kernel) rfl
theorem wf_1046 : Cond.selects "Switchboard$State" ⟨"Switchboard$State", "chargeOf", "(LSwitchboard$Call;)I"⟩ ⟨"Switchboard$State", "chargeOf", "(LSwitchboard$Call;)I"⟩ ∈ WT := wt_of (i := 1046) (by decide +kernel) rfl
theorem fV_X6_chargeOf : cfV yX6_chargeOf cX6_chargeOf 4 (some .int) 1 := ⟨⟨⟨by decide +kernel, by decide +kernel, by decide +kernel⟩, wf_2, wf_1047⟩, wf_1045, wf_1046⟩
theorem wf_133 : Cond.fieldLink "Switchboard$State" 25 "Switchboard$State" "bills" "[I" ∈ WT := wt_of (i := 133) (by decide +kernel) rfl
theorem wf_106 : Cond.fieldLink "Switchboard$State" 104 "Switchboard$Call" "routeSize" "I" ∈ WT := wt_of (i := 106) (by decide +kernel) rfl
theorem wf_111 : Cond.fieldLink "Switchboard$State" 107 "Switchboard$Call" "route" "[I" ∈ WT := wt_of (i := 111) (by decide +kernel) rfl
theorem wf_1074 : Cond.methodLink "Switchboard$State" 110 ⟨"Switchboard$Network", "countMinutes", "(II)V"⟩ ∈ WT := wt_of (i := 1074) (by decide +kernel) rfl
theorem wf_1077 : Cond.code ⟨"Switchboard$Network", "countMinutes", "(II)V"⟩ prog_5_method_11_code 3 none ∈ WT := wt_of (i := 1077) (by decide +kernel) rfl
theorem wf_1075 : Cond.instanceMethod ⟨"Switchboard$Network", "countMinutes", "(II)V"⟩ ∈ WT := wt_of (i := 1075) (by decide +kernel) rfl
theorem wf_1076 : Cond.selects "Switchboard$Network" ⟨"Switchboard$Network", "countMinutes", "(II)V"⟩ ⟨"Switchboard$Network", "countMinutes", "(II)V"⟩ ∈ WT := wt_of (i := 1076) (by decide +kernel) rfl
theorem fV_X3_countMinutes : cfV yX3_countMinutes cX3_countMinutes 3 none 2 := ⟨⟨⟨by decide +kernel, by decide +kernel, by decide +kernel⟩, wf_3, wf_1077⟩, wf_1075, wf_1076⟩
theorem wf_862 : Cond.methodLink "Switchboard$State" 114 ⟨"Switchboard$Network", "copyFrom", "(LSwitchboard$Network;)V"⟩ ∈ WT := wt_of (i := 862) (by decide +kernel) rfl
theorem wf_865 : Cond.code ⟨"Switchboard$Network", "copyFrom", "(LSwitchboard$Network;)V"⟩ prog_5_method_13_code 2 none ∈ WT := wt_of (i := 865) (by decide +kernel) rfl
theorem wf_863 : Cond.instanceMethod ⟨"Switchboard$Network", "copyFrom", "(LSwitchboard$Network;)V"⟩ ∈ WT := wt_of (i := 863) (by decide +kernel) rfl
theorem wf_864 : Cond.selects "Switchboard$Network" ⟨"Switchboard$Network", "copyFrom", "(LSwitchboard$Network;)V"⟩ ⟨"Switchboard$Network", "copyFrom", "(LSwitchboard$Network;)V"⟩ ∈ WT := wt_of (i := 864) (by decide +kernel) rfl
theorem fV_X3_copyFrom : cfV yX3_copyFrom cX3_copyFrom 2 none 1 := ⟨⟨⟨by decide +kernel, by decide +kernel, by decide +kernel⟩, wf_3, wf_865⟩, wf_863, wf_864⟩
theorem wf_56 : Cond.fieldLink "Switchboard$Router" 53 "Switchboard$Network" "trunkCount" "I" ∈ WT := wt_of (i := 56) (by decide +kernel) rfl
theorem wf_427 : Cond.methodLink "Switchboard$Router" 47 ⟨"Switchboard$Network", "acrossFrom", "(II)I"⟩ ∈ WT := wt_of (i := 427) (by decide +kernel) rfl
theorem wf_430 : Cond.code ⟨"Switchboard$Network", "acrossFrom", "(II)I"⟩ prog_5_method_10_code 3 (some .int) ∈ WT := wt_of (i := 430) (by decide +kernel) rfl
theorem wf_428 : Cond.instanceMethod ⟨"Switchboard$Network", "acrossFrom", "(II)I"⟩ ∈ WT := wt_of (i := 428) (by decide +kernel) rfl
theorem wf_429 : Cond.selects "Switchboard$Network" ⟨"Switchboard$Network", "acrossFrom", "(II)I"⟩ ⟨"Switchboard$Network", "acrossFrom", "(II)I"⟩ ∈ WT := wt_of (i := 429) (by decide +kernel) rfl
theorem fV_X3_acrossFrom : cfV yX3_acrossFrom cX3_acrossFrom 3 (some .int) 2 := ⟨⟨⟨by decide +kernel, by decide +kernel, by decide +kernel⟩, wf_3, wf_430⟩, wf_428, wf_429⟩
theorem wf_411 : Cond.constant "Switchboard$Router" 39 1000000 ∈ WT := wt_of (i := 411) (by decide +kernel) rfl
theorem wf_258 : Cond.fieldLink "Switchboard$Router" 15 "Switchboard$Router" "distances" "[I" ∈ WT := wt_of (i := 258) (by decide +kernel) rfl
theorem wf_431 : Cond.methodLink "Switchboard$Router" 35 ⟨"Switchboard$Router", "distanceOf", "(I)I"⟩ ∈ WT := wt_of (i := 431) (by decide +kernel) rfl
theorem wf_8 : Cond.initialized "Switchboard$Router" ∈ WT := wt_of (i := 8) (by decide +kernel) rfl
theorem wf_434 : Cond.code ⟨"Switchboard$Router", "distanceOf", "(I)I"⟩ prog_7_method_8_code 2 (some .int) ∈ WT := wt_of (i := 434) (by decide +kernel) rfl
theorem wf_433 : Cond.instanceMethod ⟨"Switchboard$Router", "distanceOf", "(I)I"⟩ ∈ WT := wt_of (i := 433) (by decide +kernel) rfl
theorem fV_X5_distanceOf : cfV yX5_distanceOf cX5_distanceOf 2 (some .int) 1 := ⟨⟨⟨by decide +kernel, by decide +kernel, by decide +kernel⟩, wf_8, wf_434⟩, wf_433, (wt_sel (i := 3) (n := 7) (by decide +kernel))⟩
theorem wf_66 : Cond.fieldLink "Switchboard$Router" 60 "Switchboard$Network" "lengths" "[I" ∈ WT := wt_of (i := 66) (by decide +kernel) rfl
theorem wf_435 : Cond.methodLink "Switchboard$Router" 63 ⟨"Switchboard$Router", "keyOf", "(I)I"⟩ ∈ WT := wt_of (i := 435) (by decide +kernel) rfl
theorem wf_437 : Cond.code ⟨"Switchboard$Router", "keyOf", "(I)I"⟩ prog_7_method_6_code 1 (some .int) ∈ WT := wt_of (i := 437) (by decide +kernel) rfl
theorem wf_436 : Cond.static ⟨"Switchboard$Router", "keyOf", "(I)I"⟩ ∈ WT := wt_of (i := 436) (by decide +kernel) rfl
theorem fS_X5_keyOf : cfS yX5_keyOf cX5_keyOf 1 (some .int) 1 := ⟨⟨⟨by decide +kernel, by decide +kernel, by decide +kernel⟩, wf_8, wf_437⟩, wf_436⟩
theorem wf_940 : Cond.methodLink "Switchboard$Router" 43 ⟨"Switchboard$Router", "firstTrunkToGoal", "(LSwitchboard$Network;II)I"⟩ ∈ WT := wt_of (i := 940) (by decide +kernel) rfl
theorem wf_943 : Cond.code ⟨"Switchboard$Router", "firstTrunkToGoal", "(LSwitchboard$Network;II)I"⟩ prog_7_method_3_code 6 (some .int) ∈ WT := wt_of (i := 943) (by decide +kernel) rfl
theorem wf_942 : Cond.instanceMethod ⟨"Switchboard$Router", "firstTrunkToGoal", "(LSwitchboard$Network;II)I"⟩ ∈ WT := wt_of (i := 942) (by decide +kernel) rfl
theorem fV_X5_firstTrunkToGoal : cfV yX5_firstTrunkToGoal cX5_firstTrunkToGoal 6 (some .int) 3 := ⟨⟨⟨by decide +kernel, by decide +kernel, by decide +kernel⟩, wf_8, wf_943⟩, wf_942, (wt_sel (i := 13) (n := 7) (by decide +kernel))⟩
theorem wf_252 : Cond.fieldLink "Switchboard$Router" 9 "Switchboard$Router" "route" "[I" ∈ WT := wt_of (i := 252) (by decide +kernel) rfl
theorem wf_254 : Cond.fieldLink "Switchboard$Router" 31 "Switchboard$Router" "routeSize" "I" ∈ WT := wt_of (i := 254) (by decide +kernel) rfl
theorem wf_415 : Cond.methodLink "Switchboard$Router" 72 ⟨"Switchboard$Router", "shorten", "(II)V"⟩ ∈ WT := wt_of (i := 415) (by decide +kernel) rfl
theorem wf_418 : Cond.code ⟨"Switchboard$Router", "shorten", "(II)V"⟩ prog_7_method_9_code 3 none ∈ WT := wt_of (i := 418) (by decide +kernel) rfl
theorem wf_417 : Cond.instanceMethod ⟨"Switchboard$Router", "shorten", "(II)V"⟩ ∈ WT := wt_of (i := 417) (by decide +kernel) rfl
theorem fV_X5_shorten : cfV yX5_shorten cX5_shorten 3 none 2 := ⟨⟨⟨by decide +kernel, by decide +kernel, by decide +kernel⟩, wf_8, wf_418⟩, wf_417, (wt_sel (i := 1) (n := 7) (by decide +kernel))⟩
theorem wf_54 : Cond.fieldLink "Switchboard$Router" 76 "Switchboard$Network" "switchCount" "I" ∈ WT := wt_of (i := 54) (by decide +kernel) rfl
theorem wf_419 : Cond.methodLink "Switchboard$Router" 79 ⟨"Switchboard$Router", "nearestUnsettled", "(I)I"⟩ ∈ WT := wt_of (i := 419) (by decide +kernel) rfl
theorem wf_422 : Cond.code ⟨"Switchboard$Router", "nearestUnsettled", "(I)I"⟩ prog_7_method_7_code 5 (some .int) ∈ WT := wt_of (i := 422) (by decide +kernel) rfl
theorem wf_421 : Cond.instanceMethod ⟨"Switchboard$Router", "nearestUnsettled", "(I)I"⟩ ∈ WT := wt_of (i := 421) (by decide +kernel) rfl
theorem fV_X5_nearestUnsettled : cfV yX5_nearestUnsettled cX5_nearestUnsettled 5 (some .int) 1 := ⟨⟨⟨by decide +kernel, by decide +kernel, by decide +kernel⟩, wf_8, wf_422⟩, wf_421, (wt_sel (i := 2) (n := 7) (by decide +kernel))⟩
theorem wf_412 : Cond.methodLink "Switchboard$Router" 66 ⟨"java/util/Arrays", "fill", "([II)V"⟩ ∈ WT := wt_of (i := 412) (by decide +kernel) rfl
theorem wf_14 : Cond.initialized "java/util/Arrays" ∈ WT := wt_of (i := 14) (by decide +kernel) rfl
theorem wf_414 : Cond.code ⟨"java/util/Arrays", "fill", "([II)V"⟩ prog_37_method_103_code 4 none ∈ WT := wt_of (i := 414) (by decide +kernel) rfl
theorem wf_413 : Cond.static ⟨"java/util/Arrays", "fill", "([II)V"⟩ ∈ WT := wt_of (i := 413) (by decide +kernel) rfl
theorem fS_J7_fill_53178 : cfS ⟨"java/util/Arrays", "fill", "([II)V"⟩ prog_37_method_103_code 4 none 2 := ⟨⟨⟨by decide +kernel, by decide +kernel, by decide +kernel⟩, wf_14, wf_414⟩, wf_413⟩
theorem wf_407 : Cond.methodLink "Switchboard$Router" 27 ⟨"Switchboard$Router", "measure", "(LSwitchboard$Network;II)V"⟩ ∈ WT := wt_of (i := 407) (by decide +kernel) rfl
theorem wf_410 : Cond.code ⟨"Switchboard$Router", "measure", "(LSwitchboard$Network;II)V"⟩ prog_7_method_5_code 8 none ∈ WT := wt_of (i := 410) (by decide +kernel) rfl
theorem wf_409 : Cond.instanceMethod ⟨"Switchboard$Router", "measure", "(LSwitchboard$Network;II)V"⟩ ∈ WT := wt_of (i := 409) (by decide +kernel) rfl
theorem fV_X5_measure : cfV yX5_measure cX5_measure 8 none 3 := ⟨⟨⟨by decide +kernel, by decide +kernel, by decide +kernel⟩, wf_8, wf_410⟩, wf_409, (wt_sel (i := 0) (n := 7) (by decide +kernel))⟩
theorem wf_256 : Cond.fieldLink "Switchboard$Router" 40 "Switchboard$Router" "routeLength" "I" ∈ WT := wt_of (i := 256) (by decide +kernel) rfl
theorem wf_60 : Cond.fieldLink "Switchboard$Router" 85 "Switchboard$Network" "ones" "[I" ∈ WT := wt_of (i := 60) (by decide +kernel) rfl
theorem wf_63 : Cond.fieldLink "Switchboard$Router" 88 "Switchboard$Network" "others" "[I" ∈ WT := wt_of (i := 63) (by decide +kernel) rfl
theorem wf_259 : Cond.fieldLink "Switchboard$Router" 18 "Switchboard$Router" "flows" "[I" ∈ WT := wt_of (i := 259) (by decide +kernel) rfl
theorem wf_450 : Cond.methodLink "Switchboard$Router" 98 ⟨"Switchboard$Router", "hasRoom", "(LSwitchboard$Network;II)Z"⟩ ∈ WT := wt_of (i := 450) (by decide +kernel) rfl
theorem wf_453 : Cond.code ⟨"Switchboard$Router", "hasRoom", "(LSwitchboard$Network;II)Z"⟩ prog_7_method_13_code 4 (some .boolean) ∈ WT := wt_of (i := 453) (by decide +kernel) rfl
theorem wf_452 : Cond.instanceMethod ⟨"Switchboard$Router", "hasRoom", "(LSwitchboard$Network;II)Z"⟩ ∈ WT := wt_of (i := 452) (by decide +kernel) rfl
theorem fV_X5_hasRoom : cfV yX5_hasRoom cX5_hasRoom 4 (some .boolean) 3 := ⟨⟨⟨by decide +kernel, by decide +kernel, by decide +kernel⟩, wf_8, wf_453⟩, wf_452, (wt_sel (i := 5) (n := 7) (by decide +kernel))⟩
theorem wf_454 : Cond.methodLink "Switchboard$Router" 102 ⟨"Switchboard$Network", "hasSwitch", "(I)Z"⟩ ∈ WT := wt_of (i := 454) (by decide +kernel) rfl
theorem wf_261 : Cond.fieldLink "Switchboard$Router" 24 "Switchboard$Router" "arrivals" "[I" ∈ WT := wt_of (i := 261) (by decide +kernel) rfl
theorem wf_260 : Cond.fieldLink "Switchboard$Router" 21 "Switchboard$Router" "queue" "[I" ∈ WT := wt_of (i := 260) (by decide +kernel) rfl
theorem wf_446 : Cond.methodLink "Switchboard$Router" 91 ⟨"Switchboard$Router", "search", "(LSwitchboard$Network;III)Z"⟩ ∈ WT := wt_of (i := 446) (by decide +kernel) rfl
theorem wf_449 : Cond.code ⟨"Switchboard$Router", "search", "(LSwitchboard$Network;III)Z"⟩ prog_7_method_12_code 11 (some .boolean) ∈ WT := wt_of (i := 449) (by decide +kernel) rfl
theorem wf_448 : Cond.instanceMethod ⟨"Switchboard$Router", "search", "(LSwitchboard$Network;III)Z"⟩ ∈ WT := wt_of (i := 448) (by decide +kernel) rfl
theorem fV_X5_search : cfV yX5_search cX5_search 11 (some .boolean) 4 := ⟨⟨⟨by decide +kernel, by decide +kernel, by decide +kernel⟩, wf_8, wf_449⟩, wf_448, (wt_sel (i := 4) (n := 7) (by decide +kernel))⟩
theorem wf_462 : Cond.methodLink "Switchboard$Router" 106 ⟨"Switchboard$Network", "hasTrunk", "(I)Z"⟩ ∈ WT := wt_of (i := 462) (by decide +kernel) rfl
theorem wf_458 : Cond.methodLink "Switchboard$Router" 95 ⟨"Switchboard$Router", "augment", "(LSwitchboard$Network;II)V"⟩ ∈ WT := wt_of (i := 458) (by decide +kernel) rfl
theorem wf_461 : Cond.code ⟨"Switchboard$Router", "augment", "(LSwitchboard$Network;II)V"⟩ prog_7_method_14_code 8 none ∈ WT := wt_of (i := 461) (by decide +kernel) rfl
theorem wf_460 : Cond.instanceMethod ⟨"Switchboard$Router", "augment", "(LSwitchboard$Network;II)V"⟩ ∈ WT := wt_of (i := 460) (by decide +kernel) rfl
theorem fV_X5_augment : cfV yX5_augment cX5_augment 8 none 3 := ⟨⟨⟨by decide +kernel, by decide +kernel, by decide +kernel⟩, wf_8, wf_461⟩, wf_460, (wt_sel (i := 6) (n := 7) (by decide +kernel))⟩
theorem wf_470 : Cond.methodLink "Switchboard$Router" 109 ⟨"Switchboard$Router", "countLeaving", "(LSwitchboard$Network;II)I"⟩ ∈ WT := wt_of (i := 470) (by decide +kernel) rfl
theorem wf_473 : Cond.code ⟨"Switchboard$Router", "countLeaving", "(LSwitchboard$Network;II)I"⟩ prog_7_method_16_code 7 (some .int) ∈ WT := wt_of (i := 473) (by decide +kernel) rfl
theorem wf_472 : Cond.instanceMethod ⟨"Switchboard$Router", "countLeaving", "(LSwitchboard$Network;II)I"⟩ ∈ WT := wt_of (i := 472) (by decide +kernel) rfl
theorem fV_X5_countLeaving : cfV yX5_countLeaving cX5_countLeaving 7 (some .int) 3 := ⟨⟨⟨by decide +kernel, by decide +kernel, by decide +kernel⟩, wf_8, wf_473⟩, wf_472, (wt_sel (i := 7) (n := 7) (by decide +kernel))⟩
theorem wf_474 : Cond.methodLink "Switchboard$Router" 112 ⟨"java/lang/Math", "min", "(II)I"⟩ ∈ WT := wt_of (i := 474) (by decide +kernel) rfl
theorem wf_403 : Cond.methodLink "Switchboard$Router" 117 ⟨"Switchboard$Router", "shortestLength", "(LSwitchboard$Network;III)I"⟩ ∈ WT := wt_of (i := 403) (by decide +kernel) rfl
theorem wf_406 : Cond.code ⟨"Switchboard$Router", "shortestLength", "(LSwitchboard$Network;III)I"⟩ prog_7_method_4_code 5 (some .int) ∈ WT := wt_of (i := 406) (by decide +kernel) rfl
theorem wf_404 : Cond.instanceMethod ⟨"Switchboard$Router", "shortestLength", "(LSwitchboard$Network;III)I"⟩ ∈ WT := wt_of (i := 404) (by decide +kernel) rfl
theorem wf_405 : Cond.selects "Switchboard$Router" ⟨"Switchboard$Router", "shortestLength", "(LSwitchboard$Network;III)I"⟩ ⟨"Switchboard$Router", "shortestLength", "(LSwitchboard$Network;III)I"⟩ ∈ WT := wt_of (i := 405) (by decide +kernel) rfl
theorem fV_X5_shortestLength : cfV yX5_shortestLength cX5_shortestLength 5 (some .int) 4 := ⟨⟨⟨by decide +kernel, by decide +kernel, by decide +kernel⟩, wf_8, wf_406⟩, wf_404, wf_405⟩
theorem wf_438 : Cond.methodLink "Switchboard$Router" 121 ⟨"Switchboard$Router", "relaxedLength", "(LSwitchboard$Network;III)I"⟩ ∈ WT := wt_of (i := 438) (by decide +kernel) rfl
theorem wf_441 : Cond.code ⟨"Switchboard$Router", "relaxedLength", "(LSwitchboard$Network;III)I"⟩ prog_7_method_10_code 9 (some .int) ∈ WT := wt_of (i := 441) (by decide +kernel) rfl
theorem wf_439 : Cond.instanceMethod ⟨"Switchboard$Router", "relaxedLength", "(LSwitchboard$Network;III)I"⟩ ∈ WT := wt_of (i := 439) (by decide +kernel) rfl
theorem wf_440 : Cond.selects "Switchboard$Router" ⟨"Switchboard$Router", "relaxedLength", "(LSwitchboard$Network;III)I"⟩ ⟨"Switchboard$Router", "relaxedLength", "(LSwitchboard$Network;III)I"⟩ ∈ WT := wt_of (i := 440) (by decide +kernel) rfl
theorem fV_X5_relaxedLength : cfV yX5_relaxedLength cX5_relaxedLength 9 (some .int) 4 := ⟨⟨⟨by decide +kernel, by decide +kernel, by decide +kernel⟩, wf_8, wf_441⟩, wf_439, wf_440⟩
theorem wf_442 : Cond.methodLink "Switchboard$Router" 124 ⟨"Switchboard$Router", "countDisjoint", "(LSwitchboard$Network;III)I"⟩ ∈ WT := wt_of (i := 442) (by decide +kernel) rfl
theorem wf_445 : Cond.code ⟨"Switchboard$Router", "countDisjoint", "(LSwitchboard$Network;III)I"⟩ prog_7_method_11_code 6 (some .int) ∈ WT := wt_of (i := 445) (by decide +kernel) rfl
theorem wf_443 : Cond.instanceMethod ⟨"Switchboard$Router", "countDisjoint", "(LSwitchboard$Network;III)I"⟩ ∈ WT := wt_of (i := 443) (by decide +kernel) rfl
theorem wf_444 : Cond.selects "Switchboard$Router" ⟨"Switchboard$Router", "countDisjoint", "(LSwitchboard$Network;III)I"⟩ ⟨"Switchboard$Router", "countDisjoint", "(LSwitchboard$Network;III)I"⟩ ∈ WT := wt_of (i := 444) (by decide +kernel) rfl
theorem fV_X5_countDisjoint : cfV yX5_countDisjoint cX5_countDisjoint 6 (some .int) 4 := ⟨⟨⟨by decide +kernel, by decide +kernel, by decide +kernel⟩, wf_8, wf_445⟩, wf_443, wf_444⟩
theorem wf_466 : Cond.methodLink "Switchboard$Router" 127 ⟨"Switchboard$Router", "smallestCut", "(LSwitchboard$Network;III)I"⟩ ∈ WT := wt_of (i := 466) (by decide +kernel) rfl
theorem wf_469 : Cond.code ⟨"Switchboard$Router", "smallestCut", "(LSwitchboard$Network;III)I"⟩ prog_7_method_15_code 7 (some .int) ∈ WT := wt_of (i := 469) (by decide +kernel) rfl
theorem wf_467 : Cond.instanceMethod ⟨"Switchboard$Router", "smallestCut", "(LSwitchboard$Network;III)I"⟩ ∈ WT := wt_of (i := 467) (by decide +kernel) rfl
theorem wf_468 : Cond.selects "Switchboard$Router" ⟨"Switchboard$Router", "smallestCut", "(LSwitchboard$Network;III)I"⟩ ⟨"Switchboard$Router", "smallestCut", "(LSwitchboard$Network;III)I"⟩ ∈ WT := wt_of (i := 468) (by decide +kernel) rfl
theorem fV_X5_smallestCut : cfV yX5_smallestCut cX5_smallestCut 7 (some .int) 4 := ⟨⟨⟨by decide +kernel, by decide +kernel, by decide +kernel⟩, wf_8, wf_469⟩, wf_467, wf_468⟩
theorem wf_173 : Cond.fieldLink "Switchboard$History" 18 "Switchboard$History" "next" "I" ∈ WT := wt_of (i := 173) (by decide +kernel) rfl
theorem wf_171 : Cond.fieldLink "Switchboard$History" 26 "Switchboard$History" "count" "I" ∈ WT := wt_of (i := 171) (by decide +kernel) rfl
theorem wf_1011 : Cond.methodLink "Switchboard$History" 29 ⟨"java/lang/Math", "min", "(II)I"⟩ ∈ WT := wt_of (i := 1011) (by decide +kernel) rfl
theorem wf_174 : Cond.fieldLink "Switchboard$History" 11 "Switchboard$History" "states" "[LSwitchboard$State;" ∈ WT := wt_of (i := 174) (by decide +kernel) rfl
theorem wf_1010 : Cond.methodLink "Switchboard$History" 22 ⟨"Switchboard$State", "copyFrom", "(LSwitchboard$State;)V"⟩ ∈ WT := wt_of (i := 1010) (by decide +kernel) rfl
theorem wf_861 : Cond.code ⟨"Switchboard$State", "copyFrom", "(LSwitchboard$State;)V"⟩ prog_8_method_18_code 3 none ∈ WT := wt_of (i := 861) (by decide +kernel) rfl
theorem wf_859 : Cond.instanceMethod ⟨"Switchboard$State", "copyFrom", "(LSwitchboard$State;)V"⟩ ∈ WT := wt_of (i := 859) (by decide +kernel) rfl
theorem wf_860 : Cond.selects "Switchboard$State" ⟨"Switchboard$State", "copyFrom", "(LSwitchboard$State;)V"⟩ ⟨"Switchboard$State", "copyFrom", "(LSwitchboard$State;)V"⟩ ∈ WT := wt_of (i := 860) (by decide +kernel) rfl
theorem fV_X6_copyFrom : cfV yX6_copyFrom cX6_copyFrom 3 none 1 := ⟨⟨⟨by decide +kernel, by decide +kernel, by decide +kernel⟩, wf_2, wf_861⟩, wf_859, wf_860⟩
theorem wf_213 : Cond.fieldLink "Switchboard$Program" 28 "Switchboard$Program" "size" "I" ∈ WT := wt_of (i := 213) (by decide +kernel) rfl
theorem wf_212 : Cond.fieldLink "Switchboard$Program" 9 "Switchboard$Program" "text" "[C" ∈ WT := wt_of (i := 212) (by decide +kernel) rfl
theorem wf_226 : Cond.fieldLink "Switchboard$Program" 35 "Switchboard$Program" "broken" "Z" ∈ WT := wt_of (i := 226) (by decide +kernel) rfl
theorem wf_225 : Cond.fieldLink "Switchboard$Program" 32 "Switchboard$Program" "position" "I" ∈ WT := wt_of (i := 225) (by decide +kernel) rfl
theorem wf_1442 : Cond.methodLink "Switchboard$Program" 72 ⟨"Switchboard$Program", "peek", "(I)I"⟩ ∈ WT := wt_of (i := 1442) (by decide +kernel) rfl
theorem wf_7 : Cond.initialized "Switchboard$Program" ∈ WT := wt_of (i := 7) (by decide +kernel) rfl
theorem wf_1445 : Cond.code ⟨"Switchboard$Program", "peek", "(I)I"⟩ prog_6_method_14_code 3 (some .int) ∈ WT := wt_of (i := 1445) (by decide +kernel) rfl
theorem wf_1444 : Cond.instanceMethod ⟨"Switchboard$Program", "peek", "(I)I"⟩ ∈ WT := wt_of (i := 1444) (by decide +kernel) rfl
theorem fV_X4_peek : cfV yX4_peek cX4_peek 3 (some .int) 1 := ⟨⟨⟨by decide +kernel, by decide +kernel, by decide +kernel⟩, wf_7, wf_1445⟩, wf_1444, (wt_sel (i := 24) (n := 9) (by decide +kernel))⟩
theorem wf_1478 : Cond.methodLink "Switchboard$Program" 46 ⟨"Switchboard$Program", "expect", "(C)V"⟩ ∈ WT := wt_of (i := 1478) (by decide +kernel) rfl
theorem wf_1481 : Cond.code ⟨"Switchboard$Program", "expect", "(C)V"⟩ prog_6_method_13_code 2 none ∈ WT := wt_of (i := 1481) (by decide +kernel) rfl
theorem wf_1480 : Cond.instanceMethod ⟨"Switchboard$Program", "expect", "(C)V"⟩ ∈ WT := wt_of (i := 1480) (by decide +kernel) rfl
theorem fV_X4_expect : cfV yX4_expect cX4_expect 2 none 1 := ⟨⟨⟨by decide +kernel, by decide +kernel, by decide +kernel⟩, wf_7, wf_1481⟩, wf_1480, (wt_sel (i := 26) (n := 9) (by decide +kernel))⟩
theorem wf_1438 : Cond.methodLink "Switchboard$Program" 50 ⟨"Switchboard$Program", "kindAhead", "()I"⟩ ∈ WT := wt_of (i := 1438) (by decide +kernel) rfl
theorem wf_1441 : Cond.code ⟨"Switchboard$Program", "kindAhead", "()I"⟩ prog_6_method_5_code 1 (some .int) ∈ WT := wt_of (i := 1441) (by decide +kernel) rfl
theorem wf_1440 : Cond.instanceMethod ⟨"Switchboard$Program", "kindAhead", "()I"⟩ ∈ WT := wt_of (i := 1440) (by decide +kernel) rfl
theorem fV_X4_kindAhead : cfV yX4_kindAhead cX4_kindAhead 1 (some .int) 0 := ⟨⟨⟨by decide +kernel, by decide +kernel, by decide +kernel⟩, wf_7, wf_1441⟩, wf_1440, (wt_sel (i := 23) (n := 9) (by decide +kernel))⟩
theorem wf_1448 : Cond.code ⟨"Switchboard$Program", "wordOf", "(I)Ljava/lang/String;"⟩ prog_6_method_6_code 1 (some (.object "java/lang/String")) ∈ WT := wt_of (i := 1448) (by decide +kernel) rfl
theorem wf_1447 : Cond.static ⟨"Switchboard$Program", "wordOf", "(I)Ljava/lang/String;"⟩ ∈ WT := wt_of (i := 1447) (by decide +kernel) rfl
theorem fS_X4_wordOf : cfS yX4_wordOf cX4_wordOf 1 (some (.object "java/lang/String")) 1 := ⟨⟨⟨by decide +kernel, by decide +kernel, by decide +kernel⟩, wf_7, wf_1448⟩, wf_1447⟩
theorem wf_1446 : Cond.methodLink "Switchboard$Program" 54 ⟨"Switchboard$Program", "wordOf", "(I)Ljava/lang/String;"⟩ ∈ WT := wt_of (i := 1446) (by decide +kernel) rfl
theorem wf_1462 : Cond.methodLink "Switchboard$Program" 100 ⟨"java/lang/String", "length", "()I"⟩ ∈ WT := wt_of (i := 1462) (by decide +kernel) rfl
theorem wf_1463 : Cond.methodLink "Switchboard$Program" 105 ⟨"java/lang/String", "charAt", "(I)C"⟩ ∈ WT := wt_of (i := 1463) (by decide +kernel) rfl
theorem wf_1458 : Cond.methodLink "Switchboard$Program" 58 ⟨"Switchboard$Program", "expectWord", "(Ljava/lang/String;)V"⟩ ∈ WT := wt_of (i := 1458) (by decide +kernel) rfl
theorem wf_1461 : Cond.code ⟨"Switchboard$Program", "expectWord", "(Ljava/lang/String;)V"⟩ prog_6_method_12_code 3 none ∈ WT := wt_of (i := 1461) (by decide +kernel) rfl
theorem wf_1460 : Cond.instanceMethod ⟨"Switchboard$Program", "expectWord", "(Ljava/lang/String;)V"⟩ ∈ WT := wt_of (i := 1460) (by decide +kernel) rfl
theorem fV_X4_expectWord : cfV yX4_expectWord cX4_expectWord 3 none 1 := ⟨⟨⟨by decide +kernel, by decide +kernel, by decide +kernel⟩, wf_7, wf_1461⟩, wf_1460, (wt_sel (i := 25) (n := 9) (by decide +kernel))⟩
theorem wf_217 : Cond.fieldLink "Switchboard$Program" 15 "Switchboard$Program" "kinds" "[I" ∈ WT := wt_of (i := 217) (by decide +kernel) rfl
theorem wf_219 : Cond.fieldLink "Switchboard$Program" 19 "Switchboard$Program" "firsts" "[I" ∈ WT := wt_of (i := 219) (by decide +kernel) rfl
theorem wf_1490 : Cond.methodLink "Switchboard$Program" 96 ⟨"Switchboard$Program", "isDigit", "(I)Z"⟩ ∈ WT := wt_of (i := 1490) (by decide +kernel) rfl
theorem wf_1492 : Cond.code ⟨"Switchboard$Program", "isDigit", "(I)Z"⟩ prog_6_method_11_code 1 (some .boolean) ∈ WT := wt_of (i := 1492) (by decide +kernel) rfl
theorem wf_1491 : Cond.static ⟨"Switchboard$Program", "isDigit", "(I)Z"⟩ ∈ WT := wt_of (i := 1491) (by decide +kernel) rfl
theorem fS_X4_isDigit : cfS yX4_isDigit cX4_isDigit 1 (some .boolean) 1 := ⟨⟨⟨by decide +kernel, by decide +kernel, by decide +kernel⟩, wf_7, wf_1492⟩, wf_1491⟩
theorem wf_1486 : Cond.methodLink "Switchboard$Program" 93 ⟨"Switchboard$Program", "readDigit", "()I"⟩ ∈ WT := wt_of (i := 1486) (by decide +kernel) rfl
theorem wf_1489 : Cond.code ⟨"Switchboard$Program", "readDigit", "()I"⟩ prog_6_method_10_code 2 (some .int) ∈ WT := wt_of (i := 1489) (by decide +kernel) rfl
theorem wf_1488 : Cond.instanceMethod ⟨"Switchboard$Program", "readDigit", "()I"⟩ ∈ WT := wt_of (i := 1488) (by decide +kernel) rfl
theorem fV_X4_readDigit : cfV yX4_readDigit cX4_readDigit 2 (some .int) 0 := ⟨⟨⟨by decide +kernel, by decide +kernel, by decide +kernel⟩, wf_7, wf_1489⟩, wf_1488, (wt_sel (i := 28) (n := 9) (by decide +kernel))⟩
theorem wf_1493 : Cond.methodLink "Switchboard$Program" 69 ⟨"Switchboard$Program", "readNumber", "()I"⟩ ∈ WT := wt_of (i := 1493) (by decide +kernel) rfl
theorem wf_1496 : Cond.code ⟨"Switchboard$Program", "readNumber", "()I"⟩ prog_6_method_9_code 2 (some .int) ∈ WT := wt_of (i := 1496) (by decide +kernel) rfl
theorem wf_1495 : Cond.instanceMethod ⟨"Switchboard$Program", "readNumber", "()I"⟩ ∈ WT := wt_of (i := 1495) (by decide +kernel) rfl
theorem fV_X4_readNumber : cfV yX4_readNumber cX4_readNumber 2 (some .int) 0 := ⟨⟨⟨by decide +kernel, by decide +kernel, by decide +kernel⟩, wf_7, wf_1496⟩, wf_1495, (wt_sel (i := 29) (n := 9) (by decide +kernel))⟩
theorem wf_1482 : Cond.methodLink "Switchboard$Program" 62 ⟨"Switchboard$Program", "readFirst", "(I)I"⟩ ∈ WT := wt_of (i := 1482) (by decide +kernel) rfl
theorem wf_1485 : Cond.code ⟨"Switchboard$Program", "readFirst", "(I)I"⟩ prog_6_method_7_code 2 (some .int) ∈ WT := wt_of (i := 1485) (by decide +kernel) rfl
theorem wf_1484 : Cond.instanceMethod ⟨"Switchboard$Program", "readFirst", "(I)I"⟩ ∈ WT := wt_of (i := 1484) (by decide +kernel) rfl
theorem fV_X4_readFirst : cfV yX4_readFirst cX4_readFirst 2 (some .int) 1 := ⟨⟨⟨by decide +kernel, by decide +kernel, by decide +kernel⟩, wf_7, wf_1485⟩, wf_1484, (wt_sel (i := 27) (n := 9) (by decide +kernel))⟩
theorem wf_221 : Cond.fieldLink "Switchboard$Program" 22 "Switchboard$Program" "seconds" "[I" ∈ WT := wt_of (i := 221) (by decide +kernel) rfl
theorem wf_1497 : Cond.methodLink "Switchboard$Program" 66 ⟨"Switchboard$Program", "readSecond", "(I)I"⟩ ∈ WT := wt_of (i := 1497) (by decide +kernel) rfl
theorem wf_1500 : Cond.code ⟨"Switchboard$Program", "readSecond", "(I)I"⟩ prog_6_method_8_code 2 (some .int) ∈ WT := wt_of (i := 1500) (by decide +kernel) rfl
theorem wf_1499 : Cond.instanceMethod ⟨"Switchboard$Program", "readSecond", "(I)I"⟩ ∈ WT := wt_of (i := 1499) (by decide +kernel) rfl
theorem fV_X4_readSecond : cfV yX4_readSecond cX4_readSecond 2 (some .int) 1 := ⟨⟨⟨by decide +kernel, by decide +kernel, by decide +kernel⟩, wf_7, wf_1500⟩, wf_1499, (wt_sel (i := 30) (n := 9) (by decide +kernel))⟩
theorem wf_223 : Cond.fieldLink "Switchboard$Program" 25 "Switchboard$Program" "thirds" "[I" ∈ WT := wt_of (i := 223) (by decide +kernel) rfl
theorem wf_1434 : Cond.methodLink "Switchboard$Program" 42 ⟨"Switchboard$Program", "readCommand", "(I)V"⟩ ∈ WT := wt_of (i := 1434) (by decide +kernel) rfl
theorem wf_1437 : Cond.code ⟨"Switchboard$Program", "readCommand", "(I)V"⟩ prog_6_method_4_code 3 none ∈ WT := wt_of (i := 1437) (by decide +kernel) rfl
theorem wf_1436 : Cond.instanceMethod ⟨"Switchboard$Program", "readCommand", "(I)V"⟩ ∈ WT := wt_of (i := 1436) (by decide +kernel) rfl
theorem fV_X4_readCommand : cfV yX4_readCommand cX4_readCommand 3 none 1 := ⟨⟨⟨by decide +kernel, by decide +kernel, by decide +kernel⟩, wf_7, wf_1437⟩, wf_1436, (wt_sel (i := 22) (n := 9) (by decide +kernel))⟩
theorem wf_215 : Cond.fieldLink "Switchboard$Program" 39 "Switchboard$Program" "commandCount" "I" ∈ WT := wt_of (i := 215) (by decide +kernel) rfl
theorem wf_310 : Cond.fieldLink "Switchboard" 10 "Switchboard" "now" "LSwitchboard$State;" ∈ WT := wt_of (i := 310) (by decide +kernel) rfl
theorem wf_127 : Cond.fieldLink "Switchboard" 108 "Switchboard$State" "network" "LSwitchboard$Network;" ∈ WT := wt_of (i := 127) (by decide +kernel) rfl
theorem wf_893 : Cond.methodLink "Switchboard" 112 ⟨"Switchboard$Network", "switchProblem", "()I"⟩ ∈ WT := wt_of (i := 893) (by decide +kernel) rfl
theorem wf_896 : Cond.code ⟨"Switchboard$Network", "switchProblem", "()I"⟩ prog_5_method_4_code 1 (some .int) ∈ WT := wt_of (i := 896) (by decide +kernel) rfl
theorem wf_894 : Cond.instanceMethod ⟨"Switchboard$Network", "switchProblem", "()I"⟩ ∈ WT := wt_of (i := 894) (by decide +kernel) rfl
theorem wf_895 : Cond.selects "Switchboard$Network" ⟨"Switchboard$Network", "switchProblem", "()I"⟩ ⟨"Switchboard$Network", "switchProblem", "()I"⟩ ∈ WT := wt_of (i := 895) (by decide +kernel) rfl
theorem fV_X3_switchProblem : cfV yX3_switchProblem cX3_switchProblem 1 (some .int) 0 := ⟨⟨⟨by decide +kernel, by decide +kernel, by decide +kernel⟩, wf_3, wf_896⟩, wf_894, wf_895⟩
theorem wf_897 : Cond.methodLink "Switchboard" 118 ⟨"Switchboard$Network", "trunkProblem", "(III)I"⟩ ∈ WT := wt_of (i := 897) (by decide +kernel) rfl
theorem wf_900 : Cond.code ⟨"Switchboard$Network", "trunkProblem", "(III)I"⟩ prog_5_method_5_code 4 (some .int) ∈ WT := wt_of (i := 900) (by decide +kernel) rfl
theorem wf_898 : Cond.instanceMethod ⟨"Switchboard$Network", "trunkProblem", "(III)I"⟩ ∈ WT := wt_of (i := 898) (by decide +kernel) rfl
theorem wf_899 : Cond.selects "Switchboard$Network" ⟨"Switchboard$Network", "trunkProblem", "(III)I"⟩ ⟨"Switchboard$Network", "trunkProblem", "(III)I"⟩ ∈ WT := wt_of (i := 899) (by decide +kernel) rfl
theorem fV_X3_trunkProblem : cfV yX3_trunkProblem cX3_trunkProblem 4 (some .int) 3 := ⟨⟨⟨by decide +kernel, by decide +kernel, by decide +kernel⟩, wf_3, wf_900⟩, wf_898, wf_899⟩
theorem wf_902 : Cond.methodLink "Switchboard" 122 ⟨"Switchboard$State", "subscriberProblem", "(II)I"⟩ ∈ WT := wt_of (i := 902) (by decide +kernel) rfl
theorem wf_905 : Cond.code ⟨"Switchboard$State", "subscriberProblem", "(II)I"⟩ prog_8_method_4_code 3 (some .int) ∈ WT := wt_of (i := 905) (by decide +kernel) rfl
theorem wf_903 : Cond.instanceMethod ⟨"Switchboard$State", "subscriberProblem", "(II)I"⟩ ∈ WT := wt_of (i := 903) (by decide +kernel) rfl
theorem wf_904 : Cond.selects "Switchboard$State" ⟨"Switchboard$State", "subscriberProblem", "(II)I"⟩ ⟨"Switchboard$State", "subscriberProblem", "(II)I"⟩ ∈ WT := wt_of (i := 904) (by decide +kernel) rfl
theorem fV_X6_subscriberProblem : cfV yX6_subscriberProblem cX6_subscriberProblem 3 (some .int) 2 := ⟨⟨⟨by decide +kernel, by decide +kernel, by decide +kernel⟩, wf_2, wf_905⟩, wf_903, wf_904⟩
theorem wf_911 : Cond.methodLink "Switchboard" 164 ⟨"Switchboard$State", "hasSubscriber", "(I)Z"⟩ ∈ WT := wt_of (i := 911) (by decide +kernel) rfl
theorem wf_915 : Cond.methodLink "Switchboard" 149 ⟨"Switchboard$State", "callIndexOf", "(I)I"⟩ ∈ WT := wt_of (i := 915) (by decide +kernel) rfl
theorem wf_314 : Cond.fieldLink "Switchboard" 32 "Switchboard" "blocked" "LSwitchboard$BlockedCalls;" ∈ WT := wt_of (i := 314) (by decide +kernel) rfl
theorem wf_923 : Cond.methodLink "Switchboard" 168 ⟨"Switchboard$BlockedCalls", "enter", "(IIC)V"⟩ ∈ WT := wt_of (i := 923) (by decide +kernel) rfl
theorem wf_926 : Cond.code ⟨"Switchboard$BlockedCalls", "enter", "(IIC)V"⟩ prog_2_method_2_code 4 none ∈ WT := wt_of (i := 926) (by decide +kernel) rfl
theorem wf_924 : Cond.instanceMethod ⟨"Switchboard$BlockedCalls", "enter", "(IIC)V"⟩ ∈ WT := wt_of (i := 924) (by decide +kernel) rfl
theorem wf_925 : Cond.selects "Switchboard$BlockedCalls" ⟨"Switchboard$BlockedCalls", "enter", "(IIC)V"⟩ ⟨"Switchboard$BlockedCalls", "enter", "(IIC)V"⟩ ∈ WT := wt_of (i := 925) (by decide +kernel) rfl
theorem fV_X0_enter : cfV yX0_enter cX0_enter 4 none 3 := ⟨⟨⟨by decide +kernel, by decide +kernel, by decide +kernel⟩, wf_6, wf_926⟩, wf_924, wf_925⟩
theorem wf_316 : Cond.fieldLink "Switchboard" 46 "Switchboard" "router" "LSwitchboard$Router;" ∈ WT := wt_of (i := 316) (by decide +kernel) rfl
theorem wf_380 : Cond.methodLink "Switchboard" 172 ⟨"Switchboard$State", "freeTrunks", "()I"⟩ ∈ WT := wt_of (i := 380) (by decide +kernel) rfl
theorem wf_383 : Cond.code ⟨"Switchboard$State", "freeTrunks", "()I"⟩ prog_8_method_10_code 1 (some .int) ∈ WT := wt_of (i := 383) (by decide +kernel) rfl
theorem wf_381 : Cond.instanceMethod ⟨"Switchboard$State", "freeTrunks", "()I"⟩ ∈ WT := wt_of (i := 381) (by decide +kernel) rfl
theorem wf_382 : Cond.selects "Switchboard$State" ⟨"Switchboard$State", "freeTrunks", "()I"⟩ ⟨"Switchboard$State", "freeTrunks", "()I"⟩ ∈ WT := wt_of (i := 382) (by decide +kernel) rfl
theorem fV_X6_freeTrunks : cfV yX6_freeTrunks cX6_freeTrunks 1 (some .int) 0 := ⟨⟨⟨by decide +kernel, by decide +kernel, by decide +kernel⟩, wf_2, wf_383⟩, wf_381, wf_382⟩
theorem wf_931 : Cond.methodLink "Switchboard" 175 ⟨"Switchboard$State", "homeOf", "(I)I"⟩ ∈ WT := wt_of (i := 931) (by decide +kernel) rfl
theorem wf_934 : Cond.code ⟨"Switchboard$State", "homeOf", "(I)I"⟩ prog_8_method_3_code 2 (some .int) ∈ WT := wt_of (i := 934) (by decide +kernel) rfl
theorem wf_932 : Cond.instanceMethod ⟨"Switchboard$State", "homeOf", "(I)I"⟩ ∈ WT := wt_of (i := 932) (by decide +kernel) rfl
theorem wf_933 : Cond.selects "Switchboard$State" ⟨"Switchboard$State", "homeOf", "(I)I"⟩ ⟨"Switchboard$State", "homeOf", "(I)I"⟩ ∈ WT := wt_of (i := 933) (by decide +kernel) rfl
theorem fV_X6_homeOf : cfV yX6_homeOf cX6_homeOf 2 (some .int) 1 := ⟨⟨⟨by decide +kernel, by decide +kernel, by decide +kernel⟩, wf_2, wf_934⟩, wf_932, wf_933⟩
theorem wf_936 : Cond.methodLink "Switchboard" 178 ⟨"Switchboard$Router", "findRoute", "(LSwitchboard$Network;III)Z"⟩ ∈ WT := wt_of (i := 936) (by decide +kernel) rfl
theorem wf_939 : Cond.code ⟨"Switchboard$Router", "findRoute", "(LSwitchboard$Network;III)Z"⟩ prog_7_method_2_code 8 (some .boolean) ∈ WT := wt_of (i := 939) (by decide +kernel) rfl
theorem wf_937 : Cond.instanceMethod ⟨"Switchboard$Router", "findRoute", "(LSwitchboard$Network;III)Z"⟩ ∈ WT := wt_of (i := 937) (by decide +kernel) rfl
theorem wf_938 : Cond.selects "Switchboard$Router" ⟨"Switchboard$Router", "findRoute", "(LSwitchboard$Network;III)Z"⟩ ⟨"Switchboard$Router", "findRoute", "(LSwitchboard$Network;III)Z"⟩ ∈ WT := wt_of (i := 938) (by decide +kernel) rfl
theorem fV_X5_findRoute : cfV yX5_findRoute cX5_findRoute 8 (some .boolean) 4 := ⟨⟨⟨by decide +kernel, by decide +kernel, by decide +kernel⟩, wf_8, wf_939⟩, wf_937, wf_938⟩
theorem wf_907 : Cond.methodLink "Switchboard" 126 ⟨"Switchboard", "callProblem", "(II)I"⟩ ∈ WT := wt_of (i := 907) (by decide +kernel) rfl
theorem wf_910 : Cond.code ⟨"Switchboard", "callProblem", "(II)I"⟩ prog_1_method_14_code 3 (some .int) ∈ WT := wt_of (i := 910) (by decide +kernel) rfl
theorem wf_909 : Cond.instanceMethod ⟨"Switchboard", "callProblem", "(II)I"⟩ ∈ WT := wt_of (i := 909) (by decide +kernel) rfl
theorem fV_X7_callProblem : cfV yX7_callProblem cX7_callProblem 3 (some .int) 2 := ⟨⟨⟨by decide +kernel, by decide +kernel, by decide +kernel⟩, wf_1, wf_910⟩, wf_909, (wt_sel (i := 11) (n := 11) (by decide +kernel))⟩
theorem wf_944 : Cond.methodLink "Switchboard" 129 ⟨"Switchboard$State", "hangUpProblem", "(I)I"⟩ ∈ WT := wt_of (i := 944) (by decide +kernel) rfl
theorem wf_947 : Cond.code ⟨"Switchboard$State", "hangUpProblem", "(I)I"⟩ prog_8_method_5_code 2 (some .int) ∈ WT := wt_of (i := 947) (by decide +kernel) rfl
theorem wf_945 : Cond.instanceMethod ⟨"Switchboard$State", "hangUpProblem", "(I)I"⟩ ∈ WT := wt_of (i := 945) (by decide +kernel) rfl
theorem wf_946 : Cond.selects "Switchboard$State" ⟨"Switchboard$State", "hangUpProblem", "(I)I"⟩ ⟨"Switchboard$State", "hangUpProblem", "(I)I"⟩ ∈ WT := wt_of (i := 946) (by decide +kernel) rfl
theorem fV_X6_hangUpProblem : cfV yX6_hangUpProblem cX6_hangUpProblem 2 (some .int) 1 := ⟨⟨⟨by decide +kernel, by decide +kernel, by decide +kernel⟩, wf_2, wf_947⟩, wf_945, wf_946⟩
theorem wf_949 : Cond.methodLink "Switchboard" 133 ⟨"Switchboard$Network", "repairProblem", "(IZ)I"⟩ ∈ WT := wt_of (i := 949) (by decide +kernel) rfl
theorem wf_952 : Cond.code ⟨"Switchboard$Network", "repairProblem", "(IZ)I"⟩ prog_5_method_6_code 3 (some .int) ∈ WT := wt_of (i := 952) (by decide +kernel) rfl
theorem wf_950 : Cond.instanceMethod ⟨"Switchboard$Network", "repairProblem", "(IZ)I"⟩ ∈ WT := wt_of (i := 950) (by decide +kernel) rfl
theorem wf_951 : Cond.selects "Switchboard$Network" ⟨"Switchboard$Network", "repairProblem", "(IZ)I"⟩ ⟨"Switchboard$Network", "repairProblem", "(IZ)I"⟩ ∈ WT := wt_of (i := 951) (by decide +kernel) rfl
theorem fV_X3_repairProblem : cfV yX3_repairProblem cX3_repairProblem 3 (some .int) 2 := ⟨⟨⟨by decide +kernel, by decide +kernel, by decide +kernel⟩, wf_3, wf_952⟩, wf_950, wf_951⟩
theorem wf_889 : Cond.methodLink "Switchboard" 72 ⟨"Switchboard", "problemOf", "(IIII)I"⟩ ∈ WT := wt_of (i := 889) (by decide +kernel) rfl
theorem wf_892 : Cond.code ⟨"Switchboard", "problemOf", "(IIII)I"⟩ prog_1_method_12_code 5 (some .int) ∈ WT := wt_of (i := 892) (by decide +kernel) rfl
theorem wf_891 : Cond.instanceMethod ⟨"Switchboard", "problemOf", "(IIII)I"⟩ ∈ WT := wt_of (i := 891) (by decide +kernel) rfl
theorem fV_X7_problemOf : cfV yX7_problemOf cX7_problemOf 5 (some .int) 4 := ⟨⟨⟨by decide +kernel, by decide +kernel, by decide +kernel⟩, wf_1, wf_892⟩, wf_891, (wt_sel (i := 10) (n := 11) (by decide +kernel))⟩
theorem wf_958 : Cond.classLink "Switchboard" 86 "java/lang/IndexOutOfBoundsException" ∈ WT := wt_of (i := 958) (by decide +kernel) rfl
theorem wf_18 : Cond.initialized "java/lang/IndexOutOfBoundsException" ∈ WT := wt_of (i := 18) (by decide +kernel) rfl
set_option maxRecDepth 100000 in
theorem tw_X7_90 : xTw "Switchboard" "java/lang/IndexOutOfBoundsException" 86 90 := ⟨wf_958, wf_18, by decide +kernel, fun x hx => by
  rcases (by decide +kernel : ∀ x ∈ vx_atS "Switchboard" 90 "java/lang/IndexOutOfBoundsException" ["java/lang/RuntimeException", "java/lang/Exception"], (x ∈ lw_tbl ∧ goodWord x = true) ∨ x = .castable "java/lang/IndexOutOfBoundsException" "java/lang/IndexOutOfBoundsException" ∨ ∃ y ∈ xe_D, x = .declares y) x hx with h | h | h
  · exact Or.inl (wt_in h.1 h.2)
  · exact Or.inr (Or.inl ⟨h, by decide⟩)
  · exact Or.inr (Or.inr h), by decide +kernel⟩
theorem wf_971 : Cond.classLink "Switchboard" 93 "java/lang/IllegalArgumentException" ∈ WT := wt_of (i := 971) (by decide +kernel) rfl
theorem wf_19 : Cond.initialized "java/lang/IllegalArgumentException" ∈ WT := wt_of (i := 19) (by decide +kernel) rfl
set_option maxRecDepth 100000 in
theorem tw_X7_97 : xTw "Switchboard" "java/lang/IllegalArgumentException" 93 97 := ⟨wf_971, wf_19, by decide +kernel, fun x hx => by
  rcases (by decide +kernel : ∀ x ∈ vx_atS "Switchboard" 97 "java/lang/IllegalArgumentException" ["java/lang/RuntimeException", "java/lang/Exception"], (x ∈ lw_tbl ∧ goodWord x = true) ∨ x = .castable "java/lang/IllegalArgumentException" "java/lang/IllegalArgumentException" ∨ ∃ y ∈ xe_D, x = .declares y) x hx with h | h | h
  · exact Or.inl (wt_in h.1 h.2)
  · exact Or.inr (Or.inl ⟨h, by decide⟩)
  · exact Or.inr (Or.inr h), by decide +kernel⟩
theorem wf_974 : Cond.classLink "Switchboard" 98 "java/lang/IllegalStateException" ∈ WT := wt_of (i := 974) (by decide +kernel) rfl
theorem wf_20 : Cond.initialized "java/lang/IllegalStateException" ∈ WT := wt_of (i := 20) (by decide +kernel) rfl
set_option maxRecDepth 100000 in
theorem tw_X7_102 : xTw "Switchboard" "java/lang/IllegalStateException" 98 102 := ⟨wf_974, wf_20, by decide +kernel, fun x hx => by
  rcases (by decide +kernel : ∀ x ∈ vx_atS "Switchboard" 102 "java/lang/IllegalStateException" ["java/lang/RuntimeException", "java/lang/Exception"], (x ∈ lw_tbl ∧ goodWord x = true) ∨ x = .castable "java/lang/IllegalStateException" "java/lang/IllegalStateException" ∨ ∃ y ∈ xe_D, x = .declares y) x hx with h | h | h
  · exact Or.inl (wt_in h.1 h.2)
  · exact Or.inr (Or.inl ⟨h, by decide⟩)
  · exact Or.inr (Or.inr h), by decide +kernel⟩
theorem wf_990 : Cond.classLink "Switchboard" 103 "java/lang/UnsupportedOperationException" ∈ WT := wt_of (i := 990) (by decide +kernel) rfl
theorem wf_21 : Cond.initialized "java/lang/UnsupportedOperationException" ∈ WT := wt_of (i := 21) (by decide +kernel) rfl
set_option maxRecDepth 100000 in
theorem tw_X7_107 : xTw "Switchboard" "java/lang/UnsupportedOperationException" 103 107 := ⟨wf_990, wf_21, by decide +kernel, fun x hx => by
  rcases (by decide +kernel : ∀ x ∈ vx_atS "Switchboard" 107 "java/lang/UnsupportedOperationException" ["java/lang/RuntimeException", "java/lang/Exception"], (x ∈ lw_tbl ∧ goodWord x = true) ∨ x = .castable "java/lang/UnsupportedOperationException" "java/lang/UnsupportedOperationException" ∨ ∃ y ∈ xe_D, x = .declares y) x hx with h | h | h
  · exact Or.inl (wt_in h.1 h.2)
  · exact Or.inr (Or.inl ⟨h, by decide⟩)
  · exact Or.inr (Or.inr h), by decide +kernel⟩
theorem wf_955 : Cond.methodLink "Switchboard" 75 ⟨"Switchboard", "refuse", "(I)V"⟩ ∈ WT := wt_of (i := 955) (by decide +kernel) rfl
theorem wf_957 : Cond.code ⟨"Switchboard", "refuse", "(I)V"⟩ prog_1_method_11_code 1 none ∈ WT := wt_of (i := 957) (by decide +kernel) rfl
theorem wf_956 : Cond.static ⟨"Switchboard", "refuse", "(I)V"⟩ ∈ WT := wt_of (i := 956) (by decide +kernel) rfl
theorem fS_X7_refuse : cfS yX7_refuse cX7_refuse 1 none 1 := ⟨⟨⟨by decide +kernel, by decide +kernel, by decide +kernel⟩, wf_1, wf_957⟩, wf_956⟩
theorem wf_313 : Cond.fieldLink "Switchboard" 25 "Switchboard" "history" "LSwitchboard$History;" ∈ WT := wt_of (i := 313) (by decide +kernel) rfl
theorem wf_1006 : Cond.methodLink "Switchboard" 79 ⟨"Switchboard$History", "keep", "(LSwitchboard$State;)V"⟩ ∈ WT := wt_of (i := 1006) (by decide +kernel) rfl
theorem wf_5 : Cond.initialized "Switchboard$History" ∈ WT := wt_of (i := 5) (by decide +kernel) rfl
theorem wf_1009 : Cond.code ⟨"Switchboard$History", "keep", "(LSwitchboard$State;)V"⟩ prog_4_method_2_code 2 none ∈ WT := wt_of (i := 1009) (by decide +kernel) rfl
theorem wf_1007 : Cond.instanceMethod ⟨"Switchboard$History", "keep", "(LSwitchboard$State;)V"⟩ ∈ WT := wt_of (i := 1007) (by decide +kernel) rfl
theorem wf_1008 : Cond.selects "Switchboard$History" ⟨"Switchboard$History", "keep", "(LSwitchboard$State;)V"⟩ ⟨"Switchboard$History", "keep", "(LSwitchboard$State;)V"⟩ ∈ WT := wt_of (i := 1008) (by decide +kernel) rfl
theorem fV_X2_keep : cfV yX2_keep cX2_keep 2 none 1 := ⟨⟨⟨by decide +kernel, by decide +kernel, by decide +kernel⟩, wf_5, wf_1009⟩, wf_1007, wf_1008⟩
theorem wf_1016 : Cond.methodLink "Switchboard" 137 ⟨"Switchboard$Network", "attachSwitch", "()I"⟩ ∈ WT := wt_of (i := 1016) (by decide +kernel) rfl
theorem wf_1019 : Cond.code ⟨"Switchboard$Network", "attachSwitch", "()I"⟩ prog_5_method_7_code 1 (some .int) ∈ WT := wt_of (i := 1019) (by decide +kernel) rfl
theorem wf_1017 : Cond.instanceMethod ⟨"Switchboard$Network", "attachSwitch", "()I"⟩ ∈ WT := wt_of (i := 1017) (by decide +kernel) rfl
theorem wf_1018 : Cond.selects "Switchboard$Network" ⟨"Switchboard$Network", "attachSwitch", "()I"⟩ ⟨"Switchboard$Network", "attachSwitch", "()I"⟩ ∈ WT := wt_of (i := 1018) (by decide +kernel) rfl
theorem fV_X3_attachSwitch : cfV yX3_attachSwitch cX3_attachSwitch 1 (some .int) 0 := ⟨⟨⟨by decide +kernel, by decide +kernel, by decide +kernel⟩, wf_3, wf_1019⟩, wf_1017, wf_1018⟩
theorem wf_1020 : Cond.methodLink "Switchboard" 140 ⟨"Switchboard$Network", "attachTrunk", "(III)I"⟩ ∈ WT := wt_of (i := 1020) (by decide +kernel) rfl
theorem wf_1023 : Cond.code ⟨"Switchboard$Network", "attachTrunk", "(III)I"⟩ prog_5_method_8_code 5 (some .int) ∈ WT := wt_of (i := 1023) (by decide +kernel) rfl
theorem wf_1021 : Cond.instanceMethod ⟨"Switchboard$Network", "attachTrunk", "(III)I"⟩ ∈ WT := wt_of (i := 1021) (by decide +kernel) rfl
theorem wf_1022 : Cond.selects "Switchboard$Network" ⟨"Switchboard$Network", "attachTrunk", "(III)I"⟩ ⟨"Switchboard$Network", "attachTrunk", "(III)I"⟩ ∈ WT := wt_of (i := 1022) (by decide +kernel) rfl
theorem fV_X3_attachTrunk : cfV yX3_attachTrunk cX3_attachTrunk 5 (some .int) 3 := ⟨⟨⟨by decide +kernel, by decide +kernel, by decide +kernel⟩, wf_3, wf_1023⟩, wf_1021, wf_1022⟩
theorem wf_1024 : Cond.methodLink "Switchboard" 143 ⟨"Switchboard$State", "attachSubscriber", "(II)I"⟩ ∈ WT := wt_of (i := 1024) (by decide +kernel) rfl
theorem wf_1027 : Cond.code ⟨"Switchboard$State", "attachSubscriber", "(II)I"⟩ prog_8_method_6_code 4 (some .int) ∈ WT := wt_of (i := 1027) (by decide +kernel) rfl
theorem wf_1025 : Cond.instanceMethod ⟨"Switchboard$State", "attachSubscriber", "(II)I"⟩ ∈ WT := wt_of (i := 1025) (by decide +kernel) rfl
theorem wf_1026 : Cond.selects "Switchboard$State" ⟨"Switchboard$State", "attachSubscriber", "(II)I"⟩ ⟨"Switchboard$State", "attachSubscriber", "(II)I"⟩ ∈ WT := wt_of (i := 1026) (by decide +kernel) rfl
theorem fV_X6_attachSubscriber : cfV yX6_attachSubscriber cX6_attachSubscriber 4 (some .int) 2 := ⟨⟨⟨by decide +kernel, by decide +kernel, by decide +kernel⟩, wf_2, wf_1027⟩, wf_1025, wf_1026⟩
theorem wf_1032 : Cond.methodLink "Switchboard" 182 ⟨"Switchboard$State", "beginCall", "(IILSwitchboard$Router;)I"⟩ ∈ WT := wt_of (i := 1032) (by decide +kernel) rfl
theorem wf_1035 : Cond.code ⟨"Switchboard$State", "beginCall", "(IILSwitchboard$Router;)I"⟩ prog_8_method_11_code 5 (some .int) ∈ WT := wt_of (i := 1035) (by decide +kernel) rfl
theorem wf_1033 : Cond.instanceMethod ⟨"Switchboard$State", "beginCall", "(IILSwitchboard$Router;)I"⟩ ∈ WT := wt_of (i := 1033) (by decide +kernel) rfl
theorem wf_1034 : Cond.selects "Switchboard$State" ⟨"Switchboard$State", "beginCall", "(IILSwitchboard$Router;)I"⟩ ⟨"Switchboard$State", "beginCall", "(IILSwitchboard$Router;)I"⟩ ∈ WT := wt_of (i := 1034) (by decide +kernel) rfl
theorem fV_X6_beginCall : cfV yX6_beginCall cX6_beginCall 5 (some .int) 3 := ⟨⟨⟨by decide +kernel, by decide +kernel, by decide +kernel⟩, wf_2, wf_1035⟩, wf_1033, wf_1034⟩
theorem wf_1028 : Cond.methodLink "Switchboard" 146 ⟨"Switchboard", "startCall", "(II)I"⟩ ∈ WT := wt_of (i := 1028) (by decide +kernel) rfl
theorem wf_1031 : Cond.code ⟨"Switchboard", "startCall", "(II)I"⟩ prog_1_method_15_code 3 (some .int) ∈ WT := wt_of (i := 1031) (by decide +kernel) rfl
theorem wf_1030 : Cond.instanceMethod ⟨"Switchboard", "startCall", "(II)I"⟩ ∈ WT := wt_of (i := 1030) (by decide +kernel) rfl
theorem fV_X7_startCall : cfV yX7_startCall cX7_startCall 3 (some .int) 2 := ⟨⟨⟨by decide +kernel, by decide +kernel, by decide +kernel⟩, wf_1, wf_1031⟩, wf_1030, (wt_sel (i := 15) (n := 11) (by decide +kernel))⟩
theorem wf_1040 : Cond.methodLink "Switchboard" 152 ⟨"Switchboard$State", "endCall", "(I)I"⟩ ∈ WT := wt_of (i := 1040) (by decide +kernel) rfl
theorem wf_1043 : Cond.code ⟨"Switchboard$State", "endCall", "(I)I"⟩ prog_8_method_13_code 5 (some .int) ∈ WT := wt_of (i := 1043) (by decide +kernel) rfl
theorem wf_1041 : Cond.instanceMethod ⟨"Switchboard$State", "endCall", "(I)I"⟩ ∈ WT := wt_of (i := 1041) (by decide +kernel) rfl
theorem wf_1042 : Cond.selects "Switchboard$State" ⟨"Switchboard$State", "endCall", "(I)I"⟩ ⟨"Switchboard$State", "endCall", "(I)I"⟩ ∈ WT := wt_of (i := 1042) (by decide +kernel) rfl
theorem fV_X6_endCall : cfV yX6_endCall cX6_endCall 5 (some .int) 1 := ⟨⟨⟨by decide +kernel, by decide +kernel, by decide +kernel⟩, wf_2, wf_1043⟩, wf_1041, wf_1042⟩
theorem wf_72 : Cond.fieldLink "Switchboard" 186 "Switchboard$Network" "cutTrunks" "I" ∈ WT := wt_of (i := 72) (by decide +kernel) rfl
theorem wf_1052 : Cond.methodLink "Switchboard" 189 ⟨"Switchboard", "bit", "(I)I"⟩ ∈ WT := wt_of (i := 1052) (by decide +kernel) rfl
theorem wf_1053 : Cond.methodLink "Switchboard" 192 ⟨"Switchboard$State", "userIndexOf", "(I)I"⟩ ∈ WT := wt_of (i := 1053) (by decide +kernel) rfl
theorem wf_1056 : Cond.code ⟨"Switchboard$State", "userIndexOf", "(I)I"⟩ prog_8_method_8_code 3 (some .int) ∈ WT := wt_of (i := 1056) (by decide +kernel) rfl
theorem wf_1054 : Cond.instanceMethod ⟨"Switchboard$State", "userIndexOf", "(I)I"⟩ ∈ WT := wt_of (i := 1054) (by decide +kernel) rfl
theorem wf_1055 : Cond.selects "Switchboard$State" ⟨"Switchboard$State", "userIndexOf", "(I)I"⟩ ⟨"Switchboard$State", "userIndexOf", "(I)I"⟩ ∈ WT := wt_of (i := 1055) (by decide +kernel) rfl
theorem fV_X6_userIndexOf : cfV yX6_userIndexOf cX6_userIndexOf 3 (some .int) 1 := ⟨⟨⟨by decide +kernel, by decide +kernel, by decide +kernel⟩, wf_2, wf_1056⟩, wf_1054, wf_1055⟩
theorem wf_138 : Cond.fieldLink "Switchboard" 195 "Switchboard$State" "calls" "[LSwitchboard$Call;" ∈ WT := wt_of (i := 138) (by decide +kernel) rfl
theorem wf_1058 : Cond.methodLink "Switchboard" 199 ⟨"Switchboard$Call", "trunkBits", "()I"⟩ ∈ WT := wt_of (i := 1058) (by decide +kernel) rfl
theorem wf_98 : Cond.fieldLink "Switchboard" 204 "Switchboard$Call" "caller" "I" ∈ WT := wt_of (i := 98) (by decide +kernel) rfl
theorem wf_101 : Cond.fieldLink "Switchboard" 207 "Switchboard$Call" "callee" "I" ∈ WT := wt_of (i := 101) (by decide +kernel) rfl
theorem wf_1059 : Cond.methodLink "Switchboard" 210 ⟨"Switchboard$Call", "takeRoute", "(LSwitchboard$Router;)V"⟩ ∈ WT := wt_of (i := 1059) (by decide +kernel) rfl
theorem wf_1048 : Cond.methodLink "Switchboard" 155 ⟨"Switchboard", "severTrunk", "(I)I"⟩ ∈ WT := wt_of (i := 1048) (by decide +kernel) rfl
theorem wf_1051 : Cond.code ⟨"Switchboard", "severTrunk", "(I)I"⟩ prog_1_method_16_code 5 (some .int) ∈ WT := wt_of (i := 1051) (by decide +kernel) rfl
theorem wf_1050 : Cond.instanceMethod ⟨"Switchboard", "severTrunk", "(I)I"⟩ ∈ WT := wt_of (i := 1050) (by decide +kernel) rfl
theorem fV_X7_severTrunk : cfV yX7_severTrunk cX7_severTrunk 5 (some .int) 1 := ⟨⟨⟨by decide +kernel, by decide +kernel, by decide +kernel⟩, wf_1, wf_1051⟩, wf_1050, (wt_sel (i := 16) (n := 11) (by decide +kernel))⟩
theorem wf_1060 : Cond.methodLink "Switchboard" 158 ⟨"Switchboard$Network", "repairTrunk", "(I)I"⟩ ∈ WT := wt_of (i := 1060) (by decide +kernel) rfl
theorem wf_1063 : Cond.code ⟨"Switchboard$Network", "repairTrunk", "(I)I"⟩ prog_5_method_9_code 2 (some .int) ∈ WT := wt_of (i := 1063) (by decide +kernel) rfl
theorem wf_1061 : Cond.instanceMethod ⟨"Switchboard$Network", "repairTrunk", "(I)I"⟩ ∈ WT := wt_of (i := 1061) (by decide +kernel) rfl
theorem wf_1062 : Cond.selects "Switchboard$Network" ⟨"Switchboard$Network", "repairTrunk", "(I)I"⟩ ⟨"Switchboard$Network", "repairTrunk", "(I)I"⟩ ∈ WT := wt_of (i := 1062) (by decide +kernel) rfl
theorem fV_X3_repairTrunk : cfV yX3_repairTrunk cX3_repairTrunk 2 (some .int) 1 := ⟨⟨⟨by decide +kernel, by decide +kernel, by decide +kernel⟩, wf_3, wf_1063⟩, wf_1061, wf_1062⟩
theorem wf_1070 : Cond.methodLink "Switchboard" 161 ⟨"Switchboard$State", "addMinutes", "(I)I"⟩ ∈ WT := wt_of (i := 1070) (by decide +kernel) rfl
theorem wf_1073 : Cond.code ⟨"Switchboard$State", "addMinutes", "(I)I"⟩ prog_8_method_14_code 5 (some .int) ∈ WT := wt_of (i := 1073) (by decide +kernel) rfl
theorem wf_1071 : Cond.instanceMethod ⟨"Switchboard$State", "addMinutes", "(I)I"⟩ ∈ WT := wt_of (i := 1071) (by decide +kernel) rfl
theorem wf_1072 : Cond.selects "Switchboard$State" ⟨"Switchboard$State", "addMinutes", "(I)I"⟩ ⟨"Switchboard$State", "addMinutes", "(I)I"⟩ ∈ WT := wt_of (i := 1072) (by decide +kernel) rfl
theorem fV_X6_addMinutes : cfV yX6_addMinutes cX6_addMinutes 5 (some .int) 1 := ⟨⟨⟨by decide +kernel, by decide +kernel, by decide +kernel⟩, wf_2, wf_1073⟩, wf_1071, wf_1072⟩
theorem wf_1012 : Cond.methodLink "Switchboard" 83 ⟨"Switchboard", "perform", "(IIII)I"⟩ ∈ WT := wt_of (i := 1012) (by decide +kernel) rfl
theorem wf_1015 : Cond.code ⟨"Switchboard", "perform", "(IIII)I"⟩ prog_1_method_13_code 5 (some .int) ∈ WT := wt_of (i := 1015) (by decide +kernel) rfl
theorem wf_1014 : Cond.instanceMethod ⟨"Switchboard", "perform", "(IIII)I"⟩ ∈ WT := wt_of (i := 1014) (by decide +kernel) rfl
theorem fV_X7_perform : cfV yX7_perform cX7_perform 5 (some .int) 4 := ⟨⟨⟨by decide +kernel, by decide +kernel, by decide +kernel⟩, wf_1, wf_1015⟩, wf_1014, (wt_sel (i := 14) (n := 11) (by decide +kernel))⟩
theorem wf_885 : Cond.methodLink "Switchboard" 68 ⟨"Switchboard", "change", "(IIII)I"⟩ ∈ WT := wt_of (i := 885) (by decide +kernel) rfl
theorem wf_888 : Cond.code ⟨"Switchboard", "change", "(IIII)I"⟩ prog_1_method_10_code 5 (some .int) ∈ WT := wt_of (i := 888) (by decide +kernel) rfl
theorem wf_887 : Cond.instanceMethod ⟨"Switchboard", "change", "(IIII)I"⟩ ∈ WT := wt_of (i := 887) (by decide +kernel) rfl
theorem fV_X7_change : cfV yX7_change cX7_change 5 (some .int) 4 := ⟨⟨⟨by decide +kernel, by decide +kernel, by decide +kernel⟩, wf_1, wf_888⟩, wf_887, (wt_sel (i := 9) (n := 11) (by decide +kernel))⟩
theorem wf_55 : Cond.fieldLink "Switchboard" 214 "Switchboard$Network" "switchCount" "I" ∈ WT := wt_of (i := 55) (by decide +kernel) rfl
theorem wf_58 : Cond.fieldLink "Switchboard" 217 "Switchboard$Network" "trunkCount" "I" ∈ WT := wt_of (i := 58) (by decide +kernel) rfl
theorem wf_1143 : Cond.methodLink "Switchboard" 244 ⟨"Switchboard$Network", "hasTrunk", "(I)Z"⟩ ∈ WT := wt_of (i := 1143) (by decide +kernel) rfl
theorem wf_1139 : Cond.methodLink "Switchboard" 220 ⟨"Switchboard", "needTrunk", "(I)V"⟩ ∈ WT := wt_of (i := 1139) (by decide +kernel) rfl
theorem wf_1142 : Cond.code ⟨"Switchboard", "needTrunk", "(I)V"⟩ prog_1_method_24_code 2 none ∈ WT := wt_of (i := 1142) (by decide +kernel) rfl
theorem wf_1141 : Cond.instanceMethod ⟨"Switchboard", "needTrunk", "(I)V"⟩ ∈ WT := wt_of (i := 1141) (by decide +kernel) rfl
theorem fV_X7_needTrunk : cfV yX7_needTrunk cX7_needTrunk 2 none 1 := ⟨⟨⟨by decide +kernel, by decide +kernel, by decide +kernel⟩, wf_1, wf_1142⟩, wf_1141, (wt_sel (i := 17) (n := 11) (by decide +kernel))⟩
theorem wf_67 : Cond.fieldLink "Switchboard" 223 "Switchboard$Network" "lengths" "[I" ∈ WT := wt_of (i := 67) (by decide +kernel) rfl
theorem wf_1152 : Cond.methodLink "Switchboard" 227 ⟨"Switchboard$Network", "acrossFrom", "(II)I"⟩ ∈ WT := wt_of (i := 1152) (by decide +kernel) rfl
theorem wf_1161 : Cond.methodLink "Switchboard" 232 ⟨"Switchboard", "hasBit", "(II)Z"⟩ ∈ WT := wt_of (i := 1161) (by decide +kernel) rfl
theorem wf_1170 : Cond.classLink "Switchboard" 236 "java/util/NoSuchElementException" ∈ WT := wt_of (i := 1170) (by decide +kernel) rfl
theorem wf_27 : Cond.initialized "java/util/NoSuchElementException" ∈ WT := wt_of (i := 27) (by decide +kernel) rfl
set_option maxRecDepth 100000 in
theorem tw_X7_240 : xTq "Switchboard" "java/util/NoSuchElementException" 236 240 13 prog_38_method_4_code := ⟨by decide +kernel, by decide +kernel, by decide +kernel, by decide +kernel, wf_1170, wf_27, by decide +kernel, fun x hx => by
  rcases (by decide +kernel : ∀ x ∈ xo_at "Switchboard" 240 "java/util/NoSuchElementException" 13 prog_38_method_4_code ["java/lang/RuntimeException", "java/lang/Exception"], (x ∈ lw_tbl ∧ goodWord x = true) ∨ x = .castable "java/util/NoSuchElementException" "java/util/NoSuchElementException" ∨ ∃ y ∈ xe_D, x = .declares y) x hx with h | h | h
  · exact Or.inl (wt_in h.1 h.2)
  · exact Or.inr (Or.inl ⟨h, by decide⟩)
  · exact Or.inr (Or.inr h), by decide +kernel⟩
theorem wf_69 : Cond.fieldLink "Switchboard" 241 "Switchboard$Network" "carried" "[I" ∈ WT := wt_of (i := 69) (by decide +kernel) rfl
theorem wf_1204 : Cond.methodLink "Switchboard" 272 ⟨"Switchboard$Network", "hasSwitch", "(I)Z"⟩ ∈ WT := wt_of (i := 1204) (by decide +kernel) rfl
theorem wf_1200 : Cond.methodLink "Switchboard" 249 ⟨"Switchboard", "needSwitches", "(II)V"⟩ ∈ WT := wt_of (i := 1200) (by decide +kernel) rfl
theorem wf_1203 : Cond.code ⟨"Switchboard", "needSwitches", "(II)V"⟩ prog_1_method_29_code 3 none ∈ WT := wt_of (i := 1203) (by decide +kernel) rfl
theorem wf_1202 : Cond.instanceMethod ⟨"Switchboard", "needSwitches", "(II)V"⟩ ∈ WT := wt_of (i := 1202) (by decide +kernel) rfl
theorem fV_X7_needSwitches : cfV yX7_needSwitches cX7_needSwitches 3 none 2 := ⟨⟨⟨by decide +kernel, by decide +kernel, by decide +kernel⟩, wf_1, wf_1203⟩, wf_1202, (wt_sel (i := 18) (n := 11) (by decide +kernel))⟩
theorem wf_1206 : Cond.methodLink "Switchboard" 253 ⟨"Switchboard$Router", "shortestLength", "(LSwitchboard$Network;III)I"⟩ ∈ WT := wt_of (i := 1206) (by decide +kernel) rfl
theorem wf_1207 : Cond.methodLink "Switchboard" 257 ⟨"Switchboard", "needLength", "(I)I"⟩ ∈ WT := wt_of (i := 1207) (by decide +kernel) rfl
theorem wf_1209 : Cond.code ⟨"Switchboard", "needLength", "(I)I"⟩ prog_1_method_31_code 1 (some .int) ∈ WT := wt_of (i := 1209) (by decide +kernel) rfl
theorem wf_1208 : Cond.static ⟨"Switchboard", "needLength", "(I)I"⟩ ∈ WT := wt_of (i := 1208) (by decide +kernel) rfl
theorem fS_X7_needLength : cfS yX7_needLength cX7_needLength 1 (some .int) 1 := ⟨⟨⟨by decide +kernel, by decide +kernel, by decide +kernel⟩, wf_1, wf_1209⟩, wf_1208⟩
theorem wf_1217 : Cond.methodLink "Switchboard" 260 ⟨"Switchboard$Router", "relaxedLength", "(LSwitchboard$Network;III)I"⟩ ∈ WT := wt_of (i := 1217) (by decide +kernel) rfl
theorem wf_1225 : Cond.methodLink "Switchboard" 263 ⟨"Switchboard", "needDifferent", "(II)V"⟩ ∈ WT := wt_of (i := 1225) (by decide +kernel) rfl
theorem wf_1227 : Cond.code ⟨"Switchboard", "needDifferent", "(II)V"⟩ prog_1_method_30_code 2 none ∈ WT := wt_of (i := 1227) (by decide +kernel) rfl
theorem wf_1226 : Cond.static ⟨"Switchboard", "needDifferent", "(II)V"⟩ ∈ WT := wt_of (i := 1226) (by decide +kernel) rfl
theorem fS_X7_needDifferent : cfS yX7_needDifferent cX7_needDifferent 2 none 2 := ⟨⟨⟨by decide +kernel, by decide +kernel, by decide +kernel⟩, wf_1, wf_1227⟩, wf_1226⟩
theorem wf_1229 : Cond.methodLink "Switchboard" 266 ⟨"Switchboard$Router", "countDisjoint", "(LSwitchboard$Network;III)I"⟩ ∈ WT := wt_of (i := 1229) (by decide +kernel) rfl
theorem wf_1237 : Cond.methodLink "Switchboard" 269 ⟨"Switchboard$Router", "smallestCut", "(LSwitchboard$Network;III)I"⟩ ∈ WT := wt_of (i := 1237) (by decide +kernel) rfl
theorem wf_129 : Cond.fieldLink "Switchboard" 279 "Switchboard$State" "subscriberCount" "I" ∈ WT := wt_of (i := 129) (by decide +kernel) rfl
theorem wf_1245 : Cond.methodLink "Switchboard" 282 ⟨"Switchboard", "needSubscriber", "(I)V"⟩ ∈ WT := wt_of (i := 1245) (by decide +kernel) rfl
theorem wf_1248 : Cond.code ⟨"Switchboard", "needSubscriber", "(I)V"⟩ prog_1_method_43_code 2 none ∈ WT := wt_of (i := 1248) (by decide +kernel) rfl
theorem wf_1247 : Cond.instanceMethod ⟨"Switchboard", "needSubscriber", "(I)V"⟩ ∈ WT := wt_of (i := 1247) (by decide +kernel) rfl
theorem fV_X7_needSubscriber : cfV yX7_needSubscriber cX7_needSubscriber 2 none 1 := ⟨⟨⟨by decide +kernel, by decide +kernel, by decide +kernel⟩, wf_1, wf_1248⟩, wf_1247, (wt_sel (i := 19) (n := 11) (by decide +kernel))⟩
theorem wf_132 : Cond.fieldLink "Switchboard" 285 "Switchboard$State" "tariffs" "[I" ∈ WT := wt_of (i := 132) (by decide +kernel) rfl
theorem wf_134 : Cond.fieldLink "Switchboard" 288 "Switchboard$State" "bills" "[I" ∈ WT := wt_of (i := 134) (by decide +kernel) rfl
theorem wf_1278 : Cond.methodLink "Switchboard" 291 ⟨"Switchboard", "needCall", "(I)LSwitchboard$Call;"⟩ ∈ WT := wt_of (i := 1278) (by decide +kernel) rfl
theorem wf_1281 : Cond.code ⟨"Switchboard", "needCall", "(I)LSwitchboard$Call;"⟩ prog_1_method_44_code 3 (some (.object "Switchboard$Call")) ∈ WT := wt_of (i := 1281) (by decide +kernel) rfl
theorem wf_1280 : Cond.instanceMethod ⟨"Switchboard", "needCall", "(I)LSwitchboard$Call;"⟩ ∈ WT := wt_of (i := 1280) (by decide +kernel) rfl
theorem fV_X7_needCall : cfV yX7_needCall cX7_needCall 3 (some (.object "Switchboard$Call")) 1 := ⟨⟨⟨by decide +kernel, by decide +kernel, by decide +kernel⟩, wf_1, wf_1281⟩, wf_1280, (wt_sel (i := 20) (n := 11) (by decide +kernel))⟩
theorem wf_104 : Cond.fieldLink "Switchboard" 295 "Switchboard$Call" "minutes" "I" ∈ WT := wt_of (i := 104) (by decide +kernel) rfl
theorem wf_107 : Cond.fieldLink "Switchboard" 298 "Switchboard$Call" "routeSize" "I" ∈ WT := wt_of (i := 107) (by decide +kernel) rfl
theorem wf_112 : Cond.fieldLink "Switchboard" 303 "Switchboard$Call" "route" "[I" ∈ WT := wt_of (i := 112) (by decide +kernel) rfl
theorem wf_1312 : Cond.methodLink "Switchboard" 306 ⟨"Switchboard$State", "chargeOf", "(LSwitchboard$Call;)I"⟩ ∈ WT := wt_of (i := 1312) (by decide +kernel) rfl
theorem wf_136 : Cond.fieldLink "Switchboard" 310 "Switchboard$State" "callCount" "I" ∈ WT := wt_of (i := 136) (by decide +kernel) rfl
theorem wf_189 : Cond.fieldLink "Switchboard" 317 "Switchboard$BlockedCalls" "count" "I" ∈ WT := wt_of (i := 189) (by decide +kernel) rfl
theorem wf_1320 : Cond.methodLink "Switchboard" 320 ⟨"Switchboard", "needBlocked", "(I)V"⟩ ∈ WT := wt_of (i := 1320) (by decide +kernel) rfl
theorem wf_1323 : Cond.code ⟨"Switchboard", "needBlocked", "(I)V"⟩ prog_1_method_49_code 2 none ∈ WT := wt_of (i := 1323) (by decide +kernel) rfl
theorem wf_1322 : Cond.instanceMethod ⟨"Switchboard", "needBlocked", "(I)V"⟩ ∈ WT := wt_of (i := 1322) (by decide +kernel) rfl
theorem fV_X7_needBlocked : cfV yX7_needBlocked cX7_needBlocked 2 none 1 := ⟨⟨⟨by decide +kernel, by decide +kernel, by decide +kernel⟩, wf_1, wf_1323⟩, wf_1322, (wt_sel (i := 21) (n := 11) (by decide +kernel))⟩
theorem wf_191 : Cond.fieldLink "Switchboard" 323 "Switchboard$BlockedCalls" "callers" "[I" ∈ WT := wt_of (i := 191) (by decide +kernel) rfl
theorem wf_193 : Cond.fieldLink "Switchboard" 326 "Switchboard$BlockedCalls" "callees" "[I" ∈ WT := wt_of (i := 193) (by decide +kernel) rfl
theorem wf_195 : Cond.fieldLink "Switchboard" 329 "Switchboard$BlockedCalls" "reasons" "[C" ∈ WT := wt_of (i := 195) (by decide +kernel) rfl
theorem wf_368 : Cond.methodLink "Switchboard" 335 ⟨"Switchboard$State", "sumOfBills", "()J"⟩ ∈ WT := wt_of (i := 368) (by decide +kernel) rfl
theorem wf_371 : Cond.code ⟨"Switchboard$State", "sumOfBills", "()J"⟩ prog_8_method_15_code 4 (some .long) ∈ WT := wt_of (i := 371) (by decide +kernel) rfl
theorem wf_369 : Cond.instanceMethod ⟨"Switchboard$State", "sumOfBills", "()J"⟩ ∈ WT := wt_of (i := 369) (by decide +kernel) rfl
theorem wf_370 : Cond.selects "Switchboard$State" ⟨"Switchboard$State", "sumOfBills", "()J"⟩ ⟨"Switchboard$State", "sumOfBills", "()J"⟩ ∈ WT := wt_of (i := 370) (by decide +kernel) rfl
theorem fV_X6_sumOfBills : cfV yX6_sumOfBills cX6_sumOfBills 4 (some .long) 0 := ⟨⟨⟨by decide +kernel, by decide +kernel, by decide +kernel⟩, wf_2, wf_371⟩, wf_369, wf_370⟩
theorem wf_140 : Cond.fieldLink "Switchboard" 339 "Switchboard$State" "charged" "J" ∈ WT := wt_of (i := 140) (by decide +kernel) rfl
theorem wf_1346 : Cond.methodLink "Switchboard" 343 ⟨"Switchboard$State", "rankOf", "(I)I"⟩ ∈ WT := wt_of (i := 1346) (by decide +kernel) rfl
theorem wf_1349 : Cond.code ⟨"Switchboard$State", "rankOf", "(I)I"⟩ prog_8_method_16_code 5 (some .int) ∈ WT := wt_of (i := 1349) (by decide +kernel) rfl
theorem wf_1347 : Cond.instanceMethod ⟨"Switchboard$State", "rankOf", "(I)I"⟩ ∈ WT := wt_of (i := 1347) (by decide +kernel) rfl
theorem wf_1348 : Cond.selects "Switchboard$State" ⟨"Switchboard$State", "rankOf", "(I)I"⟩ ⟨"Switchboard$State", "rankOf", "(I)I"⟩ ∈ WT := wt_of (i := 1348) (by decide +kernel) rfl
theorem fV_X6_rankOf : cfV yX6_rankOf cX6_rankOf 5 (some .int) 1 := ⟨⟨⟨by decide +kernel, by decide +kernel, by decide +kernel⟩, wf_2, wf_1349⟩, wf_1347, wf_1348⟩
theorem wf_399 : Cond.methodLink "Switchboard" 366 ⟨"Switchboard$Router", "agreesWithItself", "(LSwitchboard$Network;I)Z"⟩ ∈ WT := wt_of (i := 399) (by decide +kernel) rfl
theorem wf_402 : Cond.code ⟨"Switchboard$Router", "agreesWithItself", "(LSwitchboard$Network;I)Z"⟩ prog_7_method_17_code 5 (some .boolean) ∈ WT := wt_of (i := 402) (by decide +kernel) rfl
theorem wf_400 : Cond.instanceMethod ⟨"Switchboard$Router", "agreesWithItself", "(LSwitchboard$Network;I)Z"⟩ ∈ WT := wt_of (i := 400) (by decide +kernel) rfl
theorem wf_401 : Cond.selects "Switchboard$Router" ⟨"Switchboard$Router", "agreesWithItself", "(LSwitchboard$Network;I)Z"⟩ ⟨"Switchboard$Router", "agreesWithItself", "(LSwitchboard$Network;I)Z"⟩ ∈ WT := wt_of (i := 401) (by decide +kernel) rfl
theorem fV_X5_agreesWithItself : cfV yX5_agreesWithItself cX5_agreesWithItself 5 (some .boolean) 2 := ⟨⟨⟨by decide +kernel, by decide +kernel, by decide +kernel⟩, wf_8, wf_402⟩, wf_400, wf_401⟩
theorem wf_477 : Cond.methodLink "Switchboard" 370 ⟨"Switchboard$State", "sharesNoTrunk", "()Z"⟩ ∈ WT := wt_of (i := 477) (by decide +kernel) rfl
theorem wf_480 : Cond.code ⟨"Switchboard$State", "sharesNoTrunk", "()Z"⟩ prog_8_method_17_code 4 (some .boolean) ∈ WT := wt_of (i := 480) (by decide +kernel) rfl
theorem wf_478 : Cond.instanceMethod ⟨"Switchboard$State", "sharesNoTrunk", "()Z"⟩ ∈ WT := wt_of (i := 478) (by decide +kernel) rfl
theorem wf_479 : Cond.selects "Switchboard$State" ⟨"Switchboard$State", "sharesNoTrunk", "()Z"⟩ ⟨"Switchboard$State", "sharesNoTrunk", "()Z"⟩ ∈ WT := wt_of (i := 479) (by decide +kernel) rfl
theorem fV_X6_sharesNoTrunk : cfV yX6_sharesNoTrunk cX6_sharesNoTrunk 4 (some .boolean) 0 := ⟨⟨⟨by decide +kernel, by decide +kernel, by decide +kernel⟩, wf_2, wf_480⟩, wf_478, wf_479⟩
theorem wf_315 : Cond.fieldLink "Switchboard" 39 "Switchboard" "program" "LSwitchboard$Program;" ∈ WT := wt_of (i := 315) (by decide +kernel) rfl
theorem wf_214 : Cond.fieldLink "Switchboard" 407 "Switchboard$Program" "size" "I" ∈ WT := wt_of (i := 214) (by decide +kernel) rfl
theorem wf_1419 : Cond.methodLink "Switchboard" 412 ⟨"Switchboard$Program", "append", "(C)I"⟩ ∈ WT := wt_of (i := 1419) (by decide +kernel) rfl
theorem wf_1422 : Cond.code ⟨"Switchboard$Program", "append", "(C)I"⟩ prog_6_method_2_code 2 (some .int) ∈ WT := wt_of (i := 1422) (by decide +kernel) rfl
theorem wf_1420 : Cond.instanceMethod ⟨"Switchboard$Program", "append", "(C)I"⟩ ∈ WT := wt_of (i := 1420) (by decide +kernel) rfl
theorem wf_1421 : Cond.selects "Switchboard$Program" ⟨"Switchboard$Program", "append", "(C)I"⟩ ⟨"Switchboard$Program", "append", "(C)I"⟩ ∈ WT := wt_of (i := 1421) (by decide +kernel) rfl
theorem fV_X4_append : cfV yX4_append cX4_append 2 (some .int) 1 := ⟨⟨⟨by decide +kernel, by decide +kernel, by decide +kernel⟩, wf_7, wf_1422⟩, wf_1420, wf_1421⟩
theorem wf_1430 : Cond.methodLink "Switchboard" 415 ⟨"Switchboard$Program", "parse", "()I"⟩ ∈ WT := wt_of (i := 1430) (by decide +kernel) rfl
theorem wf_1433 : Cond.code ⟨"Switchboard$Program", "parse", "()I"⟩ prog_6_method_3_code 3 (some .int) ∈ WT := wt_of (i := 1433) (by decide +kernel) rfl
theorem wf_1431 : Cond.instanceMethod ⟨"Switchboard$Program", "parse", "()I"⟩ ∈ WT := wt_of (i := 1431) (by decide +kernel) rfl
theorem wf_1432 : Cond.selects "Switchboard$Program" ⟨"Switchboard$Program", "parse", "()I"⟩ ⟨"Switchboard$Program", "parse", "()I"⟩ ∈ WT := wt_of (i := 1432) (by decide +kernel) rfl
theorem fV_X4_parse : cfV yX4_parse cX4_parse 3 (some .int) 0 := ⟨⟨⟨by decide +kernel, by decide +kernel, by decide +kernel⟩, wf_7, wf_1433⟩, wf_1431, wf_1432⟩
theorem wf_312 : Cond.fieldLink "Switchboard" 19 "Switchboard" "beforeRun" "LSwitchboard$State;" ∈ WT := wt_of (i := 312) (by decide +kernel) rfl
theorem wf_858 : Cond.methodLink "Switchboard" 420 ⟨"Switchboard$State", "copyFrom", "(LSwitchboard$State;)V"⟩ ∈ WT := wt_of (i := 858) (by decide +kernel) rfl
theorem wf_216 : Cond.fieldLink "Switchboard" 428 "Switchboard$Program" "commandCount" "I" ∈ WT := wt_of (i := 216) (by decide +kernel) rfl
theorem wf_218 : Cond.fieldLink "Switchboard" 435 "Switchboard$Program" "kinds" "[I" ∈ WT := wt_of (i := 218) (by decide +kernel) rfl
theorem wf_220 : Cond.fieldLink "Switchboard" 438 "Switchboard$Program" "firsts" "[I" ∈ WT := wt_of (i := 220) (by decide +kernel) rfl
theorem wf_222 : Cond.fieldLink "Switchboard" 441 "Switchboard$Program" "seconds" "[I" ∈ WT := wt_of (i := 222) (by decide +kernel) rfl
theorem wf_224 : Cond.fieldLink "Switchboard" 444 "Switchboard$Program" "thirds" "[I" ∈ WT := wt_of (i := 224) (by decide +kernel) rfl
theorem wf_1502 : Cond.methodLink "Switchboard" 423 ⟨"Switchboard", "performProgram", "()I"⟩ ∈ WT := wt_of (i := 1502) (by decide +kernel) rfl
theorem wf_1505 : Cond.code ⟨"Switchboard", "performProgram", "()I"⟩ prog_1_method_63_code 6 (some .int) ∈ WT := wt_of (i := 1505) (by decide +kernel) rfl
theorem wf_1504 : Cond.instanceMethod ⟨"Switchboard", "performProgram", "()I"⟩ ∈ WT := wt_of (i := 1504) (by decide +kernel) rfl
theorem fV_X7_performProgram : cfV yX7_performProgram cX7_performProgram 6 (some .int) 0 := ⟨⟨⟨by decide +kernel, by decide +kernel, by decide +kernel⟩, wf_1, wf_1505⟩, wf_1504, (wt_sel (i := 31) (n := 11) (by decide +kernel))⟩
theorem wf_320 : Cond.fieldLink "Switchboard" 65 "Switchboard" "lastFailure" "I" ∈ WT := wt_of (i := 320) (by decide +kernel) rfl
theorem wf_319 : Cond.fieldLink "Switchboard" 61 "Switchboard" "lastError" "I" ∈ WT := wt_of (i := 319) (by decide +kernel) rfl
theorem wf_172 : Cond.fieldLink "Switchboard" 447 "Switchboard$History" "count" "I" ∈ WT := wt_of (i := 172) (by decide +kernel) rfl
theorem wf_1531 : Cond.methodLink "Switchboard" 450 ⟨"Switchboard$History", "takeBack", "(LSwitchboard$State;)V"⟩ ∈ WT := wt_of (i := 1531) (by decide +kernel) rfl
theorem wf_1534 : Cond.code ⟨"Switchboard$History", "takeBack", "(LSwitchboard$State;)V"⟩ prog_4_method_3_code 2 none ∈ WT := wt_of (i := 1534) (by decide +kernel) rfl
theorem wf_1532 : Cond.instanceMethod ⟨"Switchboard$History", "takeBack", "(LSwitchboard$State;)V"⟩ ∈ WT := wt_of (i := 1532) (by decide +kernel) rfl
theorem wf_1533 : Cond.selects "Switchboard$History" ⟨"Switchboard$History", "takeBack", "(LSwitchboard$State;)V"⟩ ⟨"Switchboard$History", "takeBack", "(LSwitchboard$State;)V"⟩ ∈ WT := wt_of (i := 1533) (by decide +kernel) rfl
theorem fV_X2_takeBack : cfV yX2_takeBack cX2_takeBack 2 none 1 := ⟨⟨⟨by decide +kernel, by decide +kernel, by decide +kernel⟩, wf_5, wf_1534⟩, wf_1532, wf_1533⟩
theorem wf_311 : Cond.fieldLink "Switchboard" 16 "Switchboard" "saved" "LSwitchboard$State;" ∈ WT := wt_of (i := 311) (by decide +kernel) rfl
theorem wf_318 : Cond.fieldLink "Switchboard" 57 "Switchboard" "hasSaved" "Z" ∈ WT := wt_of (i := 318) (by decide +kernel) rfl
theorem wf_1543 : Cond.methodLink "Switchboard" 455 ⟨"Switchboard$History", "forget", "()V"⟩ ∈ WT := wt_of (i := 1543) (by decide +kernel) rfl
theorem wf_1546 : Cond.code ⟨"Switchboard$History", "forget", "()V"⟩ prog_4_method_4_code 1 none ∈ WT := wt_of (i := 1546) (by decide +kernel) rfl
theorem wf_1544 : Cond.instanceMethod ⟨"Switchboard$History", "forget", "()V"⟩ ∈ WT := wt_of (i := 1544) (by decide +kernel) rfl
theorem wf_1545 : Cond.selects "Switchboard$History" ⟨"Switchboard$History", "forget", "()V"⟩ ⟨"Switchboard$History", "forget", "()V"⟩ ∈ WT := wt_of (i := 1545) (by decide +kernel) rfl
theorem fV_X2_forget : cfV yX2_forget cX2_forget 1 none 0 := ⟨⟨⟨by decide +kernel, by decide +kernel, by decide +kernel⟩, wf_5, wf_1546⟩, wf_1544, wf_1545⟩
theorem wf_1561 : Cond.fieldLink "SwitchboardModel" 34 "SwitchboardModel" "thrown" "I" ∈ WT := wt_of (i := 1561) (by decide +kernel) rfl
theorem wf_1553 : Cond.fieldLink "SwitchboardModel" 7 "SwitchboardModel" "now" "[I" ∈ WT := wt_of (i := 1553) (by decide +kernel) rfl
theorem wf_1554 : Cond.fieldLink "SwitchboardModel" 13 "SwitchboardModel" "before" "[I" ∈ WT := wt_of (i := 1554) (by decide +kernel) rfl
theorem wf_1641 : Cond.methodLink "SwitchboardModel" 87 ⟨"SwitchboardModel", "copy", "([II[II)V"⟩ ∈ WT := wt_of (i := 1641) (by decide +kernel) rfl
theorem wf_13 : Cond.initialized "SwitchboardModel" ∈ WT := wt_of (i := 13) (by decide +kernel) rfl
theorem wf_1643 : Cond.code ⟨"SwitchboardModel", "copy", "([II[II)V"⟩ prog_10_method_4_code 5 none ∈ WT := wt_of (i := 1643) (by decide +kernel) rfl
theorem wf_1642 : Cond.static ⟨"SwitchboardModel", "copy", "([II[II)V"⟩ ∈ WT := wt_of (i := 1642) (by decide +kernel) rfl
theorem fS_X8_copy : cfS yX8_copy cX8_copy 5 none 4 := ⟨⟨⟨by decide +kernel, by decide +kernel, by decide +kernel⟩, wf_13, wf_1643⟩, wf_1642⟩
theorem wf_1556 : Cond.fieldLink "SwitchboardModel" 19 "SwitchboardModel" "history" "[I" ∈ WT := wt_of (i := 1556) (by decide +kernel) rfl
theorem wf_1562 : Cond.fieldLink "SwitchboardModel" 38 "SwitchboardModel" "depth" "I" ∈ WT := wt_of (i := 1562) (by decide +kernel) rfl
theorem wf_1668 : Cond.methodLink "SwitchboardModel" 91 ⟨"SwitchboardModel", "in", "(III)Z"⟩ ∈ WT := wt_of (i := 1668) (by decide +kernel) rfl
theorem wf_1670 : Cond.code ⟨"SwitchboardModel", "in", "(III)Z"⟩ prog_10_method_3_code 3 (some .boolean) ∈ WT := wt_of (i := 1670) (by decide +kernel) rfl
theorem wf_1669 : Cond.static ⟨"SwitchboardModel", "in", "(III)Z"⟩ ∈ WT := wt_of (i := 1669) (by decide +kernel) rfl
theorem fS_X8_in : cfS yX8_in cX8_in 3 (some .boolean) 3 := ⟨⟨⟨by decide +kernel, by decide +kernel, by decide +kernel⟩, wf_13, wf_1670⟩, wf_1669⟩
theorem wf_1719 : Cond.methodLink "SwitchboardModel" 95 ⟨"SwitchboardModel", "c", "(II)I"⟩ ∈ WT := wt_of (i := 1719) (by decide +kernel) rfl
theorem wf_1722 : Cond.code ⟨"SwitchboardModel", "c", "(II)I"⟩ prog_10_method_11_code 3 (some .int) ∈ WT := wt_of (i := 1722) (by decide +kernel) rfl
theorem wf_1721 : Cond.instanceMethod ⟨"SwitchboardModel", "c", "(II)I"⟩ ∈ WT := wt_of (i := 1721) (by decide +kernel) rfl
theorem fV_X8_c : cfV yX8_c cX8_c 3 (some .int) 2 := ⟨⟨⟨by decide +kernel, by decide +kernel, by decide +kernel⟩, wf_13, wf_1722⟩, wf_1721, (wt_sel (i := 48) (n := 25) (by decide +kernel))⟩
theorem wf_1715 : Cond.methodLink "SwitchboardModel" 99 ⟨"SwitchboardModel", "passesOver", "(II)Z"⟩ ∈ WT := wt_of (i := 1715) (by decide +kernel) rfl
theorem wf_1718 : Cond.code ⟨"SwitchboardModel", "passesOver", "(II)Z"⟩ prog_10_method_16_code 4 (some .boolean) ∈ WT := wt_of (i := 1718) (by decide +kernel) rfl
theorem wf_1717 : Cond.instanceMethod ⟨"SwitchboardModel", "passesOver", "(II)Z"⟩ ∈ WT := wt_of (i := 1717) (by decide +kernel) rfl
theorem fV_X8_passesOver : cfV yX8_passesOver cX8_passesOver 4 (some .boolean) 2 := ⟨⟨⟨by decide +kernel, by decide +kernel, by decide +kernel⟩, wf_13, wf_1718⟩, wf_1717, (wt_sel (i := 47) (n := 25) (by decide +kernel))⟩
theorem wf_1637 : Cond.methodLink "SwitchboardModel" 103 ⟨"SwitchboardModel", "begin", "()V"⟩ ∈ WT := wt_of (i := 1637) (by decide +kernel) rfl
theorem wf_1640 : Cond.code ⟨"SwitchboardModel", "begin", "()V"⟩ prog_10_method_6_code 1 none ∈ WT := wt_of (i := 1640) (by decide +kernel) rfl
theorem wf_1639 : Cond.instanceMethod ⟨"SwitchboardModel", "begin", "()V"⟩ ∈ WT := wt_of (i := 1639) (by decide +kernel) rfl
theorem fV_X8_begin : cfV yX8_begin cX8_begin 1 none 0 := ⟨⟨⟨by decide +kernel, by decide +kernel, by decide +kernel⟩, wf_13, wf_1640⟩, wf_1639, (wt_sel (i := 32) (n := 25) (by decide +kernel))⟩
theorem wf_1648 : Cond.methodLink "SwitchboardModel" 110 ⟨"SwitchboardModel", "addsSwitch", "()I"⟩ ∈ WT := wt_of (i := 1648) (by decide +kernel) rfl
theorem wf_1651 : Cond.code ⟨"SwitchboardModel", "addsSwitch", "()I"⟩ prog_10_method_19_code 1 (some .int) ∈ WT := wt_of (i := 1651) (by decide +kernel) rfl
theorem wf_1650 : Cond.instanceMethod ⟨"SwitchboardModel", "addsSwitch", "()I"⟩ ∈ WT := wt_of (i := 1650) (by decide +kernel) rfl
theorem fV_X8_addsSwitch : cfV yX8_addsSwitch cX8_addsSwitch 1 (some .int) 0 := ⟨⟨⟨by decide +kernel, by decide +kernel, by decide +kernel⟩, wf_13, wf_1651⟩, wf_1650, (wt_sel (i := 34) (n := 25) (by decide +kernel))⟩
theorem wf_1652 : Cond.methodLink "SwitchboardModel" 114 ⟨"SwitchboardModel", "commit", "(I)I"⟩ ∈ WT := wt_of (i := 1652) (by decide +kernel) rfl
theorem wf_1655 : Cond.code ⟨"SwitchboardModel", "commit", "(I)I"⟩ prog_10_method_7_code 3 (some .int) ∈ WT := wt_of (i := 1655) (by decide +kernel) rfl
theorem wf_1654 : Cond.instanceMethod ⟨"SwitchboardModel", "commit", "(I)I"⟩ ∈ WT := wt_of (i := 1654) (by decide +kernel) rfl
theorem fV_X8_commit : cfV yX8_commit cX8_commit 3 (some .int) 1 := ⟨⟨⟨by decide +kernel, by decide +kernel, by decide +kernel⟩, wf_13, wf_1655⟩, wf_1654, (wt_sel (i := 35) (n := 25) (by decide +kernel))⟩
theorem wf_1644 : Cond.methodLink "SwitchboardModel" 106 ⟨"SwitchboardModel", "fail", "(I)I"⟩ ∈ WT := wt_of (i := 1644) (by decide +kernel) rfl
theorem wf_1647 : Cond.code ⟨"SwitchboardModel", "fail", "(I)I"⟩ prog_10_method_5_code 2 (some .int) ∈ WT := wt_of (i := 1647) (by decide +kernel) rfl
theorem wf_1646 : Cond.instanceMethod ⟨"SwitchboardModel", "fail", "(I)I"⟩ ∈ WT := wt_of (i := 1646) (by decide +kernel) rfl
theorem fV_X8_fail : cfV yX8_fail cX8_fail 2 (some .int) 1 := ⟨⟨⟨by decide +kernel, by decide +kernel, by decide +kernel⟩, wf_13, wf_1647⟩, wf_1646, (wt_sel (i := 33) (n := 25) (by decide +kernel))⟩
theorem wf_1664 : Cond.methodLink "SwitchboardModel" 117 ⟨"SwitchboardModel", "isSwitch", "(I)Z"⟩ ∈ WT := wt_of (i := 1664) (by decide +kernel) rfl
theorem wf_1667 : Cond.code ⟨"SwitchboardModel", "isSwitch", "(I)Z"⟩ prog_10_method_13_code 2 (some .boolean) ∈ WT := wt_of (i := 1667) (by decide +kernel) rfl
theorem wf_1666 : Cond.instanceMethod ⟨"SwitchboardModel", "isSwitch", "(I)Z"⟩ ∈ WT := wt_of (i := 1666) (by decide +kernel) rfl
theorem fV_X8_isSwitch : cfV yX8_isSwitch cX8_isSwitch 2 (some .boolean) 1 := ⟨⟨⟨by decide +kernel, by decide +kernel, by decide +kernel⟩, wf_13, wf_1667⟩, wf_1666, (wt_sel (i := 37) (n := 25) (by decide +kernel))⟩
theorem wf_1675 : Cond.methodLink "SwitchboardModel" 121 ⟨"SwitchboardModel", "setTrunk", "(III)V"⟩ ∈ WT := wt_of (i := 1675) (by decide +kernel) rfl
theorem wf_1678 : Cond.code ⟨"SwitchboardModel", "setTrunk", "(III)V"⟩ prog_10_method_9_code 4 none ∈ WT := wt_of (i := 1678) (by decide +kernel) rfl
theorem wf_1677 : Cond.instanceMethod ⟨"SwitchboardModel", "setTrunk", "(III)V"⟩ ∈ WT := wt_of (i := 1677) (by decide +kernel) rfl
theorem fV_X8_setTrunk : cfV yX8_setTrunk cX8_setTrunk 4 none 3 := ⟨⟨⟨by decide +kernel, by decide +kernel, by decide +kernel⟩, wf_13, wf_1678⟩, wf_1677, (wt_sel (i := 39) (n := 25) (by decide +kernel))⟩
theorem wf_1660 : Cond.methodLink "SwitchboardModel" 125 ⟨"SwitchboardModel", "cannotLay", "(III)I"⟩ ∈ WT := wt_of (i := 1660) (by decide +kernel) rfl
theorem wf_1663 : Cond.code ⟨"SwitchboardModel", "cannotLay", "(III)I"⟩ prog_10_method_21_code 4 (some .int) ∈ WT := wt_of (i := 1663) (by decide +kernel) rfl
theorem wf_1662 : Cond.instanceMethod ⟨"SwitchboardModel", "cannotLay", "(III)I"⟩ ∈ WT := wt_of (i := 1662) (by decide +kernel) rfl
theorem fV_X8_cannotLay : cfV yX8_cannotLay cX8_cannotLay 4 (some .int) 3 := ⟨⟨⟨by decide +kernel, by decide +kernel, by decide +kernel⟩, wf_13, wf_1663⟩, wf_1662, (wt_sel (i := 36) (n := 25) (by decide +kernel))⟩
theorem wf_1671 : Cond.methodLink "SwitchboardModel" 129 ⟨"SwitchboardModel", "lays", "(III)I"⟩ ∈ WT := wt_of (i := 1671) (by decide +kernel) rfl
theorem wf_1674 : Cond.code ⟨"SwitchboardModel", "lays", "(III)I"⟩ prog_10_method_22_code 5 (some .int) ∈ WT := wt_of (i := 1674) (by decide +kernel) rfl
theorem wf_1673 : Cond.instanceMethod ⟨"SwitchboardModel", "lays", "(III)I"⟩ ∈ WT := wt_of (i := 1673) (by decide +kernel) rfl
theorem fV_X8_lays : cfV yX8_lays cX8_lays 5 (some .int) 3 := ⟨⟨⟨by decide +kernel, by decide +kernel, by decide +kernel⟩, wf_13, wf_1674⟩, wf_1673, (wt_sel (i := 38) (n := 25) (by decide +kernel))⟩
theorem wf_1683 : Cond.methodLink "SwitchboardModel" 132 ⟨"SwitchboardModel", "cannotJoin", "(II)I"⟩ ∈ WT := wt_of (i := 1683) (by decide +kernel) rfl
theorem wf_1686 : Cond.code ⟨"SwitchboardModel", "cannotJoin", "(II)I"⟩ prog_10_method_24_code 3 (some .int) ∈ WT := wt_of (i := 1686) (by decide +kernel) rfl
theorem wf_1685 : Cond.instanceMethod ⟨"SwitchboardModel", "cannotJoin", "(II)I"⟩ ∈ WT := wt_of (i := 1685) (by decide +kernel) rfl
theorem fV_X8_cannotJoin : cfV yX8_cannotJoin cX8_cannotJoin 3 (some .int) 2 := ⟨⟨⟨by decide +kernel, by decide +kernel, by decide +kernel⟩, wf_13, wf_1686⟩, wf_1685, (wt_sel (i := 40) (n := 25) (by decide +kernel))⟩
theorem wf_1687 : Cond.methodLink "SwitchboardModel" 135 ⟨"SwitchboardModel", "joins", "(II)I"⟩ ∈ WT := wt_of (i := 1687) (by decide +kernel) rfl
theorem wf_1690 : Cond.code ⟨"SwitchboardModel", "joins", "(II)I"⟩ prog_10_method_25_code 4 (some .int) ∈ WT := wt_of (i := 1690) (by decide +kernel) rfl
theorem wf_1689 : Cond.instanceMethod ⟨"SwitchboardModel", "joins", "(II)I"⟩ ∈ WT := wt_of (i := 1689) (by decide +kernel) rfl
theorem fV_X8_joins : cfV yX8_joins cX8_joins 4 (some .int) 2 := ⟨⟨⟨by decide +kernel, by decide +kernel, by decide +kernel⟩, wf_13, wf_1690⟩, wf_1689, (wt_sel (i := 41) (n := 25) (by decide +kernel))⟩
theorem wf_1711 : Cond.methodLink "SwitchboardModel" 138 ⟨"SwitchboardModel", "callOn", "(I)I"⟩ ∈ WT := wt_of (i := 1711) (by decide +kernel) rfl
theorem wf_1714 : Cond.code ⟨"SwitchboardModel", "callOn", "(I)I"⟩ prog_10_method_17_code 3 (some .int) ∈ WT := wt_of (i := 1714) (by decide +kernel) rfl
theorem wf_1713 : Cond.instanceMethod ⟨"SwitchboardModel", "callOn", "(I)I"⟩ ∈ WT := wt_of (i := 1713) (by decide +kernel) rfl
theorem fV_X8_callOn : cfV yX8_callOn cX8_callOn 3 (some .int) 1 := ⟨⟨⟨by decide +kernel, by decide +kernel, by decide +kernel⟩, wf_13, wf_1714⟩, wf_1713, (wt_sel (i := 46) (n := 25) (by decide +kernel))⟩
theorem wf_1703 : Cond.methodLink "SwitchboardModel" 141 ⟨"SwitchboardModel", "t", "(II)I"⟩ ∈ WT := wt_of (i := 1703) (by decide +kernel) rfl
theorem wf_1706 : Cond.code ⟨"SwitchboardModel", "t", "(II)I"⟩ prog_10_method_8_code 3 (some .int) ∈ WT := wt_of (i := 1706) (by decide +kernel) rfl
theorem wf_1705 : Cond.instanceMethod ⟨"SwitchboardModel", "t", "(II)I"⟩ ∈ WT := wt_of (i := 1705) (by decide +kernel) rfl
theorem fV_X8_t : cfV yX8_t cX8_t 3 (some .int) 2 := ⟨⟨⟨by decide +kernel, by decide +kernel, by decide +kernel⟩, wf_13, wf_1706⟩, wf_1705, (wt_sel (i := 44) (n := 25) (by decide +kernel))⟩
theorem wf_1558 : Cond.fieldLink "SwitchboardModel" 25 "SwitchboardModel" "far" "[I" ∈ WT := wt_of (i := 1558) (by decide +kernel) rfl
theorem wf_1559 : Cond.fieldLink "SwitchboardModel" 28 "SwitchboardModel" "hops" "[I" ∈ WT := wt_of (i := 1559) (by decide +kernel) rfl
theorem wf_1743 : Cond.methodLink "SwitchboardModel" 144 ⟨"SwitchboardModel", "beyond", "(II)I"⟩ ∈ WT := wt_of (i := 1743) (by decide +kernel) rfl
theorem wf_1746 : Cond.code ⟨"SwitchboardModel", "beyond", "(II)I"⟩ prog_10_method_29_code 3 (some .int) ∈ WT := wt_of (i := 1746) (by decide +kernel) rfl
theorem wf_1745 : Cond.instanceMethod ⟨"SwitchboardModel", "beyond", "(II)I"⟩ ∈ WT := wt_of (i := 1745) (by decide +kernel) rfl
theorem fV_X8_beyond : cfV yX8_beyond cX8_beyond 3 (some .int) 2 := ⟨⟨⟨by decide +kernel, by decide +kernel, by decide +kernel⟩, wf_13, wf_1746⟩, wf_1745, (wt_sel (i := 54) (n := 25) (by decide +kernel))⟩
theorem wf_1735 : Cond.methodLink "SwitchboardModel" 147 ⟨"SwitchboardModel", "isFree", "(II)Z"⟩ ∈ WT := wt_of (i := 1735) (by decide +kernel) rfl
theorem wf_1738 : Cond.code ⟨"SwitchboardModel", "isFree", "(II)Z"⟩ prog_10_method_27_code 4 (some .boolean) ∈ WT := wt_of (i := 1738) (by decide +kernel) rfl
theorem wf_1737 : Cond.instanceMethod ⟨"SwitchboardModel", "isFree", "(II)Z"⟩ ∈ WT := wt_of (i := 1737) (by decide +kernel) rfl
theorem fV_X8_isFree : cfV yX8_isFree cX8_isFree 4 (some .boolean) 2 := ⟨⟨⟨by decide +kernel, by decide +kernel, by decide +kernel⟩, wf_13, wf_1738⟩, wf_1737, (wt_sel (i := 52) (n := 25) (by decide +kernel))⟩
theorem wf_1739 : Cond.methodLink "SwitchboardModel" 150 ⟨"SwitchboardModel", "nears", "(II)V"⟩ ∈ WT := wt_of (i := 1739) (by decide +kernel) rfl
theorem wf_1742 : Cond.code ⟨"SwitchboardModel", "nears", "(II)V"⟩ prog_10_method_30_code 6 none ∈ WT := wt_of (i := 1742) (by decide +kernel) rfl
theorem wf_1741 : Cond.instanceMethod ⟨"SwitchboardModel", "nears", "(II)V"⟩ ∈ WT := wt_of (i := 1741) (by decide +kernel) rfl
theorem fV_X8_nears : cfV yX8_nears cX8_nears 6 none 2 := ⟨⟨⟨by decide +kernel, by decide +kernel, by decide +kernel⟩, wf_13, wf_1742⟩, wf_1741, (wt_sel (i := 53) (n := 25) (by decide +kernel))⟩
theorem wf_1560 : Cond.fieldLink "SwitchboardModel" 31 "SwitchboardModel" "found" "[I" ∈ WT := wt_of (i := 1560) (by decide +kernel) rfl
theorem wf_1566 : Cond.fieldLink "SwitchboardModel" 50 "SwitchboardModel" "parts" "I" ∈ WT := wt_of (i := 1566) (by decide +kernel) rfl
theorem wf_1747 : Cond.methodLink "SwitchboardModel" 157 ⟨"SwitchboardModel", "touches", "(II)Z"⟩ ∈ WT := wt_of (i := 1747) (by decide +kernel) rfl
theorem wf_1750 : Cond.code ⟨"SwitchboardModel", "touches", "(II)Z"⟩ prog_10_method_28_code 3 (some .boolean) ∈ WT := wt_of (i := 1750) (by decide +kernel) rfl
theorem wf_1749 : Cond.instanceMethod ⟨"SwitchboardModel", "touches", "(II)Z"⟩ ∈ WT := wt_of (i := 1749) (by decide +kernel) rfl
theorem fV_X8_touches : cfV yX8_touches cX8_touches 3 (some .boolean) 2 := ⟨⟨⟨by decide +kernel, by decide +kernel, by decide +kernel⟩, wf_13, wf_1750⟩, wf_1749, (wt_sel (i := 55) (n := 25) (by decide +kernel))⟩
theorem wf_1731 : Cond.methodLink "SwitchboardModel" 154 ⟨"SwitchboardModel", "measures", "(II)V"⟩ ∈ WT := wt_of (i := 1731) (by decide +kernel) rfl
theorem wf_1734 : Cond.code ⟨"SwitchboardModel", "measures", "(II)V"⟩ prog_10_method_31_code 5 none ∈ WT := wt_of (i := 1734) (by decide +kernel) rfl
theorem wf_1733 : Cond.instanceMethod ⟨"SwitchboardModel", "measures", "(II)V"⟩ ∈ WT := wt_of (i := 1733) (by decide +kernel) rfl
theorem fV_X8_measures : cfV yX8_measures cX8_measures 5 none 2 := ⟨⟨⟨by decide +kernel, by decide +kernel, by decide +kernel⟩, wf_13, wf_1734⟩, wf_1733, (wt_sel (i := 51) (n := 25) (by decide +kernel))⟩
theorem wf_1763 : Cond.methodLink "SwitchboardModel" 160 ⟨"SwitchboardModel", "setCall", "(III)V"⟩ ∈ WT := wt_of (i := 1763) (by decide +kernel) rfl
theorem wf_1766 : Cond.code ⟨"SwitchboardModel", "setCall", "(III)V"⟩ prog_10_method_12_code 4 none ∈ WT := wt_of (i := 1766) (by decide +kernel) rfl
theorem wf_1765 : Cond.instanceMethod ⟨"SwitchboardModel", "setCall", "(III)V"⟩ ∈ WT := wt_of (i := 1765) (by decide +kernel) rfl
theorem fV_X8_setCall : cfV yX8_setCall cX8_setCall 4 none 3 := ⟨⟨⟨by decide +kernel, by decide +kernel, by decide +kernel⟩, wf_13, wf_1766⟩, wf_1765, (wt_sel (i := 59) (n := 25) (by decide +kernel))⟩
theorem wf_1723 : Cond.methodLink "SwitchboardModel" 163 ⟨"SwitchboardModel", "u", "(II)I"⟩ ∈ WT := wt_of (i := 1723) (by decide +kernel) rfl
theorem wf_1726 : Cond.code ⟨"SwitchboardModel", "u", "(II)I"⟩ prog_10_method_10_code 3 (some .int) ∈ WT := wt_of (i := 1726) (by decide +kernel) rfl
theorem wf_1725 : Cond.instanceMethod ⟨"SwitchboardModel", "u", "(II)I"⟩ ∈ WT := wt_of (i := 1725) (by decide +kernel) rfl
theorem fV_X8_u : cfV yX8_u cX8_u 3 (some .int) 2 := ⟨⟨⟨by decide +kernel, by decide +kernel, by decide +kernel⟩, wf_13, wf_1726⟩, wf_1725, (wt_sel (i := 49) (n := 25) (by decide +kernel))⟩
theorem wf_1759 : Cond.methodLink "SwitchboardModel" 166 ⟨"SwitchboardModel", "lengthOf", "(I)I"⟩ ∈ WT := wt_of (i := 1759) (by decide +kernel) rfl
theorem wf_1762 : Cond.code ⟨"SwitchboardModel", "lengthOf", "(I)I"⟩ prog_10_method_34_code 4 (some .int) ∈ WT := wt_of (i := 1762) (by decide +kernel) rfl
theorem wf_1761 : Cond.instanceMethod ⟨"SwitchboardModel", "lengthOf", "(I)I"⟩ ∈ WT := wt_of (i := 1761) (by decide +kernel) rfl
theorem fV_X8_lengthOf : cfV yX8_lengthOf cX8_lengthOf 4 (some .int) 1 := ⟨⟨⟨by decide +kernel, by decide +kernel, by decide +kernel⟩, wf_13, wf_1762⟩, wf_1761, (wt_sel (i := 58) (n := 25) (by decide +kernel))⟩
theorem wf_1755 : Cond.methodLink "SwitchboardModel" 169 ⟨"SwitchboardModel", "chargeOf", "(I)I"⟩ ∈ WT := wt_of (i := 1755) (by decide +kernel) rfl
theorem wf_1758 : Cond.code ⟨"SwitchboardModel", "chargeOf", "(I)I"⟩ prog_10_method_35_code 4 (some .int) ∈ WT := wt_of (i := 1758) (by decide +kernel) rfl
theorem wf_1757 : Cond.instanceMethod ⟨"SwitchboardModel", "chargeOf", "(I)I"⟩ ∈ WT := wt_of (i := 1757) (by decide +kernel) rfl
theorem fV_X8_chargeOf : cfV yX8_chargeOf cX8_chargeOf 4 (some .int) 1 := ⟨⟨⟨by decide +kernel, by decide +kernel, by decide +kernel⟩, wf_13, wf_1758⟩, wf_1757, (wt_sel (i := 57) (n := 25) (by decide +kernel))⟩
theorem wf_1699 : Cond.methodLink "SwitchboardModel" 172 ⟨"SwitchboardModel", "isTrunk", "(I)Z"⟩ ∈ WT := wt_of (i := 1699) (by decide +kernel) rfl
theorem wf_1702 : Cond.code ⟨"SwitchboardModel", "isTrunk", "(I)Z"⟩ prog_10_method_14_code 2 (some .boolean) ∈ WT := wt_of (i := 1702) (by decide +kernel) rfl
theorem wf_1701 : Cond.instanceMethod ⟨"SwitchboardModel", "isTrunk", "(I)Z"⟩ ∈ WT := wt_of (i := 1701) (by decide +kernel) rfl
theorem fV_X8_isTrunk : cfV yX8_isTrunk cX8_isTrunk 2 (some .boolean) 1 := ⟨⟨⟨by decide +kernel, by decide +kernel, by decide +kernel⟩, wf_13, wf_1702⟩, wf_1701, (wt_sel (i := 43) (n := 25) (by decide +kernel))⟩
theorem wf_1727 : Cond.methodLink "SwitchboardModel" 175 ⟨"SwitchboardModel", "finds", "(III)Z"⟩ ∈ WT := wt_of (i := 1727) (by decide +kernel) rfl
theorem wf_1730 : Cond.code ⟨"SwitchboardModel", "finds", "(III)Z"⟩ prog_10_method_32_code 6 (some .boolean) ∈ WT := wt_of (i := 1730) (by decide +kernel) rfl
theorem wf_1729 : Cond.instanceMethod ⟨"SwitchboardModel", "finds", "(III)Z"⟩ ∈ WT := wt_of (i := 1729) (by decide +kernel) rfl
theorem fV_X8_finds : cfV yX8_finds cX8_finds 6 (some .boolean) 3 := ⟨⟨⟨by decide +kernel, by decide +kernel, by decide +kernel⟩, wf_13, wf_1730⟩, wf_1729, (wt_sel (i := 50) (n := 25) (by decide +kernel))⟩
theorem wf_1767 : Cond.methodLink "SwitchboardModel" 181 ⟨"SwitchboardModel", "takesRoute", "(I)V"⟩ ∈ WT := wt_of (i := 1767) (by decide +kernel) rfl
theorem wf_1770 : Cond.code ⟨"SwitchboardModel", "takesRoute", "(I)V"⟩ prog_10_method_33_code 3 none ∈ WT := wt_of (i := 1770) (by decide +kernel) rfl
theorem wf_1769 : Cond.instanceMethod ⟨"SwitchboardModel", "takesRoute", "(I)V"⟩ ∈ WT := wt_of (i := 1769) (by decide +kernel) rfl
theorem fV_X8_takesRoute : cfV yX8_takesRoute cX8_takesRoute 3 none 1 := ⟨⟨⟨by decide +kernel, by decide +kernel, by decide +kernel⟩, wf_13, wf_1770⟩, wf_1769, (wt_sel (i := 60) (n := 25) (by decide +kernel))⟩
theorem wf_1751 : Cond.methodLink "SwitchboardModel" 178 ⟨"SwitchboardModel", "ends", "(I)I"⟩ ∈ WT := wt_of (i := 1751) (by decide +kernel) rfl
theorem wf_1754 : Cond.code ⟨"SwitchboardModel", "ends", "(I)I"⟩ prog_10_method_36_code 4 (some .int) ∈ WT := wt_of (i := 1754) (by decide +kernel) rfl
theorem wf_1753 : Cond.instanceMethod ⟨"SwitchboardModel", "ends", "(I)I"⟩ ∈ WT := wt_of (i := 1753) (by decide +kernel) rfl
theorem fV_X8_ends : cfV yX8_ends cX8_ends 4 (some .int) 1 := ⟨⟨⟨by decide +kernel, by decide +kernel, by decide +kernel⟩, wf_13, wf_1754⟩, wf_1753, (wt_sel (i := 56) (n := 25) (by decide +kernel))⟩
theorem wf_1695 : Cond.methodLink "SwitchboardModel" 185 ⟨"SwitchboardModel", "cannotCut", "(I)I"⟩ ∈ WT := wt_of (i := 1695) (by decide +kernel) rfl
theorem wf_1698 : Cond.code ⟨"SwitchboardModel", "cannotCut", "(I)I"⟩ prog_10_method_37_code 2 (some .int) ∈ WT := wt_of (i := 1698) (by decide +kernel) rfl
theorem wf_1697 : Cond.instanceMethod ⟨"SwitchboardModel", "cannotCut", "(I)I"⟩ ∈ WT := wt_of (i := 1697) (by decide +kernel) rfl
theorem fV_X8_cannotCut : cfV yX8_cannotCut cX8_cannotCut 2 (some .int) 1 := ⟨⟨⟨by decide +kernel, by decide +kernel, by decide +kernel⟩, wf_13, wf_1698⟩, wf_1697, (wt_sel (i := 42) (n := 25) (by decide +kernel))⟩
theorem wf_1707 : Cond.methodLink "SwitchboardModel" 188 ⟨"SwitchboardModel", "cuts", "(I)I"⟩ ∈ WT := wt_of (i := 1707) (by decide +kernel) rfl
theorem wf_1710 : Cond.code ⟨"SwitchboardModel", "cuts", "(I)I"⟩ prog_10_method_38_code 4 (some .int) ∈ WT := wt_of (i := 1710) (by decide +kernel) rfl
theorem wf_1709 : Cond.instanceMethod ⟨"SwitchboardModel", "cuts", "(I)I"⟩ ∈ WT := wt_of (i := 1709) (by decide +kernel) rfl
theorem fV_X8_cuts : cfV yX8_cuts cX8_cuts 4 (some .int) 1 := ⟨⟨⟨by decide +kernel, by decide +kernel, by decide +kernel⟩, wf_13, wf_1710⟩, wf_1709, (wt_sel (i := 45) (n := 25) (by decide +kernel))⟩
theorem wf_1775 : Cond.methodLink "SwitchboardModel" 191 ⟨"SwitchboardModel", "cannotMend", "(I)I"⟩ ∈ WT := wt_of (i := 1775) (by decide +kernel) rfl
theorem wf_1778 : Cond.code ⟨"SwitchboardModel", "cannotMend", "(I)I"⟩ prog_10_method_40_code 2 (some .int) ∈ WT := wt_of (i := 1778) (by decide +kernel) rfl
theorem wf_1777 : Cond.instanceMethod ⟨"SwitchboardModel", "cannotMend", "(I)I"⟩ ∈ WT := wt_of (i := 1777) (by decide +kernel) rfl
theorem fV_X8_cannotMend : cfV yX8_cannotMend cX8_cannotMend 2 (some .int) 1 := ⟨⟨⟨by decide +kernel, by decide +kernel, by decide +kernel⟩, wf_13, wf_1778⟩, wf_1777, (wt_sel (i := 61) (n := 25) (by decide +kernel))⟩
theorem wf_1779 : Cond.methodLink "SwitchboardModel" 194 ⟨"SwitchboardModel", "mends", "(I)I"⟩ ∈ WT := wt_of (i := 1779) (by decide +kernel) rfl
theorem wf_1782 : Cond.code ⟨"SwitchboardModel", "mends", "(I)I"⟩ prog_10_method_41_code 4 (some .int) ∈ WT := wt_of (i := 1782) (by decide +kernel) rfl
theorem wf_1781 : Cond.instanceMethod ⟨"SwitchboardModel", "mends", "(I)I"⟩ ∈ WT := wt_of (i := 1781) (by decide +kernel) rfl
theorem fV_X8_mends : cfV yX8_mends cX8_mends 4 (some .int) 1 := ⟨⟨⟨by decide +kernel, by decide +kernel, by decide +kernel⟩, wf_13, wf_1782⟩, wf_1781, (wt_sel (i := 62) (n := 25) (by decide +kernel))⟩
theorem wf_1791 : Cond.methodLink "SwitchboardModel" 197 ⟨"SwitchboardModel", "isUser", "(I)Z"⟩ ∈ WT := wt_of (i := 1791) (by decide +kernel) rfl
theorem wf_1794 : Cond.code ⟨"SwitchboardModel", "isUser", "(I)Z"⟩ prog_10_method_15_code 2 (some .boolean) ∈ WT := wt_of (i := 1794) (by decide +kernel) rfl
theorem wf_1793 : Cond.instanceMethod ⟨"SwitchboardModel", "isUser", "(I)Z"⟩ ∈ WT := wt_of (i := 1793) (by decide +kernel) rfl
theorem fV_X8_isUser : cfV yX8_isUser cX8_isUser 2 (some .boolean) 1 := ⟨⟨⟨by decide +kernel, by decide +kernel, by decide +kernel⟩, wf_13, wf_1794⟩, wf_1793, (wt_sel (i := 64) (n := 25) (by decide +kernel))⟩
theorem wf_1795 : Cond.methodLink "SwitchboardModel" 200 ⟨"SwitchboardModel", "callOf", "(I)I"⟩ ∈ WT := wt_of (i := 1795) (by decide +kernel) rfl
theorem wf_1798 : Cond.code ⟨"SwitchboardModel", "callOf", "(I)I"⟩ prog_10_method_18_code 3 (some .int) ∈ WT := wt_of (i := 1798) (by decide +kernel) rfl
theorem wf_1797 : Cond.instanceMethod ⟨"SwitchboardModel", "callOf", "(I)I"⟩ ∈ WT := wt_of (i := 1797) (by decide +kernel) rfl
theorem fV_X8_callOf : cfV yX8_callOf cX8_callOf 3 (some .int) 1 := ⟨⟨⟨by decide +kernel, by decide +kernel, by decide +kernel⟩, wf_13, wf_1798⟩, wf_1797, (wt_sel (i := 65) (n := 25) (by decide +kernel))⟩
theorem wf_1557 : Cond.fieldLink "SwitchboardModel" 22 "SwitchboardModel" "blocked" "[I" ∈ WT := wt_of (i := 1557) (by decide +kernel) rfl
theorem wf_1565 : Cond.fieldLink "SwitchboardModel" 47 "SwitchboardModel" "blocks" "I" ∈ WT := wt_of (i := 1565) (by decide +kernel) rfl
theorem wf_1787 : Cond.methodLink "SwitchboardModel" 203 ⟨"SwitchboardModel", "cannotCall", "(II)I"⟩ ∈ WT := wt_of (i := 1787) (by decide +kernel) rfl
theorem wf_1790 : Cond.code ⟨"SwitchboardModel", "cannotCall", "(II)I"⟩ prog_10_method_43_code 3 (some .int) ∈ WT := wt_of (i := 1790) (by decide +kernel) rfl
theorem wf_1789 : Cond.instanceMethod ⟨"SwitchboardModel", "cannotCall", "(II)I"⟩ ∈ WT := wt_of (i := 1789) (by decide +kernel) rfl
theorem fV_X8_cannotCall : cfV yX8_cannotCall cX8_cannotCall 3 (some .int) 2 := ⟨⟨⟨by decide +kernel, by decide +kernel, by decide +kernel⟩, wf_13, wf_1790⟩, wf_1789, (wt_sel (i := 63) (n := 25) (by decide +kernel))⟩
theorem wf_1799 : Cond.methodLink "SwitchboardModel" 206 ⟨"SwitchboardModel", "blocks", "(III)V"⟩ ∈ WT := wt_of (i := 1799) (by decide +kernel) rfl
theorem wf_1802 : Cond.code ⟨"SwitchboardModel", "blocks", "(III)V"⟩ prog_10_method_45_code 5 none ∈ WT := wt_of (i := 1802) (by decide +kernel) rfl
theorem wf_1801 : Cond.instanceMethod ⟨"SwitchboardModel", "blocks", "(III)V"⟩ ∈ WT := wt_of (i := 1801) (by decide +kernel) rfl
theorem fV_X8_blocks : cfV yX8_blocks cX8_blocks 5 none 3 := ⟨⟨⟨by decide +kernel, by decide +kernel, by decide +kernel⟩, wf_13, wf_1802⟩, wf_1801, (wt_sel (i := 66) (n := 25) (by decide +kernel))⟩
theorem wf_1803 : Cond.methodLink "SwitchboardModel" 208 ⟨"SwitchboardModel", "connects", "(II)I"⟩ ∈ WT := wt_of (i := 1803) (by decide +kernel) rfl
theorem wf_1806 : Cond.code ⟨"SwitchboardModel", "connects", "(II)I"⟩ prog_10_method_44_code 4 (some .int) ∈ WT := wt_of (i := 1806) (by decide +kernel) rfl
theorem wf_1805 : Cond.instanceMethod ⟨"SwitchboardModel", "connects", "(II)I"⟩ ∈ WT := wt_of (i := 1805) (by decide +kernel) rfl
theorem fV_X8_connects : cfV yX8_connects cX8_connects 4 (some .int) 2 := ⟨⟨⟨by decide +kernel, by decide +kernel, by decide +kernel⟩, wf_13, wf_1806⟩, wf_1805, (wt_sel (i := 67) (n := 25) (by decide +kernel))⟩
theorem wf_1811 : Cond.methodLink "SwitchboardModel" 211 ⟨"SwitchboardModel", "cannotHang", "(I)I"⟩ ∈ WT := wt_of (i := 1811) (by decide +kernel) rfl
theorem wf_1814 : Cond.code ⟨"SwitchboardModel", "cannotHang", "(I)I"⟩ prog_10_method_47_code 2 (some .int) ∈ WT := wt_of (i := 1814) (by decide +kernel) rfl
theorem wf_1813 : Cond.instanceMethod ⟨"SwitchboardModel", "cannotHang", "(I)I"⟩ ∈ WT := wt_of (i := 1813) (by decide +kernel) rfl
theorem fV_X8_cannotHang : cfV yX8_cannotHang cX8_cannotHang 2 (some .int) 1 := ⟨⟨⟨by decide +kernel, by decide +kernel, by decide +kernel⟩, wf_13, wf_1814⟩, wf_1813, (wt_sel (i := 68) (n := 25) (by decide +kernel))⟩
theorem wf_1819 : Cond.methodLink "SwitchboardModel" 214 ⟨"SwitchboardModel", "passes", "(I)I"⟩ ∈ WT := wt_of (i := 1819) (by decide +kernel) rfl
theorem wf_1822 : Cond.code ⟨"SwitchboardModel", "passes", "(I)I"⟩ prog_10_method_49_code 4 (some .int) ∈ WT := wt_of (i := 1822) (by decide +kernel) rfl
theorem wf_1821 : Cond.instanceMethod ⟨"SwitchboardModel", "passes", "(I)I"⟩ ∈ WT := wt_of (i := 1821) (by decide +kernel) rfl
theorem fV_X8_passes : cfV yX8_passes cX8_passes 4 (some .int) 1 := ⟨⟨⟨by decide +kernel, by decide +kernel, by decide +kernel⟩, wf_13, wf_1822⟩, wf_1821, (wt_sel (i := 69) (n := 25) (by decide +kernel))⟩
theorem wf_1827 : Cond.methodLink "SwitchboardModel" 217 ⟨"SwitchboardModel", "plain", "(I)I"⟩ ∈ WT := wt_of (i := 1827) (by decide +kernel) rfl
theorem wf_1830 : Cond.code ⟨"SwitchboardModel", "plain", "(I)I"⟩ prog_10_method_51_code 2 (some .int) ∈ WT := wt_of (i := 1830) (by decide +kernel) rfl
theorem wf_1829 : Cond.instanceMethod ⟨"SwitchboardModel", "plain", "(I)I"⟩ ∈ WT := wt_of (i := 1829) (by decide +kernel) rfl
theorem fV_X8_plain : cfV yX8_plain cX8_plain 2 (some .int) 1 := ⟨⟨⟨by decide +kernel, by decide +kernel, by decide +kernel⟩, wf_13, wf_1830⟩, wf_1829, (wt_sel (i := 70) (n := 25) (by decide +kernel))⟩
theorem wf_1839 : Cond.methodLink "SwitchboardModel" 220 ⟨"SwitchboardModel", "checked", "(Z)I"⟩ ∈ WT := wt_of (i := 1839) (by decide +kernel) rfl
theorem wf_1842 : Cond.code ⟨"SwitchboardModel", "checked", "(Z)I"⟩ prog_10_method_52_code 2 (some .int) ∈ WT := wt_of (i := 1842) (by decide +kernel) rfl
theorem wf_1841 : Cond.instanceMethod ⟨"SwitchboardModel", "checked", "(Z)I"⟩ ∈ WT := wt_of (i := 1841) (by decide +kernel) rfl
theorem fV_X8_checked : cfV yX8_checked cX8_checked 2 (some .int) 1 := ⟨⟨⟨by decide +kernel, by decide +kernel, by decide +kernel⟩, wf_13, wf_1842⟩, wf_1841, (wt_sel (i := 71) (n := 25) (by decide +kernel))⟩
theorem wf_1863 : Cond.methodLink "SwitchboardModel" 224 ⟨"SwitchboardModel", "shortest", "(II)I"⟩ ∈ WT := wt_of (i := 1863) (by decide +kernel) rfl
theorem wf_1866 : Cond.code ⟨"SwitchboardModel", "shortest", "(II)I"⟩ prog_10_method_60_code 3 (some .int) ∈ WT := wt_of (i := 1866) (by decide +kernel) rfl
theorem wf_1865 : Cond.instanceMethod ⟨"SwitchboardModel", "shortest", "(II)I"⟩ ∈ WT := wt_of (i := 1865) (by decide +kernel) rfl
theorem fV_X8_shortest : cfV yX8_shortest cX8_shortest 3 (some .int) 2 := ⟨⟨⟨by decide +kernel, by decide +kernel, by decide +kernel⟩, wf_13, wf_1866⟩, wf_1865, (wt_sel (i := 72) (n := 25) (by decide +kernel))⟩
theorem wf_1879 : Cond.methodLink "SwitchboardModel" 227 ⟨"SwitchboardModel", "border", "(I)I"⟩ ∈ WT := wt_of (i := 1879) (by decide +kernel) rfl
theorem wf_1882 : Cond.code ⟨"SwitchboardModel", "border", "(I)I"⟩ prog_10_method_63_code 4 (some .int) ∈ WT := wt_of (i := 1882) (by decide +kernel) rfl
theorem wf_1881 : Cond.instanceMethod ⟨"SwitchboardModel", "border", "(I)I"⟩ ∈ WT := wt_of (i := 1881) (by decide +kernel) rfl
theorem fV_X8_border : cfV yX8_border cX8_border 4 (some .int) 1 := ⟨⟨⟨by decide +kernel, by decide +kernel, by decide +kernel⟩, wf_13, wf_1882⟩, wf_1881, (wt_sel (i := 74) (n := 25) (by decide +kernel))⟩
theorem wf_1875 : Cond.methodLink "SwitchboardModel" 230 ⟨"SwitchboardModel", "least", "(II)I"⟩ ∈ WT := wt_of (i := 1875) (by decide +kernel) rfl
theorem wf_1878 : Cond.code ⟨"SwitchboardModel", "least", "(II)I"⟩ prog_10_method_64_code 6 (some .int) ∈ WT := wt_of (i := 1878) (by decide +kernel) rfl
theorem wf_1877 : Cond.instanceMethod ⟨"SwitchboardModel", "least", "(II)I"⟩ ∈ WT := wt_of (i := 1877) (by decide +kernel) rfl
theorem fV_X8_least : cfV yX8_least cX8_least 6 (some .int) 2 := ⟨⟨⟨by decide +kernel, by decide +kernel, by decide +kernel⟩, wf_13, wf_1878⟩, wf_1877, (wt_sel (i := 73) (n := 25) (by decide +kernel))⟩
theorem wf_1895 : Cond.methodLink "SwitchboardModel" 233 ⟨"SwitchboardModel", "ofUser", "(II)I"⟩ ∈ WT := wt_of (i := 1895) (by decide +kernel) rfl
theorem wf_1898 : Cond.code ⟨"SwitchboardModel", "ofUser", "(II)I"⟩ prog_10_method_68_code 3 (some .int) ∈ WT := wt_of (i := 1898) (by decide +kernel) rfl
theorem wf_1897 : Cond.instanceMethod ⟨"SwitchboardModel", "ofUser", "(II)I"⟩ ∈ WT := wt_of (i := 1897) (by decide +kernel) rfl
theorem fV_X8_ofUser : cfV yX8_ofUser cX8_ofUser 3 (some .int) 2 := ⟨⟨⟨by decide +kernel, by decide +kernel, by decide +kernel⟩, wf_13, wf_1898⟩, wf_1897, (wt_sel (i := 75) (n := 25) (by decide +kernel))⟩
theorem wf_1915 : Cond.methodLink "SwitchboardModel" 236 ⟨"SwitchboardModel", "talks", "(I)I"⟩ ∈ WT := wt_of (i := 1915) (by decide +kernel) rfl
theorem wf_1918 : Cond.code ⟨"SwitchboardModel", "talks", "(I)I"⟩ prog_10_method_73_code 2 (some .int) ∈ WT := wt_of (i := 1918) (by decide +kernel) rfl
theorem wf_1917 : Cond.instanceMethod ⟨"SwitchboardModel", "talks", "(I)I"⟩ ∈ WT := wt_of (i := 1917) (by decide +kernel) rfl
theorem fV_X8_talks : cfV yX8_talks cX8_talks 2 (some .int) 1 := ⟨⟨⟨by decide +kernel, by decide +kernel, by decide +kernel⟩, wf_13, wf_1918⟩, wf_1917, (wt_sel (i := 76) (n := 25) (by decide +kernel))⟩
theorem wf_1947 : Cond.methodLink "SwitchboardModel" 239 ⟨"SwitchboardModel", "ofBlocked", "(II)I"⟩ ∈ WT := wt_of (i := 1947) (by decide +kernel) rfl
theorem wf_1950 : Cond.code ⟨"SwitchboardModel", "ofBlocked", "(II)I"⟩ prog_10_method_81_code 3 (some .int) ∈ WT := wt_of (i := 1950) (by decide +kernel) rfl
theorem wf_1949 : Cond.instanceMethod ⟨"SwitchboardModel", "ofBlocked", "(II)I"⟩ ∈ WT := wt_of (i := 1949) (by decide +kernel) rfl
theorem fV_X8_ofBlocked : cfV yX8_ofBlocked cX8_ofBlocked 3 (some .int) 2 := ⟨⟨⟨by decide +kernel, by decide +kernel, by decide +kernel⟩, wf_13, wf_1950⟩, wf_1949, (wt_sel (i := 77) (n := 25) (by decide +kernel))⟩
theorem wf_1568 : Cond.fieldLink "SwitchboardModel" 57 "SwitchboardModel" "output" "[I" ∈ WT := wt_of (i := 1568) (by decide +kernel) rfl
theorem wf_1569 : Cond.fieldLink "SwitchboardModel" 60 "SwitchboardModel" "outputLength" "I" ∈ WT := wt_of (i := 1569) (by decide +kernel) rfl
theorem wf_1991 : Cond.methodLink "SwitchboardModel" 242 ⟨"SwitchboardModel", "write", "(I)V"⟩ ∈ WT := wt_of (i := 1991) (by decide +kernel) rfl
theorem wf_1994 : Cond.code ⟨"SwitchboardModel", "write", "(I)V"⟩ prog_10_method_91_code 2 none ∈ WT := wt_of (i := 1994) (by decide +kernel) rfl
theorem wf_1993 : Cond.instanceMethod ⟨"SwitchboardModel", "write", "(I)V"⟩ ∈ WT := wt_of (i := 1993) (by decide +kernel) rfl
theorem fV_X8_write : cfV yX8_write cX8_write 2 none 1 := ⟨⟨⟨by decide +kernel, by decide +kernel, by decide +kernel⟩, wf_13, wf_1994⟩, wf_1993, (wt_sel (i := 79) (n := 25) (by decide +kernel))⟩
theorem wf_1987 : Cond.methodLink "SwitchboardModel" 245 ⟨"SwitchboardModel", "writeNumber", "(I)V"⟩ ∈ WT := wt_of (i := 1987) (by decide +kernel) rfl
theorem wf_1990 : Cond.code ⟨"SwitchboardModel", "writeNumber", "(I)V"⟩ prog_10_method_92_code 3 none ∈ WT := wt_of (i := 1990) (by decide +kernel) rfl
theorem wf_1989 : Cond.instanceMethod ⟨"SwitchboardModel", "writeNumber", "(I)V"⟩ ∈ WT := wt_of (i := 1989) (by decide +kernel) rfl
theorem fV_X8_writeNumber : cfV yX8_writeNumber cX8_writeNumber 3 none 1 := ⟨⟨⟨by decide +kernel, by decide +kernel, by decide +kernel⟩, wf_13, wf_1990⟩, wf_1989, (wt_sel (i := 78) (n := 25) (by decide +kernel))⟩
theorem wf_1570 : Cond.fieldLink "SwitchboardModel" 63 "SwitchboardModel" "input" "[I" ∈ WT := wt_of (i := 1570) (by decide +kernel) rfl
theorem wf_1573 : Cond.fieldLink "SwitchboardModel" 72 "SwitchboardModel" "length" "I" ∈ WT := wt_of (i := 1573) (by decide +kernel) rfl
theorem wf_1577 : Cond.fieldLink "SwitchboardModel" 84 "SwitchboardModel" "isWrong" "Z" ∈ WT := wt_of (i := 1577) (by decide +kernel) rfl
theorem wf_1575 : Cond.fieldLink "SwitchboardModel" 78 "SwitchboardModel" "at" "I" ∈ WT := wt_of (i := 1575) (by decide +kernel) rfl
theorem wf_1574 : Cond.fieldLink "SwitchboardModel" 75 "SwitchboardModel" "programLength" "I" ∈ WT := wt_of (i := 1574) (by decide +kernel) rfl
theorem wf_2029 : Cond.methodLink "SwitchboardModel" 248 ⟨"SwitchboardModel", "mark", "()I"⟩ ∈ WT := wt_of (i := 2029) (by decide +kernel) rfl
theorem wf_2032 : Cond.code ⟨"SwitchboardModel", "mark", "()I"⟩ prog_10_method_97_code 1 (some .int) ∈ WT := wt_of (i := 2032) (by decide +kernel) rfl
theorem wf_2031 : Cond.instanceMethod ⟨"SwitchboardModel", "mark", "()I"⟩ ∈ WT := wt_of (i := 2031) (by decide +kernel) rfl
theorem fV_X8_mark : cfV yX8_mark cX8_mark 1 (some .int) 0 := ⟨⟨⟨by decide +kernel, by decide +kernel, by decide +kernel⟩, wf_13, wf_2032⟩, wf_2031, (wt_sel (i := 83) (n := 25) (by decide +kernel))⟩
theorem wf_2026 : Cond.methodLink "SwitchboardModel" 251 ⟨"SwitchboardModel", "pick", "(IIIIIII)I"⟩ ∈ WT := wt_of (i := 2026) (by decide +kernel) rfl
theorem wf_2028 : Cond.code ⟨"SwitchboardModel", "pick", "(IIIIIII)I"⟩ prog_10_method_100_code 7 (some .int) ∈ WT := wt_of (i := 2028) (by decide +kernel) rfl
theorem wf_2027 : Cond.static ⟨"SwitchboardModel", "pick", "(IIIIIII)I"⟩ ∈ WT := wt_of (i := 2027) (by decide +kernel) rfl
theorem fS_X8_pick : cfS yX8_pick cX8_pick 7 (some .int) 7 := ⟨⟨⟨by decide +kernel, by decide +kernel, by decide +kernel⟩, wf_13, wf_2028⟩, wf_2027⟩
theorem wf_2023 : Cond.methodLink "SwitchboardModel" 255 ⟨"SwitchboardModel", "spelled", "(II)I"⟩ ∈ WT := wt_of (i := 2023) (by decide +kernel) rfl
theorem wf_2025 : Cond.code ⟨"SwitchboardModel", "spelled", "(II)I"⟩ prog_10_method_101_code 2 (some .int) ∈ WT := wt_of (i := 2025) (by decide +kernel) rfl
theorem wf_2024 : Cond.static ⟨"SwitchboardModel", "spelled", "(II)I"⟩ ∈ WT := wt_of (i := 2024) (by decide +kernel) rfl
theorem fS_X8_spelled : cfS yX8_spelled cX8_spelled 2 (some .int) 2 := ⟨⟨⟨by decide +kernel, by decide +kernel, by decide +kernel⟩, wf_13, wf_2025⟩, wf_2024⟩
theorem wf_1571 : Cond.fieldLink "SwitchboardModel" 66 "SwitchboardModel" "kinds" "[I" ∈ WT := wt_of (i := 1571) (by decide +kernel) rfl
theorem wf_1576 : Cond.fieldLink "SwitchboardModel" 81 "SwitchboardModel" "commands" "I" ∈ WT := wt_of (i := 1576) (by decide +kernel) rfl
theorem wf_1572 : Cond.fieldLink "SwitchboardModel" 69 "SwitchboardModel" "arguments" "[I" ∈ WT := wt_of (i := 1572) (by decide +kernel) rfl
theorem wf_2033 : Cond.methodLink "SwitchboardModel" 261 ⟨"SwitchboardModel", "expect", "(I)V"⟩ ∈ WT := wt_of (i := 2033) (by decide +kernel) rfl
theorem wf_2036 : Cond.code ⟨"SwitchboardModel", "expect", "(I)V"⟩ prog_10_method_98_code 2 none ∈ WT := wt_of (i := 2036) (by decide +kernel) rfl
theorem wf_2035 : Cond.instanceMethod ⟨"SwitchboardModel", "expect", "(I)V"⟩ ∈ WT := wt_of (i := 2035) (by decide +kernel) rfl
theorem fV_X8_expect : cfV yX8_expect cX8_expect 2 none 1 := ⟨⟨⟨by decide +kernel, by decide +kernel, by decide +kernel⟩, wf_13, wf_2036⟩, wf_2035, (wt_sel (i := 84) (n := 25) (by decide +kernel))⟩
theorem wf_2037 : Cond.methodLink "SwitchboardModel" 264 ⟨"SwitchboardModel", "number", "(I)I"⟩ ∈ WT := wt_of (i := 2037) (by decide +kernel) rfl
theorem wf_2040 : Cond.code ⟨"SwitchboardModel", "number", "(I)I"⟩ prog_10_method_99_code 4 (some .int) ∈ WT := wt_of (i := 2040) (by decide +kernel) rfl
theorem wf_2039 : Cond.instanceMethod ⟨"SwitchboardModel", "number", "(I)I"⟩ ∈ WT := wt_of (i := 2039) (by decide +kernel) rfl
theorem fV_X8_number : cfV yX8_number cX8_number 4 (some .int) 1 := ⟨⟨⟨by decide +kernel, by decide +kernel, by decide +kernel⟩, wf_13, wf_2040⟩, wf_2039, (wt_sel (i := 85) (n := 25) (by decide +kernel))⟩
theorem wf_2019 : Cond.methodLink "SwitchboardModel" 258 ⟨"SwitchboardModel", "word", "()I"⟩ ∈ WT := wt_of (i := 2019) (by decide +kernel) rfl
theorem wf_2022 : Cond.code ⟨"SwitchboardModel", "word", "()I"⟩ prog_10_method_102_code 4 (some .int) ∈ WT := wt_of (i := 2022) (by decide +kernel) rfl
theorem wf_2021 : Cond.instanceMethod ⟨"SwitchboardModel", "word", "()I"⟩ ∈ WT := wt_of (i := 2021) (by decide +kernel) rfl
theorem fV_X8_word : cfV yX8_word cX8_word 4 (some .int) 0 := ⟨⟨⟨by decide +kernel, by decide +kernel, by decide +kernel⟩, wf_13, wf_2022⟩, wf_2021, (wt_sel (i := 82) (n := 25) (by decide +kernel))⟩
theorem wf_2015 : Cond.methodLink "SwitchboardModel" 267 ⟨"SwitchboardModel", "command", "()V"⟩ ∈ WT := wt_of (i := 2015) (by decide +kernel) rfl
theorem wf_2018 : Cond.code ⟨"SwitchboardModel", "command", "()V"⟩ prog_10_method_103_code 6 none ∈ WT := wt_of (i := 2018) (by decide +kernel) rfl
theorem wf_2017 : Cond.instanceMethod ⟨"SwitchboardModel", "command", "()V"⟩ ∈ WT := wt_of (i := 2017) (by decide +kernel) rfl
theorem fV_X8_command : cfV yX8_command cX8_command 6 none 0 := ⟨⟨⟨by decide +kernel, by decide +kernel, by decide +kernel⟩, wf_13, wf_2018⟩, wf_2017, (wt_sel (i := 81) (n := 25) (by decide +kernel))⟩
theorem wf_1564 : Cond.fieldLink "SwitchboardModel" 44 "SwitchboardModel" "failedAt" "I" ∈ WT := wt_of (i := 1564) (by decide +kernel) rfl
theorem wf_2041 : Cond.methodLink "SwitchboardModel" 273 ⟨"SwitchboardModel", "cannot", "(I)Z"⟩ ∈ WT := wt_of (i := 2041) (by decide +kernel) rfl
theorem wf_2044 : Cond.code ⟨"SwitchboardModel", "cannot", "(I)Z"⟩ prog_10_method_105_code 6 (some .boolean) ∈ WT := wt_of (i := 2044) (by decide +kernel) rfl
theorem wf_2043 : Cond.instanceMethod ⟨"SwitchboardModel", "cannot", "(I)Z"⟩ ∈ WT := wt_of (i := 2043) (by decide +kernel) rfl
theorem fV_X8_cannot : cfV yX8_cannot cX8_cannot 6 (some .boolean) 1 := ⟨⟨⟨by decide +kernel, by decide +kernel, by decide +kernel⟩, wf_13, wf_2044⟩, wf_2043, (wt_sel (i := 86) (n := 25) (by decide +kernel))⟩
theorem wf_2011 : Cond.methodLink "SwitchboardModel" 270 ⟨"SwitchboardModel", "parse", "()V"⟩ ∈ WT := wt_of (i := 2011) (by decide +kernel) rfl
theorem wf_2014 : Cond.code ⟨"SwitchboardModel", "parse", "()V"⟩ prog_10_method_104_code 1 none ∈ WT := wt_of (i := 2014) (by decide +kernel) rfl
theorem wf_2013 : Cond.instanceMethod ⟨"SwitchboardModel", "parse", "()V"⟩ ∈ WT := wt_of (i := 2013) (by decide +kernel) rfl
theorem fV_X8_parse : cfV yX8_parse cX8_parse 1 none 0 := ⟨⟨⟨by decide +kernel, by decide +kernel, by decide +kernel⟩, wf_13, wf_2014⟩, wf_2013, (wt_sel (i := 80) (n := 25) (by decide +kernel))⟩
theorem wf_1563 : Cond.fieldLink "SwitchboardModel" 41 "SwitchboardModel" "wrongAt" "I" ∈ WT := wt_of (i := 1563) (by decide +kernel) rfl
theorem wf_2049 : Cond.methodLink "SwitchboardModel" 276 ⟨"SwitchboardModel", "present", "(I)I"⟩ ∈ WT := wt_of (i := 2049) (by decide +kernel) rfl
theorem wf_2052 : Cond.code ⟨"SwitchboardModel", "present", "(I)I"⟩ prog_10_method_107_code 2 (some .int) ∈ WT := wt_of (i := 2052) (by decide +kernel) rfl
theorem wf_2051 : Cond.instanceMethod ⟨"SwitchboardModel", "present", "(I)I"⟩ ∈ WT := wt_of (i := 2051) (by decide +kernel) rfl
theorem fV_X8_present : cfV yX8_present cX8_present 2 (some .int) 1 := ⟨⟨⟨by decide +kernel, by decide +kernel, by decide +kernel⟩, wf_13, wf_2052⟩, wf_2051, (wt_sel (i := 87) (n := 25) (by decide +kernel))⟩
theorem wf_1555 : Cond.fieldLink "SwitchboardModel" 16 "SwitchboardModel" "saved" "[I" ∈ WT := wt_of (i := 1555) (by decide +kernel) rfl
theorem wf_1567 : Cond.fieldLink "SwitchboardModel" 53 "SwitchboardModel" "isSaved" "Z" ∈ WT := wt_of (i := 1567) (by decide +kernel) rfl
