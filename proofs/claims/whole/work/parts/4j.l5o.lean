theorem wf_0 : Cond.initialized "SwitchboardLaw" ∈ WT := wt_of (i := 0) (by decide +kernel) rfl
theorem wf_878 : Cond.static ⟨"SwitchboardLaw", "addSwitch", "(LSwitchboard;[J)I"⟩ ∈ WT := wt_of (i := 878) (by decide +kernel) rfl
theorem fW_addSwitch : cfW ⟨"SwitchboardLaw", "addSwitch", "(LSwitchboard;[J)I"⟩ method_3_code 3 (some .int) [(0, 8, 11, 13)] 2 := ⟨⟨by decide +kernel, by decide +kernel, by decide +kernel⟩, wf_0, wt_of (i := 879) (by decide +kernel) rfl, wf_878⟩
theorem wf_884 : Cond.code ⟨"Switchboard", "addSwitch", "()I"⟩ prog_1_method_2_code 1 (some .int) ∈ WT := wt_of (i := 884) (by decide +kernel) rfl
theorem wf_882 : Cond.instanceMethod ⟨"Switchboard", "addSwitch", "()I"⟩ ∈ WT := wt_of (i := 882) (by decide +kernel) rfl
theorem wf_883 : Cond.selects "Switchboard" ⟨"Switchboard", "addSwitch", "()I"⟩ ⟨"Switchboard", "addSwitch", "()I"⟩ ∈ WT := wt_of (i := 883) (by decide +kernel) rfl
theorem fV_X7_addSwitch : cfV yX7_addSwitch cX7_addSwitch 1 (some .int) 0 := ⟨⟨⟨by decide +kernel, by decide +kernel, by decide +kernel⟩, wf_1, wf_884⟩, wf_882, wf_883⟩
theorem wf_881 : Cond.methodLink "SwitchboardLaw" 7 ⟨"Switchboard", "addSwitch", "()I"⟩ ∈ WT := wt_of (i := 881) (by decide +kernel) rfl
theorem wf_880 : Cond.classLink "SwitchboardLaw" 13 "java/lang/IllegalStateException" ∈ WT := wt_of (i := 880) (by decide +kernel) rfl
theorem wf_1079 : Cond.static ⟨"SwitchboardLaw", "addTrunk", "(LSwitchboard;III[J)I"⟩ ∈ WT := wt_of (i := 1079) (by decide +kernel) rfl
theorem fW_addTrunk : cfW ⟨"SwitchboardLaw", "addTrunk", "(LSwitchboard;III[J)I"⟩ method_4_code 6 (some .int) [(0, 12, 15, 19), (0, 12, 19, 21), (0, 12, 23, 13)] 5 := ⟨⟨by decide +kernel, by decide +kernel, by decide +kernel⟩, wf_0, wt_of (i := 1080) (by decide +kernel) rfl, wf_1079⟩
theorem wf_1088 : Cond.code ⟨"Switchboard", "addTrunk", "(III)I"⟩ prog_1_method_3_code 4 (some .int) ∈ WT := wt_of (i := 1088) (by decide +kernel) rfl
theorem wf_1086 : Cond.instanceMethod ⟨"Switchboard", "addTrunk", "(III)I"⟩ ∈ WT := wt_of (i := 1086) (by decide +kernel) rfl
theorem wf_1087 : Cond.selects "Switchboard" ⟨"Switchboard", "addTrunk", "(III)I"⟩ ⟨"Switchboard", "addTrunk", "(III)I"⟩ ∈ WT := wt_of (i := 1087) (by decide +kernel) rfl
theorem fV_X7_addTrunk : cfV yX7_addTrunk cX7_addTrunk 4 (some .int) 3 := ⟨⟨⟨by decide +kernel, by decide +kernel, by decide +kernel⟩, wf_1, wf_1088⟩, wf_1086, wf_1087⟩
theorem wf_1085 : Cond.methodLink "SwitchboardLaw" 15 ⟨"Switchboard", "addTrunk", "(III)I"⟩ ∈ WT := wt_of (i := 1085) (by decide +kernel) rfl
theorem wf_1081 : Cond.classLink "SwitchboardLaw" 19 "java/lang/IndexOutOfBoundsException" ∈ WT := wt_of (i := 1081) (by decide +kernel) rfl
theorem wf_1084 : Cond.classLink "SwitchboardLaw" 21 "java/lang/IllegalArgumentException" ∈ WT := wt_of (i := 1084) (by decide +kernel) rfl
theorem wf_1090 : Cond.static ⟨"SwitchboardLaw", "addSubscriber", "(LSwitchboard;II[J)I"⟩ ∈ WT := wt_of (i := 1090) (by decide +kernel) rfl
theorem fW_addSubscriber : cfW ⟨"SwitchboardLaw", "addSubscriber", "(LSwitchboard;II[J)I"⟩ method_5_code 5 (some .int) [(0, 10, 13, 19), (0, 10, 17, 21), (0, 10, 21, 13)] 4 := ⟨⟨by decide +kernel, by decide +kernel, by decide +kernel⟩, wf_0, wt_of (i := 1091) (by decide +kernel) rfl, wf_1090⟩
theorem wf_1095 : Cond.code ⟨"Switchboard", "addSubscriber", "(II)I"⟩ prog_1_method_4_code 3 (some .int) ∈ WT := wt_of (i := 1095) (by decide +kernel) rfl
theorem wf_1093 : Cond.instanceMethod ⟨"Switchboard", "addSubscriber", "(II)I"⟩ ∈ WT := wt_of (i := 1093) (by decide +kernel) rfl
theorem wf_1094 : Cond.selects "Switchboard" ⟨"Switchboard", "addSubscriber", "(II)I"⟩ ⟨"Switchboard", "addSubscriber", "(II)I"⟩ ∈ WT := wt_of (i := 1094) (by decide +kernel) rfl
theorem fV_X7_addSubscriber : cfV yX7_addSubscriber cX7_addSubscriber 3 (some .int) 2 := ⟨⟨⟨by decide +kernel, by decide +kernel, by decide +kernel⟩, wf_1, wf_1095⟩, wf_1093, wf_1094⟩
theorem wf_1092 : Cond.methodLink "SwitchboardLaw" 23 ⟨"Switchboard", "addSubscriber", "(II)I"⟩ ∈ WT := wt_of (i := 1092) (by decide +kernel) rfl
theorem wf_1097 : Cond.static ⟨"SwitchboardLaw", "cut", "(LSwitchboard;I[J)I"⟩ ∈ WT := wt_of (i := 1097) (by decide +kernel) rfl
theorem fW_cut : cfW ⟨"SwitchboardLaw", "cut", "(LSwitchboard;I[J)I"⟩ method_6_code 4 (some .int) [(0, 16, 19, 19), (0, 16, 22, 13)] 3 := ⟨⟨by decide +kernel, by decide +kernel, by decide +kernel⟩, wf_0, wt_of (i := 1098) (by decide +kernel) rfl, wf_1097⟩
theorem wf_1102 : Cond.code ⟨"Switchboard", "cut", "(I)Z"⟩ prog_1_method_5_code 2 (some .boolean) ∈ WT := wt_of (i := 1102) (by decide +kernel) rfl
theorem wf_1100 : Cond.instanceMethod ⟨"Switchboard", "cut", "(I)Z"⟩ ∈ WT := wt_of (i := 1100) (by decide +kernel) rfl
theorem wf_1101 : Cond.selects "Switchboard" ⟨"Switchboard", "cut", "(I)Z"⟩ ⟨"Switchboard", "cut", "(I)Z"⟩ ∈ WT := wt_of (i := 1101) (by decide +kernel) rfl
theorem fV_X7_cut : cfV yX7_cut cX7_cut 2 (some .boolean) 1 := ⟨⟨⟨by decide +kernel, by decide +kernel, by decide +kernel⟩, wf_1, wf_1102⟩, wf_1100, wf_1101⟩
theorem wf_1099 : Cond.methodLink "SwitchboardLaw" 27 ⟨"Switchboard", "cut", "(I)Z"⟩ ∈ WT := wt_of (i := 1099) (by decide +kernel) rfl
theorem wf_1104 : Cond.static ⟨"SwitchboardLaw", "mend", "(LSwitchboard;I[J)I"⟩ ∈ WT := wt_of (i := 1104) (by decide +kernel) rfl
theorem fW_mend : cfW ⟨"SwitchboardLaw", "mend", "(LSwitchboard;I[J)I"⟩ method_7_code 4 (some .int) [(0, 9, 12, 19), (0, 9, 15, 13)] 3 := ⟨⟨by decide +kernel, by decide +kernel, by decide +kernel⟩, wf_0, wt_of (i := 1105) (by decide +kernel) rfl, wf_1104⟩
theorem wf_1109 : Cond.code ⟨"Switchboard", "mend", "(I)I"⟩ prog_1_method_6_code 2 (some .int) ∈ WT := wt_of (i := 1109) (by decide +kernel) rfl
theorem wf_1107 : Cond.instanceMethod ⟨"Switchboard", "mend", "(I)I"⟩ ∈ WT := wt_of (i := 1107) (by decide +kernel) rfl
theorem wf_1108 : Cond.selects "Switchboard" ⟨"Switchboard", "mend", "(I)I"⟩ ⟨"Switchboard", "mend", "(I)I"⟩ ∈ WT := wt_of (i := 1108) (by decide +kernel) rfl
theorem fV_X7_mend : cfV yX7_mend cX7_mend 2 (some .int) 1 := ⟨⟨⟨by decide +kernel, by decide +kernel, by decide +kernel⟩, wf_1, wf_1109⟩, wf_1107, wf_1108⟩
theorem wf_1106 : Cond.methodLink "SwitchboardLaw" 31 ⟨"Switchboard", "mend", "(I)I"⟩ ∈ WT := wt_of (i := 1106) (by decide +kernel) rfl
theorem wf_1111 : Cond.static ⟨"SwitchboardLaw", "call", "(LSwitchboard;II[J)I"⟩ ∈ WT := wt_of (i := 1111) (by decide +kernel) rfl
theorem fW_call : cfW ⟨"SwitchboardLaw", "call", "(LSwitchboard;II[J)I"⟩ method_8_code 5 (some .int) [(0, 10, 13, 19), (0, 10, 17, 21), (0, 10, 21, 13), (0, 10, 25, 38)] 4 := ⟨⟨by decide +kernel, by decide +kernel, by decide +kernel⟩, wf_0, wt_of (i := 1112) (by decide +kernel) rfl, wf_1111⟩
theorem wf_1117 : Cond.code ⟨"Switchboard", "call", "(II)I"⟩ prog_1_method_7_code 3 (some .int) ∈ WT := wt_of (i := 1117) (by decide +kernel) rfl
theorem wf_1115 : Cond.instanceMethod ⟨"Switchboard", "call", "(II)I"⟩ ∈ WT := wt_of (i := 1115) (by decide +kernel) rfl
theorem wf_1116 : Cond.selects "Switchboard" ⟨"Switchboard", "call", "(II)I"⟩ ⟨"Switchboard", "call", "(II)I"⟩ ∈ WT := wt_of (i := 1116) (by decide +kernel) rfl
theorem fV_X7_call : cfV yX7_call cX7_call 3 (some .int) 2 := ⟨⟨⟨by decide +kernel, by decide +kernel, by decide +kernel⟩, wf_1, wf_1117⟩, wf_1115, wf_1116⟩
theorem wf_1114 : Cond.methodLink "SwitchboardLaw" 35 ⟨"Switchboard", "call", "(II)I"⟩ ∈ WT := wt_of (i := 1114) (by decide +kernel) rfl
theorem wf_1113 : Cond.classLink "SwitchboardLaw" 38 "java/lang/UnsupportedOperationException" ∈ WT := wt_of (i := 1113) (by decide +kernel) rfl
theorem wf_1119 : Cond.static ⟨"SwitchboardLaw", "hangUp", "(LSwitchboard;I[J)I"⟩ ∈ WT := wt_of (i := 1119) (by decide +kernel) rfl
theorem fW_hangUp : cfW ⟨"SwitchboardLaw", "hangUp", "(LSwitchboard;I[J)I"⟩ method_9_code 4 (some .int) [(0, 9, 12, 19), (0, 9, 15, 13)] 3 := ⟨⟨by decide +kernel, by decide +kernel, by decide +kernel⟩, wf_0, wt_of (i := 1120) (by decide +kernel) rfl, wf_1119⟩
theorem wf_1124 : Cond.code ⟨"Switchboard", "hangUp", "(I)I"⟩ prog_1_method_8_code 2 (some .int) ∈ WT := wt_of (i := 1124) (by decide +kernel) rfl
theorem wf_1122 : Cond.instanceMethod ⟨"Switchboard", "hangUp", "(I)I"⟩ ∈ WT := wt_of (i := 1122) (by decide +kernel) rfl
theorem wf_1123 : Cond.selects "Switchboard" ⟨"Switchboard", "hangUp", "(I)I"⟩ ⟨"Switchboard", "hangUp", "(I)I"⟩ ∈ WT := wt_of (i := 1123) (by decide +kernel) rfl
theorem fV_X7_hangUp : cfV yX7_hangUp cX7_hangUp 2 (some .int) 1 := ⟨⟨⟨by decide +kernel, by decide +kernel, by decide +kernel⟩, wf_1, wf_1124⟩, wf_1122, wf_1123⟩
theorem wf_1121 : Cond.methodLink "SwitchboardLaw" 40 ⟨"Switchboard", "hangUp", "(I)I"⟩ ∈ WT := wt_of (i := 1121) (by decide +kernel) rfl
theorem wf_1126 : Cond.static ⟨"SwitchboardLaw", "pass", "(LSwitchboard;I[J)I"⟩ ∈ WT := wt_of (i := 1126) (by decide +kernel) rfl
theorem fW_pass : cfW ⟨"SwitchboardLaw", "pass", "(LSwitchboard;I[J)I"⟩ method_10_code 4 (some .int) [(0, 9, 12, 21)] 3 := ⟨⟨by decide +kernel, by decide +kernel, by decide +kernel⟩, wf_0, wt_of (i := 1127) (by decide +kernel) rfl, wf_1126⟩
theorem wf_1131 : Cond.code ⟨"Switchboard", "pass", "(I)I"⟩ prog_1_method_9_code 2 (some .int) ∈ WT := wt_of (i := 1131) (by decide +kernel) rfl
theorem wf_1129 : Cond.instanceMethod ⟨"Switchboard", "pass", "(I)I"⟩ ∈ WT := wt_of (i := 1129) (by decide +kernel) rfl
theorem wf_1130 : Cond.selects "Switchboard" ⟨"Switchboard", "pass", "(I)I"⟩ ⟨"Switchboard", "pass", "(I)I"⟩ ∈ WT := wt_of (i := 1130) (by decide +kernel) rfl
theorem fV_X7_pass : cfV yX7_pass cX7_pass 2 (some .int) 1 := ⟨⟨⟨by decide +kernel, by decide +kernel, by decide +kernel⟩, wf_1, wf_1131⟩, wf_1129, wf_1130⟩
theorem wf_1128 : Cond.methodLink "SwitchboardLaw" 43 ⟨"Switchboard", "pass", "(I)I"⟩ ∈ WT := wt_of (i := 1128) (by decide +kernel) rfl
theorem wf_1133 : Cond.static ⟨"SwitchboardLaw", "trunkLength", "(LSwitchboard;I[J)I"⟩ ∈ WT := wt_of (i := 1133) (by decide +kernel) rfl
theorem fW_trunkLength : cfW ⟨"SwitchboardLaw", "trunkLength", "(LSwitchboard;I[J)I"⟩ method_11_code 4 (some .int) [(0, 9, 12, 19)] 3 := ⟨⟨by decide +kernel, by decide +kernel, by decide +kernel⟩, wf_0, wt_of (i := 1134) (by decide +kernel) rfl, wf_1133⟩
theorem wf_1138 : Cond.code ⟨"Switchboard", "trunkLength", "(I)I"⟩ prog_1_method_19_code 2 (some .int) ∈ WT := wt_of (i := 1138) (by decide +kernel) rfl
theorem wf_1136 : Cond.instanceMethod ⟨"Switchboard", "trunkLength", "(I)I"⟩ ∈ WT := wt_of (i := 1136) (by decide +kernel) rfl
theorem wf_1137 : Cond.selects "Switchboard" ⟨"Switchboard", "trunkLength", "(I)I"⟩ ⟨"Switchboard", "trunkLength", "(I)I"⟩ ∈ WT := wt_of (i := 1137) (by decide +kernel) rfl
theorem fV_X7_trunkLength : cfV yX7_trunkLength cX7_trunkLength 2 (some .int) 1 := ⟨⟨⟨by decide +kernel, by decide +kernel, by decide +kernel⟩, wf_1, wf_1138⟩, wf_1136, wf_1137⟩
theorem wf_1135 : Cond.methodLink "SwitchboardLaw" 46 ⟨"Switchboard", "trunkLength", "(I)I"⟩ ∈ WT := wt_of (i := 1135) (by decide +kernel) rfl
theorem wf_1146 : Cond.static ⟨"SwitchboardLaw", "otherEnd", "(LSwitchboard;II[J)I"⟩ ∈ WT := wt_of (i := 1146) (by decide +kernel) rfl
theorem fW_otherEnd : cfW ⟨"SwitchboardLaw", "otherEnd", "(LSwitchboard;II[J)I"⟩ method_12_code 5 (some .int) [(0, 10, 13, 19), (0, 10, 17, 21)] 4 := ⟨⟨by decide +kernel, by decide +kernel, by decide +kernel⟩, wf_0, wt_of (i := 1147) (by decide +kernel) rfl, wf_1146⟩
theorem wf_1151 : Cond.code ⟨"Switchboard", "otherEnd", "(II)I"⟩ prog_1_method_20_code 4 (some .int) ∈ WT := wt_of (i := 1151) (by decide +kernel) rfl
theorem wf_1149 : Cond.instanceMethod ⟨"Switchboard", "otherEnd", "(II)I"⟩ ∈ WT := wt_of (i := 1149) (by decide +kernel) rfl
theorem wf_1150 : Cond.selects "Switchboard" ⟨"Switchboard", "otherEnd", "(II)I"⟩ ⟨"Switchboard", "otherEnd", "(II)I"⟩ ∈ WT := wt_of (i := 1150) (by decide +kernel) rfl
theorem fV_X7_otherEnd : cfV yX7_otherEnd cX7_otherEnd 4 (some .int) 2 := ⟨⟨⟨by decide +kernel, by decide +kernel, by decide +kernel⟩, wf_1, wf_1151⟩, wf_1149, wf_1150⟩
theorem wf_1148 : Cond.methodLink "SwitchboardLaw" 49 ⟨"Switchboard", "otherEnd", "(II)I"⟩ ∈ WT := wt_of (i := 1148) (by decide +kernel) rfl
theorem wf_1155 : Cond.static ⟨"SwitchboardLaw", "isCut", "(LSwitchboard;I[J)I"⟩ ∈ WT := wt_of (i := 1155) (by decide +kernel) rfl
theorem fW_isCut : cfW ⟨"SwitchboardLaw", "isCut", "(LSwitchboard;I[J)I"⟩ method_13_code 4 (some .int) [(0, 16, 19, 19)] 3 := ⟨⟨by decide +kernel, by decide +kernel, by decide +kernel⟩, wf_0, wt_of (i := 1156) (by decide +kernel) rfl, wf_1155⟩
theorem wf_1160 : Cond.code ⟨"Switchboard", "isCut", "(I)Z"⟩ prog_1_method_21_code 2 (some .boolean) ∈ WT := wt_of (i := 1160) (by decide +kernel) rfl
theorem wf_1158 : Cond.instanceMethod ⟨"Switchboard", "isCut", "(I)Z"⟩ ∈ WT := wt_of (i := 1158) (by decide +kernel) rfl
theorem wf_1159 : Cond.selects "Switchboard" ⟨"Switchboard", "isCut", "(I)Z"⟩ ⟨"Switchboard", "isCut", "(I)Z"⟩ ∈ WT := wt_of (i := 1159) (by decide +kernel) rfl
theorem fV_X7_isCut : cfV yX7_isCut cX7_isCut 2 (some .boolean) 1 := ⟨⟨⟨by decide +kernel, by decide +kernel, by decide +kernel⟩, wf_1, wf_1160⟩, wf_1158, wf_1159⟩
theorem wf_1157 : Cond.methodLink "SwitchboardLaw" 52 ⟨"Switchboard", "isCut", "(I)Z"⟩ ∈ WT := wt_of (i := 1157) (by decide +kernel) rfl
theorem wf_1163 : Cond.static ⟨"SwitchboardLaw", "userOf", "(LSwitchboard;I[J)I"⟩ ∈ WT := wt_of (i := 1163) (by decide +kernel) rfl
theorem fW_userOf : cfW ⟨"SwitchboardLaw", "userOf", "(LSwitchboard;I[J)I"⟩ method_14_code 4 (some .int) [(0, 9, 12, 19), (0, 9, 15, 58)] 3 := ⟨⟨by decide +kernel, by decide +kernel, by decide +kernel⟩, wf_0, wt_of (i := 1164) (by decide +kernel) rfl, wf_1163⟩
theorem wf_1169 : Cond.code ⟨"Switchboard", "userOf", "(I)I"⟩ prog_1_method_22_code 3 (some .int) ∈ WT := wt_of (i := 1169) (by decide +kernel) rfl
theorem wf_1167 : Cond.instanceMethod ⟨"Switchboard", "userOf", "(I)I"⟩ ∈ WT := wt_of (i := 1167) (by decide +kernel) rfl
theorem wf_1168 : Cond.selects "Switchboard" ⟨"Switchboard", "userOf", "(I)I"⟩ ⟨"Switchboard", "userOf", "(I)I"⟩ ∈ WT := wt_of (i := 1168) (by decide +kernel) rfl
theorem fV_X7_userOf : cfV yX7_userOf cX7_userOf 3 (some .int) 1 := ⟨⟨⟨by decide +kernel, by decide +kernel, by decide +kernel⟩, wf_1, wf_1169⟩, wf_1167, wf_1168⟩
theorem wf_1166 : Cond.methodLink "SwitchboardLaw" 55 ⟨"Switchboard", "userOf", "(I)I"⟩ ∈ WT := wt_of (i := 1166) (by decide +kernel) rfl
theorem wf_1165 : Cond.classLink "SwitchboardLaw" 58 "java/util/NoSuchElementException" ∈ WT := wt_of (i := 1165) (by decide +kernel) rfl
theorem wf_1187 : Cond.static ⟨"SwitchboardLaw", "minutesOn", "(LSwitchboard;I[J)I"⟩ ∈ WT := wt_of (i := 1187) (by decide +kernel) rfl
theorem fW_minutesOn : cfW ⟨"SwitchboardLaw", "minutesOn", "(LSwitchboard;I[J)I"⟩ method_15_code 4 (some .int) [(0, 9, 12, 19)] 3 := ⟨⟨by decide +kernel, by decide +kernel, by decide +kernel⟩, wf_0, wt_of (i := 1188) (by decide +kernel) rfl, wf_1187⟩
theorem wf_1192 : Cond.code ⟨"Switchboard", "minutesOn", "(I)I"⟩ prog_1_method_23_code 2 (some .int) ∈ WT := wt_of (i := 1192) (by decide +kernel) rfl
theorem wf_1190 : Cond.instanceMethod ⟨"Switchboard", "minutesOn", "(I)I"⟩ ∈ WT := wt_of (i := 1190) (by decide +kernel) rfl
theorem wf_1191 : Cond.selects "Switchboard" ⟨"Switchboard", "minutesOn", "(I)I"⟩ ⟨"Switchboard", "minutesOn", "(I)I"⟩ ∈ WT := wt_of (i := 1191) (by decide +kernel) rfl
theorem fV_X7_minutesOn : cfV yX7_minutesOn cX7_minutesOn 2 (some .int) 1 := ⟨⟨⟨by decide +kernel, by decide +kernel, by decide +kernel⟩, wf_1, wf_1192⟩, wf_1190, wf_1191⟩
theorem wf_1189 : Cond.methodLink "SwitchboardLaw" 60 ⟨"Switchboard", "minutesOn", "(I)I"⟩ ∈ WT := wt_of (i := 1189) (by decide +kernel) rfl
theorem wf_1194 : Cond.static ⟨"SwitchboardLaw", "routeLength", "(LSwitchboard;II[J)I"⟩ ∈ WT := wt_of (i := 1194) (by decide +kernel) rfl
theorem fW_routeLength : cfW ⟨"SwitchboardLaw", "routeLength", "(LSwitchboard;II[J)I"⟩ method_16_code 5 (some .int) [(0, 10, 13, 19), (0, 10, 17, 58)] 4 := ⟨⟨by decide +kernel, by decide +kernel, by decide +kernel⟩, wf_0, wt_of (i := 1195) (by decide +kernel) rfl, wf_1194⟩
theorem wf_1199 : Cond.code ⟨"Switchboard", "routeLength", "(II)I"⟩ prog_1_method_25_code 3 (some .int) ∈ WT := wt_of (i := 1199) (by decide +kernel) rfl
theorem wf_1197 : Cond.instanceMethod ⟨"Switchboard", "routeLength", "(II)I"⟩ ∈ WT := wt_of (i := 1197) (by decide +kernel) rfl
theorem wf_1198 : Cond.selects "Switchboard" ⟨"Switchboard", "routeLength", "(II)I"⟩ ⟨"Switchboard", "routeLength", "(II)I"⟩ ∈ WT := wt_of (i := 1198) (by decide +kernel) rfl
theorem fV_X7_routeLength : cfV yX7_routeLength cX7_routeLength 3 (some .int) 2 := ⟨⟨⟨by decide +kernel, by decide +kernel, by decide +kernel⟩, wf_1, wf_1199⟩, wf_1197, wf_1198⟩
theorem wf_1196 : Cond.methodLink "SwitchboardLaw" 63 ⟨"Switchboard", "routeLength", "(II)I"⟩ ∈ WT := wt_of (i := 1196) (by decide +kernel) rfl
theorem wf_1211 : Cond.static ⟨"SwitchboardLaw", "routeLengthByRelaxation", "(LSwitchboard;II[J)I"⟩ ∈ WT := wt_of (i := 1211) (by decide +kernel) rfl
theorem fW_routeLengthByRelaxation : cfW ⟨"SwitchboardLaw", "routeLengthByRelaxation", "(LSwitchboard;II[J)I"⟩ method_17_code 5 (some .int) [(0, 10, 13, 19), (0, 10, 17, 58)] 4 := ⟨⟨by decide +kernel, by decide +kernel, by decide +kernel⟩, wf_0, wt_of (i := 1212) (by decide +kernel) rfl, wf_1211⟩
theorem wf_1216 : Cond.code ⟨"Switchboard", "routeLengthByRelaxation", "(II)I"⟩ prog_1_method_26_code 3 (some .int) ∈ WT := wt_of (i := 1216) (by decide +kernel) rfl
theorem wf_1214 : Cond.instanceMethod ⟨"Switchboard", "routeLengthByRelaxation", "(II)I"⟩ ∈ WT := wt_of (i := 1214) (by decide +kernel) rfl
theorem wf_1215 : Cond.selects "Switchboard" ⟨"Switchboard", "routeLengthByRelaxation", "(II)I"⟩ ⟨"Switchboard", "routeLengthByRelaxation", "(II)I"⟩ ∈ WT := wt_of (i := 1215) (by decide +kernel) rfl
theorem fV_X7_routeLengthByRelaxation : cfV yX7_routeLengthByRelaxation cX7_routeLengthByRelaxation 3 (some .int) 2 := ⟨⟨⟨by decide +kernel, by decide +kernel, by decide +kernel⟩, wf_1, wf_1216⟩, wf_1214, wf_1215⟩
theorem wf_1213 : Cond.methodLink "SwitchboardLaw" 66 ⟨"Switchboard", "routeLengthByRelaxation", "(II)I"⟩ ∈ WT := wt_of (i := 1213) (by decide +kernel) rfl
theorem wf_1219 : Cond.static ⟨"SwitchboardLaw", "disjointRoutes", "(LSwitchboard;II[J)I"⟩ ∈ WT := wt_of (i := 1219) (by decide +kernel) rfl
theorem fW_disjointRoutes : cfW ⟨"SwitchboardLaw", "disjointRoutes", "(LSwitchboard;II[J)I"⟩ method_18_code 5 (some .int) [(0, 10, 13, 19), (0, 10, 17, 21)] 4 := ⟨⟨by decide +kernel, by decide +kernel, by decide +kernel⟩, wf_0, wt_of (i := 1220) (by decide +kernel) rfl, wf_1219⟩
theorem wf_1224 : Cond.code ⟨"Switchboard", "disjointRoutes", "(II)I"⟩ prog_1_method_27_code 3 (some .int) ∈ WT := wt_of (i := 1224) (by decide +kernel) rfl
theorem wf_1222 : Cond.instanceMethod ⟨"Switchboard", "disjointRoutes", "(II)I"⟩ ∈ WT := wt_of (i := 1222) (by decide +kernel) rfl
theorem wf_1223 : Cond.selects "Switchboard" ⟨"Switchboard", "disjointRoutes", "(II)I"⟩ ⟨"Switchboard", "disjointRoutes", "(II)I"⟩ ∈ WT := wt_of (i := 1223) (by decide +kernel) rfl
theorem fV_X7_disjointRoutes : cfV yX7_disjointRoutes cX7_disjointRoutes 3 (some .int) 2 := ⟨⟨⟨by decide +kernel, by decide +kernel, by decide +kernel⟩, wf_1, wf_1224⟩, wf_1222, wf_1223⟩
theorem wf_1221 : Cond.methodLink "SwitchboardLaw" 69 ⟨"Switchboard", "disjointRoutes", "(II)I"⟩ ∈ WT := wt_of (i := 1221) (by decide +kernel) rfl
theorem wf_1231 : Cond.static ⟨"SwitchboardLaw", "minimalCut", "(LSwitchboard;II[J)I"⟩ ∈ WT := wt_of (i := 1231) (by decide +kernel) rfl
theorem fW_minimalCut : cfW ⟨"SwitchboardLaw", "minimalCut", "(LSwitchboard;II[J)I"⟩ method_19_code 5 (some .int) [(0, 10, 13, 19), (0, 10, 17, 21)] 4 := ⟨⟨by decide +kernel, by decide +kernel, by decide +kernel⟩, wf_0, wt_of (i := 1232) (by decide +kernel) rfl, wf_1231⟩
theorem wf_1236 : Cond.code ⟨"Switchboard", "minimalCut", "(II)I"⟩ prog_1_method_28_code 3 (some .int) ∈ WT := wt_of (i := 1236) (by decide +kernel) rfl
theorem wf_1234 : Cond.instanceMethod ⟨"Switchboard", "minimalCut", "(II)I"⟩ ∈ WT := wt_of (i := 1234) (by decide +kernel) rfl
theorem wf_1235 : Cond.selects "Switchboard" ⟨"Switchboard", "minimalCut", "(II)I"⟩ ⟨"Switchboard", "minimalCut", "(II)I"⟩ ∈ WT := wt_of (i := 1235) (by decide +kernel) rfl
theorem fV_X7_minimalCut : cfV yX7_minimalCut cX7_minimalCut 3 (some .int) 2 := ⟨⟨⟨by decide +kernel, by decide +kernel, by decide +kernel⟩, wf_1, wf_1236⟩, wf_1234, wf_1235⟩
theorem wf_1233 : Cond.methodLink "SwitchboardLaw" 72 ⟨"Switchboard", "minimalCut", "(II)I"⟩ ∈ WT := wt_of (i := 1233) (by decide +kernel) rfl
theorem wf_1239 : Cond.static ⟨"SwitchboardLaw", "home", "(LSwitchboard;I[J)I"⟩ ∈ WT := wt_of (i := 1239) (by decide +kernel) rfl
theorem fW_home : cfW ⟨"SwitchboardLaw", "home", "(LSwitchboard;I[J)I"⟩ method_20_code 4 (some .int) [(0, 9, 12, 19)] 3 := ⟨⟨by decide +kernel, by decide +kernel, by decide +kernel⟩, wf_0, wt_of (i := 1240) (by decide +kernel) rfl, wf_1239⟩
theorem wf_1244 : Cond.code ⟨"Switchboard", "home", "(I)I"⟩ prog_1_method_33_code 2 (some .int) ∈ WT := wt_of (i := 1244) (by decide +kernel) rfl
theorem wf_1242 : Cond.instanceMethod ⟨"Switchboard", "home", "(I)I"⟩ ∈ WT := wt_of (i := 1242) (by decide +kernel) rfl
theorem wf_1243 : Cond.selects "Switchboard" ⟨"Switchboard", "home", "(I)I"⟩ ⟨"Switchboard", "home", "(I)I"⟩ ∈ WT := wt_of (i := 1243) (by decide +kernel) rfl
theorem fV_X7_home : cfV yX7_home cX7_home 2 (some .int) 1 := ⟨⟨⟨by decide +kernel, by decide +kernel, by decide +kernel⟩, wf_1, wf_1244⟩, wf_1242, wf_1243⟩
theorem wf_1241 : Cond.methodLink "SwitchboardLaw" 75 ⟨"Switchboard", "home", "(I)I"⟩ ∈ WT := wt_of (i := 1241) (by decide +kernel) rfl
theorem wf_1251 : Cond.static ⟨"SwitchboardLaw", "tariff", "(LSwitchboard;I[J)I"⟩ ∈ WT := wt_of (i := 1251) (by decide +kernel) rfl
theorem fW_tariff : cfW ⟨"SwitchboardLaw", "tariff", "(LSwitchboard;I[J)I"⟩ method_21_code 4 (some .int) [(0, 9, 12, 19)] 3 := ⟨⟨by decide +kernel, by decide +kernel, by decide +kernel⟩, wf_0, wt_of (i := 1252) (by decide +kernel) rfl, wf_1251⟩
theorem wf_1256 : Cond.code ⟨"Switchboard", "tariff", "(I)I"⟩ prog_1_method_34_code 2 (some .int) ∈ WT := wt_of (i := 1256) (by decide +kernel) rfl
theorem wf_1254 : Cond.instanceMethod ⟨"Switchboard", "tariff", "(I)I"⟩ ∈ WT := wt_of (i := 1254) (by decide +kernel) rfl
theorem wf_1255 : Cond.selects "Switchboard" ⟨"Switchboard", "tariff", "(I)I"⟩ ⟨"Switchboard", "tariff", "(I)I"⟩ ∈ WT := wt_of (i := 1255) (by decide +kernel) rfl
theorem fV_X7_tariff : cfV yX7_tariff cX7_tariff 2 (some .int) 1 := ⟨⟨⟨by decide +kernel, by decide +kernel, by decide +kernel⟩, wf_1, wf_1256⟩, wf_1254, wf_1255⟩
theorem wf_1253 : Cond.methodLink "SwitchboardLaw" 78 ⟨"Switchboard", "tariff", "(I)I"⟩ ∈ WT := wt_of (i := 1253) (by decide +kernel) rfl
theorem wf_1258 : Cond.static ⟨"SwitchboardLaw", "bill", "(LSwitchboard;I[J)I"⟩ ∈ WT := wt_of (i := 1258) (by decide +kernel) rfl
theorem fW_bill : cfW ⟨"SwitchboardLaw", "bill", "(LSwitchboard;I[J)I"⟩ method_22_code 4 (some .int) [(0, 9, 12, 19)] 3 := ⟨⟨by decide +kernel, by decide +kernel, by decide +kernel⟩, wf_0, wt_of (i := 1259) (by decide +kernel) rfl, wf_1258⟩
theorem wf_1263 : Cond.code ⟨"Switchboard", "bill", "(I)I"⟩ prog_1_method_35_code 2 (some .int) ∈ WT := wt_of (i := 1263) (by decide +kernel) rfl
theorem wf_1261 : Cond.instanceMethod ⟨"Switchboard", "bill", "(I)I"⟩ ∈ WT := wt_of (i := 1261) (by decide +kernel) rfl
theorem wf_1262 : Cond.selects "Switchboard" ⟨"Switchboard", "bill", "(I)I"⟩ ⟨"Switchboard", "bill", "(I)I"⟩ ∈ WT := wt_of (i := 1262) (by decide +kernel) rfl
theorem fV_X7_bill : cfV yX7_bill cX7_bill 2 (some .int) 1 := ⟨⟨⟨by decide +kernel, by decide +kernel, by decide +kernel⟩, wf_1, wf_1263⟩, wf_1261, wf_1262⟩
theorem wf_1260 : Cond.methodLink "SwitchboardLaw" 81 ⟨"Switchboard", "bill", "(I)I"⟩ ∈ WT := wt_of (i := 1260) (by decide +kernel) rfl
theorem wf_1265 : Cond.static ⟨"SwitchboardLaw", "isTalking", "(LSwitchboard;I[J)I"⟩ ∈ WT := wt_of (i := 1265) (by decide +kernel) rfl
theorem fW_isTalking : cfW ⟨"SwitchboardLaw", "isTalking", "(LSwitchboard;I[J)I"⟩ method_23_code 4 (some .int) [(0, 16, 19, 19)] 3 := ⟨⟨by decide +kernel, by decide +kernel, by decide +kernel⟩, wf_0, wt_of (i := 1266) (by decide +kernel) rfl, wf_1265⟩
theorem wf_1270 : Cond.code ⟨"Switchboard", "isTalking", "(I)Z"⟩ prog_1_method_36_code 2 (some .boolean) ∈ WT := wt_of (i := 1270) (by decide +kernel) rfl
theorem wf_1268 : Cond.instanceMethod ⟨"Switchboard", "isTalking", "(I)Z"⟩ ∈ WT := wt_of (i := 1268) (by decide +kernel) rfl
theorem wf_1269 : Cond.selects "Switchboard" ⟨"Switchboard", "isTalking", "(I)Z"⟩ ⟨"Switchboard", "isTalking", "(I)Z"⟩ ∈ WT := wt_of (i := 1269) (by decide +kernel) rfl
theorem fV_X7_isTalking : cfV yX7_isTalking cX7_isTalking 2 (some .boolean) 1 := ⟨⟨⟨by decide +kernel, by decide +kernel, by decide +kernel⟩, wf_1, wf_1270⟩, wf_1268, wf_1269⟩
theorem wf_1267 : Cond.methodLink "SwitchboardLaw" 84 ⟨"Switchboard", "isTalking", "(I)Z"⟩ ∈ WT := wt_of (i := 1267) (by decide +kernel) rfl
theorem wf_1272 : Cond.static ⟨"SwitchboardLaw", "partner", "(LSwitchboard;I[J)I"⟩ ∈ WT := wt_of (i := 1272) (by decide +kernel) rfl
theorem fW_partner : cfW ⟨"SwitchboardLaw", "partner", "(LSwitchboard;I[J)I"⟩ method_24_code 4 (some .int) [(0, 9, 12, 19), (0, 9, 15, 58)] 3 := ⟨⟨by decide +kernel, by decide +kernel, by decide +kernel⟩, wf_0, wt_of (i := 1273) (by decide +kernel) rfl, wf_1272⟩
theorem wf_1277 : Cond.code ⟨"Switchboard", "partner", "(I)I"⟩ prog_1_method_37_code 3 (some .int) ∈ WT := wt_of (i := 1277) (by decide +kernel) rfl
theorem wf_1275 : Cond.instanceMethod ⟨"Switchboard", "partner", "(I)I"⟩ ∈ WT := wt_of (i := 1275) (by decide +kernel) rfl
theorem wf_1276 : Cond.selects "Switchboard" ⟨"Switchboard", "partner", "(I)I"⟩ ⟨"Switchboard", "partner", "(I)I"⟩ ∈ WT := wt_of (i := 1276) (by decide +kernel) rfl
theorem fV_X7_partner : cfV yX7_partner cX7_partner 3 (some .int) 1 := ⟨⟨⟨by decide +kernel, by decide +kernel, by decide +kernel⟩, wf_1, wf_1277⟩, wf_1275, wf_1276⟩
theorem wf_1274 : Cond.methodLink "SwitchboardLaw" 87 ⟨"Switchboard", "partner", "(I)I"⟩ ∈ WT := wt_of (i := 1274) (by decide +kernel) rfl
theorem wf_1284 : Cond.static ⟨"SwitchboardLaw", "minutes", "(LSwitchboard;I[J)I"⟩ ∈ WT := wt_of (i := 1284) (by decide +kernel) rfl
theorem fW_minutes : cfW ⟨"SwitchboardLaw", "minutes", "(LSwitchboard;I[J)I"⟩ method_25_code 4 (some .int) [(0, 9, 12, 19), (0, 9, 15, 58)] 3 := ⟨⟨by decide +kernel, by decide +kernel, by decide +kernel⟩, wf_0, wt_of (i := 1285) (by decide +kernel) rfl, wf_1284⟩
theorem wf_1289 : Cond.code ⟨"Switchboard", "minutes", "(I)I"⟩ prog_1_method_38_code 2 (some .int) ∈ WT := wt_of (i := 1289) (by decide +kernel) rfl
theorem wf_1287 : Cond.instanceMethod ⟨"Switchboard", "minutes", "(I)I"⟩ ∈ WT := wt_of (i := 1287) (by decide +kernel) rfl
theorem wf_1288 : Cond.selects "Switchboard" ⟨"Switchboard", "minutes", "(I)I"⟩ ⟨"Switchboard", "minutes", "(I)I"⟩ ∈ WT := wt_of (i := 1288) (by decide +kernel) rfl
theorem fV_X7_minutes : cfV yX7_minutes cX7_minutes 2 (some .int) 1 := ⟨⟨⟨by decide +kernel, by decide +kernel, by decide +kernel⟩, wf_1, wf_1289⟩, wf_1287, wf_1288⟩
theorem wf_1286 : Cond.methodLink "SwitchboardLaw" 90 ⟨"Switchboard", "minutes", "(I)I"⟩ ∈ WT := wt_of (i := 1286) (by decide +kernel) rfl
theorem wf_1291 : Cond.static ⟨"SwitchboardLaw", "routeSize", "(LSwitchboard;I[J)I"⟩ ∈ WT := wt_of (i := 1291) (by decide +kernel) rfl
theorem fW_routeSize : cfW ⟨"SwitchboardLaw", "routeSize", "(LSwitchboard;I[J)I"⟩ method_26_code 4 (some .int) [(0, 9, 12, 19), (0, 9, 15, 58)] 3 := ⟨⟨by decide +kernel, by decide +kernel, by decide +kernel⟩, wf_0, wt_of (i := 1292) (by decide +kernel) rfl, wf_1291⟩
theorem wf_1296 : Cond.code ⟨"Switchboard", "routeSize", "(I)I"⟩ prog_1_method_39_code 2 (some .int) ∈ WT := wt_of (i := 1296) (by decide +kernel) rfl
theorem wf_1294 : Cond.instanceMethod ⟨"Switchboard", "routeSize", "(I)I"⟩ ∈ WT := wt_of (i := 1294) (by decide +kernel) rfl
theorem wf_1295 : Cond.selects "Switchboard" ⟨"Switchboard", "routeSize", "(I)I"⟩ ⟨"Switchboard", "routeSize", "(I)I"⟩ ∈ WT := wt_of (i := 1295) (by decide +kernel) rfl
theorem fV_X7_routeSize : cfV yX7_routeSize cX7_routeSize 2 (some .int) 1 := ⟨⟨⟨by decide +kernel, by decide +kernel, by decide +kernel⟩, wf_1, wf_1296⟩, wf_1294, wf_1295⟩
theorem wf_1293 : Cond.methodLink "SwitchboardLaw" 93 ⟨"Switchboard", "routeSize", "(I)I"⟩ ∈ WT := wt_of (i := 1293) (by decide +kernel) rfl
theorem wf_1298 : Cond.static ⟨"SwitchboardLaw", "routeTrunk", "(LSwitchboard;II[J)I"⟩ ∈ WT := wt_of (i := 1298) (by decide +kernel) rfl
theorem fW_routeTrunk : cfW ⟨"SwitchboardLaw", "routeTrunk", "(LSwitchboard;II[J)I"⟩ method_27_code 5 (some .int) [(0, 10, 13, 19), (0, 10, 17, 58)] 4 := ⟨⟨by decide +kernel, by decide +kernel, by decide +kernel⟩, wf_0, wt_of (i := 1299) (by decide +kernel) rfl, wf_1298⟩
theorem wf_1303 : Cond.code ⟨"Switchboard", "routeTrunk", "(II)I"⟩ prog_1_method_40_code 4 (some .int) ∈ WT := wt_of (i := 1303) (by decide +kernel) rfl
theorem wf_1301 : Cond.instanceMethod ⟨"Switchboard", "routeTrunk", "(II)I"⟩ ∈ WT := wt_of (i := 1301) (by decide +kernel) rfl
theorem wf_1302 : Cond.selects "Switchboard" ⟨"Switchboard", "routeTrunk", "(II)I"⟩ ⟨"Switchboard", "routeTrunk", "(II)I"⟩ ∈ WT := wt_of (i := 1302) (by decide +kernel) rfl
theorem fV_X7_routeTrunk : cfV yX7_routeTrunk cX7_routeTrunk 4 (some .int) 2 := ⟨⟨⟨by decide +kernel, by decide +kernel, by decide +kernel⟩, wf_1, wf_1303⟩, wf_1301, wf_1302⟩
theorem wf_1300 : Cond.methodLink "SwitchboardLaw" 96 ⟨"Switchboard", "routeTrunk", "(II)I"⟩ ∈ WT := wt_of (i := 1300) (by decide +kernel) rfl
theorem wf_1306 : Cond.static ⟨"SwitchboardLaw", "chargeNow", "(LSwitchboard;I[J)I"⟩ ∈ WT := wt_of (i := 1306) (by decide +kernel) rfl
theorem fW_chargeNow : cfW ⟨"SwitchboardLaw", "chargeNow", "(LSwitchboard;I[J)I"⟩ method_28_code 4 (some .int) [(0, 9, 12, 19), (0, 9, 15, 58)] 3 := ⟨⟨by decide +kernel, by decide +kernel, by decide +kernel⟩, wf_0, wt_of (i := 1307) (by decide +kernel) rfl, wf_1306⟩
theorem wf_1311 : Cond.code ⟨"Switchboard", "chargeNow", "(I)I"⟩ prog_1_method_41_code 2 (some .int) ∈ WT := wt_of (i := 1311) (by decide +kernel) rfl
theorem wf_1309 : Cond.instanceMethod ⟨"Switchboard", "chargeNow", "(I)I"⟩ ∈ WT := wt_of (i := 1309) (by decide +kernel) rfl
theorem wf_1310 : Cond.selects "Switchboard" ⟨"Switchboard", "chargeNow", "(I)I"⟩ ⟨"Switchboard", "chargeNow", "(I)I"⟩ ∈ WT := wt_of (i := 1310) (by decide +kernel) rfl
theorem fV_X7_chargeNow : cfV yX7_chargeNow cX7_chargeNow 2 (some .int) 1 := ⟨⟨⟨by decide +kernel, by decide +kernel, by decide +kernel⟩, wf_1, wf_1311⟩, wf_1309, wf_1310⟩
theorem wf_1308 : Cond.methodLink "SwitchboardLaw" 99 ⟨"Switchboard", "chargeNow", "(I)I"⟩ ∈ WT := wt_of (i := 1308) (by decide +kernel) rfl
theorem wf_1314 : Cond.static ⟨"SwitchboardLaw", "blockedCaller", "(LSwitchboard;I[J)I"⟩ ∈ WT := wt_of (i := 1314) (by decide +kernel) rfl
theorem fW_blockedCaller : cfW ⟨"SwitchboardLaw", "blockedCaller", "(LSwitchboard;I[J)I"⟩ method_29_code 4 (some .int) [(0, 9, 12, 58)] 3 := ⟨⟨by decide +kernel, by decide +kernel, by decide +kernel⟩, wf_0, wt_of (i := 1315) (by decide +kernel) rfl, wf_1314⟩
theorem wf_1319 : Cond.code ⟨"Switchboard", "blockedCaller", "(I)I"⟩ prog_1_method_46_code 2 (some .int) ∈ WT := wt_of (i := 1319) (by decide +kernel) rfl
theorem wf_1317 : Cond.instanceMethod ⟨"Switchboard", "blockedCaller", "(I)I"⟩ ∈ WT := wt_of (i := 1317) (by decide +kernel) rfl
theorem wf_1318 : Cond.selects "Switchboard" ⟨"Switchboard", "blockedCaller", "(I)I"⟩ ⟨"Switchboard", "blockedCaller", "(I)I"⟩ ∈ WT := wt_of (i := 1318) (by decide +kernel) rfl
theorem fV_X7_blockedCaller : cfV yX7_blockedCaller cX7_blockedCaller 2 (some .int) 1 := ⟨⟨⟨by decide +kernel, by decide +kernel, by decide +kernel⟩, wf_1, wf_1319⟩, wf_1317, wf_1318⟩
theorem wf_1316 : Cond.methodLink "SwitchboardLaw" 102 ⟨"Switchboard", "blockedCaller", "(I)I"⟩ ∈ WT := wt_of (i := 1316) (by decide +kernel) rfl
theorem wf_1326 : Cond.static ⟨"SwitchboardLaw", "blockedCallee", "(LSwitchboard;I[J)I"⟩ ∈ WT := wt_of (i := 1326) (by decide +kernel) rfl
theorem fW_blockedCallee : cfW ⟨"SwitchboardLaw", "blockedCallee", "(LSwitchboard;I[J)I"⟩ method_30_code 4 (some .int) [(0, 9, 12, 58)] 3 := ⟨⟨by decide +kernel, by decide +kernel, by decide +kernel⟩, wf_0, wt_of (i := 1327) (by decide +kernel) rfl, wf_1326⟩
theorem wf_1331 : Cond.code ⟨"Switchboard", "blockedCallee", "(I)I"⟩ prog_1_method_47_code 2 (some .int) ∈ WT := wt_of (i := 1331) (by decide +kernel) rfl
theorem wf_1329 : Cond.instanceMethod ⟨"Switchboard", "blockedCallee", "(I)I"⟩ ∈ WT := wt_of (i := 1329) (by decide +kernel) rfl
theorem wf_1330 : Cond.selects "Switchboard" ⟨"Switchboard", "blockedCallee", "(I)I"⟩ ⟨"Switchboard", "blockedCallee", "(I)I"⟩ ∈ WT := wt_of (i := 1330) (by decide +kernel) rfl
theorem fV_X7_blockedCallee : cfV yX7_blockedCallee cX7_blockedCallee 2 (some .int) 1 := ⟨⟨⟨by decide +kernel, by decide +kernel, by decide +kernel⟩, wf_1, wf_1331⟩, wf_1329, wf_1330⟩
theorem wf_1328 : Cond.methodLink "SwitchboardLaw" 105 ⟨"Switchboard", "blockedCallee", "(I)I"⟩ ∈ WT := wt_of (i := 1328) (by decide +kernel) rfl
theorem wf_1333 : Cond.static ⟨"SwitchboardLaw", "blockedReason", "(LSwitchboard;I[J)I"⟩ ∈ WT := wt_of (i := 1333) (by decide +kernel) rfl
theorem fW_blockedReason : cfW ⟨"SwitchboardLaw", "blockedReason", "(LSwitchboard;I[J)I"⟩ method_31_code 4 (some .int) [(0, 9, 12, 58)] 3 := ⟨⟨by decide +kernel, by decide +kernel, by decide +kernel⟩, wf_0, wt_of (i := 1334) (by decide +kernel) rfl, wf_1333⟩
theorem wf_1338 : Cond.code ⟨"Switchboard", "blockedReason", "(I)C"⟩ prog_1_method_48_code 2 (some .char) ∈ WT := wt_of (i := 1338) (by decide +kernel) rfl
theorem wf_1336 : Cond.instanceMethod ⟨"Switchboard", "blockedReason", "(I)C"⟩ ∈ WT := wt_of (i := 1336) (by decide +kernel) rfl
theorem wf_1337 : Cond.selects "Switchboard" ⟨"Switchboard", "blockedReason", "(I)C"⟩ ⟨"Switchboard", "blockedReason", "(I)C"⟩ ∈ WT := wt_of (i := 1337) (by decide +kernel) rfl
theorem fV_X7_blockedReason : cfV yX7_blockedReason cX7_blockedReason 2 (some .char) 1 := ⟨⟨⟨by decide +kernel, by decide +kernel, by decide +kernel⟩, wf_1, wf_1338⟩, wf_1336, wf_1337⟩
theorem wf_1335 : Cond.methodLink "SwitchboardLaw" 108 ⟨"Switchboard", "blockedReason", "(I)C"⟩ ∈ WT := wt_of (i := 1335) (by decide +kernel) rfl
theorem wf_1340 : Cond.static ⟨"SwitchboardLaw", "subscriberByBill", "(LSwitchboard;I[J)I"⟩ ∈ WT := wt_of (i := 1340) (by decide +kernel) rfl
theorem fW_subscriberByBill : cfW ⟨"SwitchboardLaw", "subscriberByBill", "(LSwitchboard;I[J)I"⟩ method_32_code 4 (some .int) [(0, 9, 12, 58)] 3 := ⟨⟨by decide +kernel, by decide +kernel, by decide +kernel⟩, wf_0, wt_of (i := 1341) (by decide +kernel) rfl, wf_1340⟩
theorem wf_1345 : Cond.code ⟨"Switchboard", "subscriberByBill", "(I)I"⟩ prog_1_method_52_code 3 (some .int) ∈ WT := wt_of (i := 1345) (by decide +kernel) rfl
theorem wf_1343 : Cond.instanceMethod ⟨"Switchboard", "subscriberByBill", "(I)I"⟩ ∈ WT := wt_of (i := 1343) (by decide +kernel) rfl
theorem wf_1344 : Cond.selects "Switchboard" ⟨"Switchboard", "subscriberByBill", "(I)I"⟩ ⟨"Switchboard", "subscriberByBill", "(I)I"⟩ ∈ WT := wt_of (i := 1344) (by decide +kernel) rfl
theorem fV_X7_subscriberByBill : cfV yX7_subscriberByBill cX7_subscriberByBill 3 (some .int) 1 := ⟨⟨⟨by decide +kernel, by decide +kernel, by decide +kernel⟩, wf_1, wf_1345⟩, wf_1343, wf_1344⟩
theorem wf_1342 : Cond.methodLink "SwitchboardLaw" 112 ⟨"Switchboard", "subscriberByBill", "(I)I"⟩ ∈ WT := wt_of (i := 1342) (by decide +kernel) rfl
theorem wf_1386 : Cond.static ⟨"SwitchboardLaw", "writeTrunk", "(LSwitchboard;I[J)I"⟩ ∈ WT := wt_of (i := 1386) (by decide +kernel) rfl
theorem fW_writeTrunk : cfW ⟨"SwitchboardLaw", "writeTrunk", "(LSwitchboard;I[J)I"⟩ method_35_code 4 (some .int) [(0, 9, 12, 19)] 3 := ⟨⟨by decide +kernel, by decide +kernel, by decide +kernel⟩, wf_0, wt_of (i := 1387) (by decide +kernel) rfl, wf_1386⟩
theorem wf_1391 : Cond.code ⟨"Switchboard", "writeTrunk", "(I)I"⟩ prog_1_method_56_code 4 (some .int) ∈ WT := wt_of (i := 1391) (by decide +kernel) rfl
theorem wf_1389 : Cond.instanceMethod ⟨"Switchboard", "writeTrunk", "(I)I"⟩ ∈ WT := wt_of (i := 1389) (by decide +kernel) rfl
theorem wf_1390 : Cond.selects "Switchboard" ⟨"Switchboard", "writeTrunk", "(I)I"⟩ ⟨"Switchboard", "writeTrunk", "(I)I"⟩ ∈ WT := wt_of (i := 1390) (by decide +kernel) rfl
theorem fV_X7_writeTrunk : cfV yX7_writeTrunk cX7_writeTrunk 4 (some .int) 1 := ⟨⟨⟨by decide +kernel, by decide +kernel, by decide +kernel⟩, wf_1, wf_1391⟩, wf_1389, wf_1390⟩
theorem wf_1388 : Cond.methodLink "SwitchboardLaw" 125 ⟨"Switchboard", "writeTrunk", "(I)I"⟩ ∈ WT := wt_of (i := 1388) (by decide +kernel) rfl
theorem wf_1394 : Cond.static ⟨"SwitchboardLaw", "charAt", "(LSwitchboard;I[J)I"⟩ ∈ WT := wt_of (i := 1394) (by decide +kernel) rfl
theorem fW_charAt : cfW ⟨"SwitchboardLaw", "charAt", "(LSwitchboard;I[J)I"⟩ method_36_code 4 (some .int) [(0, 9, 12, 19)] 3 := ⟨⟨by decide +kernel, by decide +kernel, by decide +kernel⟩, wf_0, wt_of (i := 1395) (by decide +kernel) rfl, wf_1394⟩
theorem wf_1399 : Cond.code ⟨"Switchboard", "charAt", "(I)C"⟩ prog_1_method_58_code 2 (some .char) ∈ WT := wt_of (i := 1399) (by decide +kernel) rfl
theorem wf_1397 : Cond.instanceMethod ⟨"Switchboard", "charAt", "(I)C"⟩ ∈ WT := wt_of (i := 1397) (by decide +kernel) rfl
theorem wf_1398 : Cond.selects "Switchboard" ⟨"Switchboard", "charAt", "(I)C"⟩ ⟨"Switchboard", "charAt", "(I)C"⟩ ∈ WT := wt_of (i := 1398) (by decide +kernel) rfl
theorem fV_X7_charAt : cfV yX7_charAt cX7_charAt 2 (some .char) 1 := ⟨⟨⟨by decide +kernel, by decide +kernel, by decide +kernel⟩, wf_1, wf_1399⟩, wf_1397, wf_1398⟩
theorem wf_1396 : Cond.methodLink "SwitchboardLaw" 128 ⟨"Switchboard", "charAt", "(I)C"⟩ ∈ WT := wt_of (i := 1396) (by decide +kernel) rfl
theorem wf_1412 : Cond.static ⟨"SwitchboardLaw", "type", "(LSwitchboard;C[J)I"⟩ ∈ WT := wt_of (i := 1412) (by decide +kernel) rfl
theorem fW_type : cfW ⟨"SwitchboardLaw", "type", "(LSwitchboard;C[J)I"⟩ method_37_code 4 (some .int) [(0, 9, 12, 13)] 3 := ⟨⟨by decide +kernel, by decide +kernel, by decide +kernel⟩, wf_0, wt_of (i := 1413) (by decide +kernel) rfl, wf_1412⟩
theorem wf_1417 : Cond.code ⟨"Switchboard", "type", "(C)I"⟩ prog_1_method_59_code 2 (some .int) ∈ WT := wt_of (i := 1417) (by decide +kernel) rfl
theorem wf_1415 : Cond.instanceMethod ⟨"Switchboard", "type", "(C)I"⟩ ∈ WT := wt_of (i := 1415) (by decide +kernel) rfl
theorem wf_1416 : Cond.selects "Switchboard" ⟨"Switchboard", "type", "(C)I"⟩ ⟨"Switchboard", "type", "(C)I"⟩ ∈ WT := wt_of (i := 1416) (by decide +kernel) rfl
theorem fV_X7_type : cfV yX7_type cX7_type 2 (some .int) 1 := ⟨⟨⟨by decide +kernel, by decide +kernel, by decide +kernel⟩, wf_1, wf_1417⟩, wf_1415, wf_1416⟩
theorem wf_1414 : Cond.methodLink "SwitchboardLaw" 131 ⟨"Switchboard", "type", "(C)I"⟩ ∈ WT := wt_of (i := 1414) (by decide +kernel) rfl
theorem wf_1424 : Cond.static ⟨"SwitchboardLaw", "run", "(LSwitchboard;[J)I"⟩ ∈ WT := wt_of (i := 1424) (by decide +kernel) rfl
theorem fW_run : cfW ⟨"SwitchboardLaw", "run", "(LSwitchboard;[J)I"⟩ method_38_code 3 (some .int) [(0, 8, 11, 21), (0, 8, 14, 38)] 2 := ⟨⟨by decide +kernel, by decide +kernel, by decide +kernel⟩, wf_0, wt_of (i := 1425) (by decide +kernel) rfl, wf_1424⟩
theorem wf_1429 : Cond.code ⟨"Switchboard", "run", "()I"⟩ prog_1_method_60_code 3 (some .int) ∈ WT := wt_of (i := 1429) (by decide +kernel) rfl
theorem wf_1427 : Cond.instanceMethod ⟨"Switchboard", "run", "()I"⟩ ∈ WT := wt_of (i := 1427) (by decide +kernel) rfl
theorem wf_1428 : Cond.selects "Switchboard" ⟨"Switchboard", "run", "()I"⟩ ⟨"Switchboard", "run", "()I"⟩ ∈ WT := wt_of (i := 1428) (by decide +kernel) rfl
theorem fV_X7_run : cfV yX7_run cX7_run 3 (some .int) 0 := ⟨⟨⟨by decide +kernel, by decide +kernel, by decide +kernel⟩, wf_1, wf_1429⟩, wf_1427, wf_1428⟩
theorem wf_1426 : Cond.methodLink "SwitchboardLaw" 135 ⟨"Switchboard", "run", "()I"⟩ ∈ WT := wt_of (i := 1426) (by decide +kernel) rfl
theorem wf_1508 : Cond.static ⟨"SwitchboardLaw", "errorPosition", "(LSwitchboard;[J)I"⟩ ∈ WT := wt_of (i := 1508) (by decide +kernel) rfl
theorem fW_errorPosition : cfW ⟨"SwitchboardLaw", "errorPosition", "(LSwitchboard;[J)I"⟩ method_39_code 3 (some .int) [(0, 8, 11, 58)] 2 := ⟨⟨by decide +kernel, by decide +kernel, by decide +kernel⟩, wf_0, wt_of (i := 1509) (by decide +kernel) rfl, wf_1508⟩
theorem wf_1513 : Cond.code ⟨"Switchboard", "errorPosition", "()I"⟩ prog_1_method_61_code 1 (some .int) ∈ WT := wt_of (i := 1513) (by decide +kernel) rfl
theorem wf_1511 : Cond.instanceMethod ⟨"Switchboard", "errorPosition", "()I"⟩ ∈ WT := wt_of (i := 1511) (by decide +kernel) rfl
theorem wf_1512 : Cond.selects "Switchboard" ⟨"Switchboard", "errorPosition", "()I"⟩ ⟨"Switchboard", "errorPosition", "()I"⟩ ∈ WT := wt_of (i := 1512) (by decide +kernel) rfl
theorem fV_X7_errorPosition : cfV yX7_errorPosition cX7_errorPosition 1 (some .int) 0 := ⟨⟨⟨by decide +kernel, by decide +kernel, by decide +kernel⟩, wf_1, wf_1513⟩, wf_1511, wf_1512⟩
theorem wf_1510 : Cond.methodLink "SwitchboardLaw" 138 ⟨"Switchboard", "errorPosition", "()I"⟩ ∈ WT := wt_of (i := 1510) (by decide +kernel) rfl
theorem wf_1516 : Cond.static ⟨"SwitchboardLaw", "failedCommand", "(LSwitchboard;[J)I"⟩ ∈ WT := wt_of (i := 1516) (by decide +kernel) rfl
theorem fW_failedCommand : cfW ⟨"SwitchboardLaw", "failedCommand", "(LSwitchboard;[J)I"⟩ method_40_code 3 (some .int) [(0, 8, 11, 58)] 2 := ⟨⟨by decide +kernel, by decide +kernel, by decide +kernel⟩, wf_0, wt_of (i := 1517) (by decide +kernel) rfl, wf_1516⟩
theorem wf_1521 : Cond.code ⟨"Switchboard", "failedCommand", "()I"⟩ prog_1_method_62_code 1 (some .int) ∈ WT := wt_of (i := 1521) (by decide +kernel) rfl
theorem wf_1519 : Cond.instanceMethod ⟨"Switchboard", "failedCommand", "()I"⟩ ∈ WT := wt_of (i := 1519) (by decide +kernel) rfl
theorem wf_1520 : Cond.selects "Switchboard" ⟨"Switchboard", "failedCommand", "()I"⟩ ⟨"Switchboard", "failedCommand", "()I"⟩ ∈ WT := wt_of (i := 1520) (by decide +kernel) rfl
theorem fV_X7_failedCommand : cfV yX7_failedCommand cX7_failedCommand 1 (some .int) 0 := ⟨⟨⟨by decide +kernel, by decide +kernel, by decide +kernel⟩, wf_1, wf_1521⟩, wf_1519, wf_1520⟩
theorem wf_1518 : Cond.methodLink "SwitchboardLaw" 141 ⟨"Switchboard", "failedCommand", "()I"⟩ ∈ WT := wt_of (i := 1518) (by decide +kernel) rfl
theorem wf_1524 : Cond.static ⟨"SwitchboardLaw", "undo", "(LSwitchboard;[J)I"⟩ ∈ WT := wt_of (i := 1524) (by decide +kernel) rfl
theorem fW_undo : cfW ⟨"SwitchboardLaw", "undo", "(LSwitchboard;[J)I"⟩ method_41_code 3 (some .int) [(0, 8, 11, 13)] 2 := ⟨⟨by decide +kernel, by decide +kernel, by decide +kernel⟩, wf_0, wt_of (i := 1525) (by decide +kernel) rfl, wf_1524⟩
theorem wf_1529 : Cond.code ⟨"Switchboard", "undo", "()I"⟩ prog_1_method_64_code 1 (some .int) ∈ WT := wt_of (i := 1529) (by decide +kernel) rfl
theorem wf_1527 : Cond.instanceMethod ⟨"Switchboard", "undo", "()I"⟩ ∈ WT := wt_of (i := 1527) (by decide +kernel) rfl
theorem wf_1528 : Cond.selects "Switchboard" ⟨"Switchboard", "undo", "()I"⟩ ⟨"Switchboard", "undo", "()I"⟩ ∈ WT := wt_of (i := 1528) (by decide +kernel) rfl
theorem fV_X7_undo : cfV yX7_undo cX7_undo 1 (some .int) 0 := ⟨⟨⟨by decide +kernel, by decide +kernel, by decide +kernel⟩, wf_1, wf_1529⟩, wf_1527, wf_1528⟩
theorem wf_1526 : Cond.methodLink "SwitchboardLaw" 144 ⟨"Switchboard", "undo", "()I"⟩ ∈ WT := wt_of (i := 1526) (by decide +kernel) rfl
theorem wf_1536 : Cond.static ⟨"SwitchboardLaw", "restore", "(LSwitchboard;[J)I"⟩ ∈ WT := wt_of (i := 1536) (by decide +kernel) rfl
theorem fW_restore : cfW ⟨"SwitchboardLaw", "restore", "(LSwitchboard;[J)I"⟩ method_42_code 3 (some .int) [(0, 8, 11, 13)] 2 := ⟨⟨by decide +kernel, by decide +kernel, by decide +kernel⟩, wf_0, wt_of (i := 1537) (by decide +kernel) rfl, wf_1536⟩
theorem wf_1541 : Cond.code ⟨"Switchboard", "restore", "()I"⟩ prog_1_method_66_code 1 (some .int) ∈ WT := wt_of (i := 1541) (by decide +kernel) rfl
theorem wf_1539 : Cond.instanceMethod ⟨"Switchboard", "restore", "()I"⟩ ∈ WT := wt_of (i := 1539) (by decide +kernel) rfl
theorem wf_1540 : Cond.selects "Switchboard" ⟨"Switchboard", "restore", "()I"⟩ ⟨"Switchboard", "restore", "()I"⟩ ∈ WT := wt_of (i := 1540) (by decide +kernel) rfl
theorem fV_X7_restore : cfV yX7_restore cX7_restore 1 (some .int) 0 := ⟨⟨⟨by decide +kernel, by decide +kernel, by decide +kernel⟩, wf_1, wf_1541⟩, wf_1539, wf_1540⟩
theorem wf_1538 : Cond.methodLink "SwitchboardLaw" 147 ⟨"Switchboard", "restore", "()I"⟩ ∈ WT := wt_of (i := 1538) (by decide +kernel) rfl
/-! the law's wrappers -/
def outW (dA : Nat → ClassId) (ao : Nat) (g : Nat → Int64) : va_W := [(ao, .inl (dA 4, 1, .inr (.inl g)))]
def outD (dA : Nat → ClassId) (ao : Nat) (g : Nat → UInt64) : va_W := [(ao, .inl (dA 5, 1, .inr (.inr (.inr (.inl g)))))]
def cdL (L : List Nat) (k : Nat) : Nat := L.idxOf k + 1
def wrP (dA : Nat → ClassId) (ao : Nat) (w1 : va_W) (L : List Nat) (cv : Int32 → Int64) (g : Nat → Int64) (o : Nat ⊕ Int32) (r : Int32) (w : va_W) : Prop := (∃ k, o = .inl k ∧ r = nI (cdL L k) ∧ w = w1 ++ outW dA ao g) ∨ (∃ (v : Int32) (g1 : Nat → Int64), o = .inr v ∧ r = 0 ∧ w = w1 ++ outW dA ao g1 ∧ g1 0 = cv v)
def wrQ (dA : Nat → ClassId) (ao : Nat) (P0 : Int32 → va_W → Prop) (r : Int32) (w : va_W) : Prop := ∃ (v : Int32) (w1 : va_W) (g1 : Nat → Int64), P0 v w1 ∧ r = 0 ∧ w = w1 ++ outW dA ao g1 ∧ g1 0 = v.toInt64
def cvI (v : Int32) : Int64 := v.toInt64
def cvB (v : Int32) : Int64 := if v = 0 then 0 else 1
abbrev rmW (rm : Room) (n : Nat) : Room := { frames := rm.frames + 1, cells := rm.cells, slots := rm.slots, locals := 8 + (n + 11) + rm.locals }
section SWR
variable {p : Program} {l : Launch} {e : Env} {R : Room} {s : State} {m : MethodId} {args : Array Value} {below : List Frame} {meth : Method} {c : Code} {Q : State → Prop} {D : va_G} {dA : Nat → ClassId} {sa : String → Nat → Nat} {A : Nat → Prop} {cc : ByteArray} {nL cells slots pc : Nat} {own : String} {w w2 : va_W} {lv lv' : List (Nat × Value)} {st st0 rest : List Value} {cw : Cond}
theorem xv_out (C : xv_C p l s m args meth c D dA sa A cc nL own (cw :: WT)) {ao : Nat} {g : Nat → Int64} {x : Int64} (d : decode cc pc = .ok (.lastore, 1)) (k : xv p l e R s m args below meth c D A nL Q (w ++ outW dA ao (vp_updL g 0 x)) cells slots (pc + 1) lv st) : xv p l e R s m args below meth c D A nL Q (w ++ outW dA ao g) cells slots pc lv (.long x :: .int 0 :: .ref ao :: st) := by
  intro H locs ls hP hD hS hl
  refine va_last C.1.1 C.1.2.1 C.2.1 hP hD hS w.length 4 (f := g) (n := 1) (cA := dA 4) (by unfold outW; simp) rfl (vin_of (by decide)) d (fun H1 locs1 hP1 hD1 hS1 => ?_)
  have e9 : (w ++ outW dA ao g).set w.length (ao, .inl (dA 4, 1, .inr (.inl (vp_updL g (0 : Int32).toNatClampNeg x)))) = w ++ outW dA ao (vp_updL g 0 x) := by unfold outW; simp
  rw [e9] at hP1 hD1
  exact k H1 locs1 ls hP1 hD1 hS1 hl
end SWR
set_option maxRecDepth 100000 in
theorem kW_addSwitch {l : Launch} {D : va_G} {dA : Nat → ClassId} {sa : String → Nat → Nat} {a : Nat → Nat} (hl : l.stackTraces = false) {rm : Room} {ao : Nat} {g : Nat → Int64}  {o : Nat ⊕ Int32} {w0 w1 : va_W} (M : CXi l D dA sa yX7_addSwitch (wz yX7_addSwitch cX7_addSwitch 1 (some .int)) rm (.ref (a 0) :: []) w0 o w1) (hk : ∀ k, o = .inl k → k ∈ ([3] : List Nat)) (hrc : rcv w0 (a 0) RX7) : CPi l D dA sa ⟨"SwitchboardLaw", "addSwitch", "(LSwitchboard;[J)I"⟩ (wzW ⟨"SwitchboardLaw", "addSwitch", "(LSwitchboard;[J)I"⟩ method_3_code 3 (some .int) [(0, 8, 11, 13)]) (rmW rm 1) [.ref (a 0), .ref ao] (w0 ++ outW dA ao g) (wrP dA ao w1 [3] cvI g o) := by
  refine xm_wi hl (by decide +kernel) (Nat.le_of_ble_eq_true rfl) rfl ?_
  intro p e s m args below meth c A Q hC htb hR
  show xv p l e (rmW rm 1) s m args below meth c D A 3 Q (w0 ++ outW dA ao g) 0 0 0 [(0, .ref (a 0)), (1, .ref ao)] []
  refine xv_aload_n (pc := 0) hC dL_addSwitch_0 1 rfl rfl ?_
  refine xv_iconst (v := 0) (pc := 1) hC dL_addSwitch_1 (by decide) ?_
  refine xv_aload_n (pc := 2) hC dL_addSwitch_2 0 rfl rfl ?_
  refine xv_callVxi (As := []) (pc := 3) (pre := []) (w0 := w0) (post := outW dA ao g) (w1 := w1) (w2 := w1 ++ outW dA ao g) hC M fV_X7_addSwitch wf_881 hrc rfl ⟨Nat.le_refl _, Nat.le_refl _⟩ rfl (Nat.le_of_ble_eq_true rfl) dL_addSwitch_3 ⟨by show 0 + rm.cells ≤ rm.cells; omega, by show 0 + rm.slots ≤ rm.slots; omega⟩ rfl rfl (fun k9 hk9 => ?_) (fun v hv => ?_)
  · have h9 := hk k9 hk9
    simp only [List.mem_cons, List.not_mem_nil, or_false] at h9
    rcases h9 with rfl
    · refine xvx_catch (E := "java/lang/IllegalStateException") (hp := 11) hC [] (⟨0, 8, 11, 13⟩ : ExceptionTableEntry) [] (htb.trans rfl) (fun _ h => absurd h List.not_mem_nil) (by decide) rfl (by decide) wf_880 rfl (fun q9 => ?_)
      refine xv_astore_n (pc := 11) (lv' := [(2, .ref q9), (0, .ref (a 0)), (1, .ref ao)]) hC dL_addSwitch_11 rfl (by decide) rfl ?_
      refine xv_iconst (v := nI 1) (pc := 12) hC dL_addSwitch_12 (by decide) ?_
      exact hR _ _ _ _ _ _ (Or.inl ⟨3, hk9, by decide, rfl⟩) (by show 0 + rm.cells ≤ rm.cells; omega) (by show 0 + rm.slots ≤ rm.slots; omega) dL_addSwitch_13
  · skip
    refine xv_i2l (pc := 6) hC dL_addSwitch_6 ?_
    refine xv_out (pc := 7) hC dL_addSwitch_7 ?_
    refine xv_goto (tgt := 14) (pc := 8) hC dL_addSwitch_8 (by decide) ?_
    refine xv_iconst (v := 0) (pc := 14) hC dL_addSwitch_14 (by decide) ?_
    exact hR _ _ _ _ _ _ (Or.inr ⟨v, _, hv, rfl, rfl, rfl⟩) (by show 0 + rm.cells ≤ rm.cells; omega) (by show 0 + rm.slots ≤ rm.slots; omega) dL_addSwitch_15
set_option maxRecDepth 100000 in
theorem kW_addTrunk {l : Launch} {D : va_G} {dA : Nat → ClassId} {sa : String → Nat → Nat} {a : Nat → Nat} (hl : l.stackTraces = false) {rm : Room} {ao : Nat} {g : Nat → Int64} {x0 : Int32} {x1 : Int32} {x2 : Int32} {o : Nat ⊕ Int32} {w0 w1 : va_W} (M : CXi l D dA sa yX7_addTrunk (wz yX7_addTrunk cX7_addTrunk 4 (some .int)) rm (.ref (a 0) :: [.int x0, .int x1, .int x2]) w0 o w1) (hk : ∀ k, o = .inl k → k ∈ ([1, 2, 3] : List Nat)) (hrc : rcv w0 (a 0) RX7) : CPi l D dA sa ⟨"SwitchboardLaw", "addTrunk", "(LSwitchboard;III[J)I"⟩ (wzW ⟨"SwitchboardLaw", "addTrunk", "(LSwitchboard;III[J)I"⟩ method_4_code 6 (some .int) [(0, 12, 15, 19), (0, 12, 19, 21), (0, 12, 23, 13)]) (rmW rm 4) [.ref (a 0), .int x0, .int x1, .int x2, .ref ao] (w0 ++ outW dA ao g) (wrP dA ao w1 [1, 2, 3] cvI g o) := by
  refine xm_wi hl (by decide +kernel) (Nat.le_of_ble_eq_true rfl) rfl ?_
  intro p e s m args below meth c A Q hC htb hR
  show xv p l e (rmW rm 4) s m args below meth c D A 6 Q (w0 ++ outW dA ao g) 0 0 0 [(0, .ref (a 0)), (1, .int x0), (2, .int x1), (3, .int x2), (4, .ref ao)] []
  refine xv_aload (pc := 0) hC dL_addTrunk_0 4 rfl ?_
  refine xv_iconst (v := 0) (pc := 2) hC dL_addTrunk_2 (by decide) ?_
  refine xv_aload_n (pc := 3) hC dL_addTrunk_3 0 rfl rfl ?_
  refine xv_iload_n (pc := 4) hC dL_addTrunk_4 1 rfl rfl ?_
  refine xv_iload_n (pc := 5) hC dL_addTrunk_5 2 rfl rfl ?_
  refine xv_iload_n (pc := 6) hC dL_addTrunk_6 3 rfl rfl ?_
  refine xv_callVxi (As := [.int x0, .int x1, .int x2]) (pc := 7) (pre := []) (w0 := w0) (post := outW dA ao g) (w1 := w1) (w2 := w1 ++ outW dA ao g) hC M fV_X7_addTrunk wf_1085 hrc rfl ⟨Nat.le_refl _, Nat.le_refl _⟩ rfl (Nat.le_of_ble_eq_true rfl) dL_addTrunk_7 ⟨by show 0 + rm.cells ≤ rm.cells; omega, by show 0 + rm.slots ≤ rm.slots; omega⟩ rfl rfl (fun k9 hk9 => ?_) (fun v hv => ?_)
  · have h9 := hk k9 hk9
    simp only [List.mem_cons, List.not_mem_nil, or_false] at h9
    rcases h9 with rfl | rfl | rfl
    · refine xvx_catch (E := "java/lang/IndexOutOfBoundsException") (hp := 15) hC [] (⟨0, 12, 15, 19⟩ : ExceptionTableEntry) [(⟨0, 12, 19, 21⟩ : ExceptionTableEntry), (⟨0, 12, 23, 13⟩ : ExceptionTableEntry)] (htb.trans rfl) (fun _ h => absurd h List.not_mem_nil) (by decide) rfl (by decide) wf_1081 rfl (fun q9 => ?_)
      refine xv_astore (pc := 15) (lv' := [(5, .ref q9), (0, .ref (a 0)), (1, .int x0), (2, .int x1), (3, .int x2), (4, .ref ao)]) hC dL_addTrunk_15 (by decide) rfl ?_
      refine xv_iconst (v := nI 1) (pc := 17) hC dL_addTrunk_17 (by decide) ?_
      exact hR _ _ _ _ _ _ (Or.inl ⟨1, hk9, by decide, rfl⟩) (by show 0 + rm.cells ≤ rm.cells; omega) (by show 0 + rm.slots ≤ rm.slots; omega) dL_addTrunk_18
    · refine xvx_catch (E := "java/lang/IllegalArgumentException") (hp := 19) hC [(⟨0, 12, 15, 19⟩ : ExceptionTableEntry)] (⟨0, 12, 19, 21⟩ : ExceptionTableEntry) [(⟨0, 12, 23, 13⟩ : ExceptionTableEntry)] (htb.trans rfl) (List.forall_mem_cons.mpr ⟨Or.inr ⟨by decide, "java/lang/IndexOutOfBoundsException", wf_1081, by decide, by decide⟩, (fun _ h => absurd h List.not_mem_nil)⟩) (by decide) rfl (by decide) wf_1084 rfl (fun q9 => ?_)
      refine xv_astore (pc := 19) (lv' := [(5, .ref q9), (0, .ref (a 0)), (1, .int x0), (2, .int x1), (3, .int x2), (4, .ref ao)]) hC dL_addTrunk_19 (by decide) rfl ?_
      refine xv_iconst (v := nI 2) (pc := 21) hC dL_addTrunk_21 (by decide) ?_
      exact hR _ _ _ _ _ _ (Or.inl ⟨2, hk9, by decide, rfl⟩) (by show 0 + rm.cells ≤ rm.cells; omega) (by show 0 + rm.slots ≤ rm.slots; omega) dL_addTrunk_22
    · refine xvx_catch (E := "java/lang/IllegalStateException") (hp := 23) hC [(⟨0, 12, 15, 19⟩ : ExceptionTableEntry), (⟨0, 12, 19, 21⟩ : ExceptionTableEntry)] (⟨0, 12, 23, 13⟩ : ExceptionTableEntry) [] (htb.trans rfl) (List.forall_mem_cons.mpr ⟨Or.inr ⟨by decide, "java/lang/IndexOutOfBoundsException", wf_1081, by decide, by decide⟩, (List.forall_mem_cons.mpr ⟨Or.inr ⟨by decide, "java/lang/IllegalArgumentException", wf_1084, by decide, by decide⟩, (fun _ h => absurd h List.not_mem_nil)⟩)⟩) (by decide) rfl (by decide) wf_880 rfl (fun q9 => ?_)
      refine xv_astore (pc := 23) (lv' := [(5, .ref q9), (0, .ref (a 0)), (1, .int x0), (2, .int x1), (3, .int x2), (4, .ref ao)]) hC dL_addTrunk_23 (by decide) rfl ?_
      refine xv_iconst (v := nI 3) (pc := 25) hC dL_addTrunk_25 (by decide) ?_
      exact hR _ _ _ _ _ _ (Or.inl ⟨3, hk9, by decide, rfl⟩) (by show 0 + rm.cells ≤ rm.cells; omega) (by show 0 + rm.slots ≤ rm.slots; omega) dL_addTrunk_26
  · skip
    refine xv_i2l (pc := 10) hC dL_addTrunk_10 ?_
    refine xv_out (pc := 11) hC dL_addTrunk_11 ?_
    refine xv_goto (tgt := 27) (pc := 12) hC dL_addTrunk_12 (by decide) ?_
    refine xv_iconst (v := 0) (pc := 27) hC dL_addTrunk_27 (by decide) ?_
    exact hR _ _ _ _ _ _ (Or.inr ⟨v, _, hv, rfl, rfl, rfl⟩) (by show 0 + rm.cells ≤ rm.cells; omega) (by show 0 + rm.slots ≤ rm.slots; omega) dL_addTrunk_28
set_option maxRecDepth 100000 in
theorem kW_addSubscriber {l : Launch} {D : va_G} {dA : Nat → ClassId} {sa : String → Nat → Nat} {a : Nat → Nat} (hl : l.stackTraces = false) {rm : Room} {ao : Nat} {g : Nat → Int64} {x0 : Int32} {x1 : Int32} {o : Nat ⊕ Int32} {w0 w1 : va_W} (M : CXi l D dA sa yX7_addSubscriber (wz yX7_addSubscriber cX7_addSubscriber 3 (some .int)) rm (.ref (a 0) :: [.int x0, .int x1]) w0 o w1) (hk : ∀ k, o = .inl k → k ∈ ([1, 2, 3] : List Nat)) (hrc : rcv w0 (a 0) RX7) : CPi l D dA sa ⟨"SwitchboardLaw", "addSubscriber", "(LSwitchboard;II[J)I"⟩ (wzW ⟨"SwitchboardLaw", "addSubscriber", "(LSwitchboard;II[J)I"⟩ method_5_code 5 (some .int) [(0, 10, 13, 19), (0, 10, 17, 21), (0, 10, 21, 13)]) (rmW rm 3) [.ref (a 0), .int x0, .int x1, .ref ao] (w0 ++ outW dA ao g) (wrP dA ao w1 [1, 2, 3] cvI g o) := by
  refine xm_wi hl (by decide +kernel) (Nat.le_of_ble_eq_true rfl) rfl ?_
  intro p e s m args below meth c A Q hC htb hR
  show xv p l e (rmW rm 3) s m args below meth c D A 5 Q (w0 ++ outW dA ao g) 0 0 0 [(0, .ref (a 0)), (1, .int x0), (2, .int x1), (3, .ref ao)] []
  refine xv_aload_n (pc := 0) hC dL_addSubscriber_0 3 rfl rfl ?_
  refine xv_iconst (v := 0) (pc := 1) hC dL_addSubscriber_1 (by decide) ?_
  refine xv_aload_n (pc := 2) hC dL_addSubscriber_2 0 rfl rfl ?_
  refine xv_iload_n (pc := 3) hC dL_addSubscriber_3 1 rfl rfl ?_
  refine xv_iload_n (pc := 4) hC dL_addSubscriber_4 2 rfl rfl ?_
  refine xv_callVxi (As := [.int x0, .int x1]) (pc := 5) (pre := []) (w0 := w0) (post := outW dA ao g) (w1 := w1) (w2 := w1 ++ outW dA ao g) hC M fV_X7_addSubscriber wf_1092 hrc rfl ⟨Nat.le_refl _, Nat.le_refl _⟩ rfl (Nat.le_of_ble_eq_true rfl) dL_addSubscriber_5 ⟨by show 0 + rm.cells ≤ rm.cells; omega, by show 0 + rm.slots ≤ rm.slots; omega⟩ rfl rfl (fun k9 hk9 => ?_) (fun v hv => ?_)
  · have h9 := hk k9 hk9
    simp only [List.mem_cons, List.not_mem_nil, or_false] at h9
    rcases h9 with rfl | rfl | rfl
    · refine xvx_catch (E := "java/lang/IndexOutOfBoundsException") (hp := 13) hC [] (⟨0, 10, 13, 19⟩ : ExceptionTableEntry) [(⟨0, 10, 17, 21⟩ : ExceptionTableEntry), (⟨0, 10, 21, 13⟩ : ExceptionTableEntry)] (htb.trans rfl) (fun _ h => absurd h List.not_mem_nil) (by decide) rfl (by decide) wf_1081 rfl (fun q9 => ?_)
      refine xv_astore (pc := 13) (lv' := [(4, .ref q9), (0, .ref (a 0)), (1, .int x0), (2, .int x1), (3, .ref ao)]) hC dL_addSubscriber_13 (by decide) rfl ?_
      refine xv_iconst (v := nI 1) (pc := 15) hC dL_addSubscriber_15 (by decide) ?_
      exact hR _ _ _ _ _ _ (Or.inl ⟨1, hk9, by decide, rfl⟩) (by show 0 + rm.cells ≤ rm.cells; omega) (by show 0 + rm.slots ≤ rm.slots; omega) dL_addSubscriber_16
    · refine xvx_catch (E := "java/lang/IllegalArgumentException") (hp := 17) hC [(⟨0, 10, 13, 19⟩ : ExceptionTableEntry)] (⟨0, 10, 17, 21⟩ : ExceptionTableEntry) [(⟨0, 10, 21, 13⟩ : ExceptionTableEntry)] (htb.trans rfl) (List.forall_mem_cons.mpr ⟨Or.inr ⟨by decide, "java/lang/IndexOutOfBoundsException", wf_1081, by decide, by decide⟩, (fun _ h => absurd h List.not_mem_nil)⟩) (by decide) rfl (by decide) wf_1084 rfl (fun q9 => ?_)
      refine xv_astore (pc := 17) (lv' := [(4, .ref q9), (0, .ref (a 0)), (1, .int x0), (2, .int x1), (3, .ref ao)]) hC dL_addSubscriber_17 (by decide) rfl ?_
      refine xv_iconst (v := nI 2) (pc := 19) hC dL_addSubscriber_19 (by decide) ?_
      exact hR _ _ _ _ _ _ (Or.inl ⟨2, hk9, by decide, rfl⟩) (by show 0 + rm.cells ≤ rm.cells; omega) (by show 0 + rm.slots ≤ rm.slots; omega) dL_addSubscriber_20
    · refine xvx_catch (E := "java/lang/IllegalStateException") (hp := 21) hC [(⟨0, 10, 13, 19⟩ : ExceptionTableEntry), (⟨0, 10, 17, 21⟩ : ExceptionTableEntry)] (⟨0, 10, 21, 13⟩ : ExceptionTableEntry) [] (htb.trans rfl) (List.forall_mem_cons.mpr ⟨Or.inr ⟨by decide, "java/lang/IndexOutOfBoundsException", wf_1081, by decide, by decide⟩, (List.forall_mem_cons.mpr ⟨Or.inr ⟨by decide, "java/lang/IllegalArgumentException", wf_1084, by decide, by decide⟩, (fun _ h => absurd h List.not_mem_nil)⟩)⟩) (by decide) rfl (by decide) wf_880 rfl (fun q9 => ?_)
      refine xv_astore (pc := 21) (lv' := [(4, .ref q9), (0, .ref (a 0)), (1, .int x0), (2, .int x1), (3, .ref ao)]) hC dL_addSubscriber_21 (by decide) rfl ?_
      refine xv_iconst (v := nI 3) (pc := 23) hC dL_addSubscriber_23 (by decide) ?_
      exact hR _ _ _ _ _ _ (Or.inl ⟨3, hk9, by decide, rfl⟩) (by show 0 + rm.cells ≤ rm.cells; omega) (by show 0 + rm.slots ≤ rm.slots; omega) dL_addSubscriber_24
  · skip
    refine xv_i2l (pc := 8) hC dL_addSubscriber_8 ?_
    refine xv_out (pc := 9) hC dL_addSubscriber_9 ?_
    refine xv_goto (tgt := 25) (pc := 10) hC dL_addSubscriber_10 (by decide) ?_
    refine xv_iconst (v := 0) (pc := 25) hC dL_addSubscriber_25 (by decide) ?_
    exact hR _ _ _ _ _ _ (Or.inr ⟨v, _, hv, rfl, rfl, rfl⟩) (by show 0 + rm.cells ≤ rm.cells; omega) (by show 0 + rm.slots ≤ rm.slots; omega) dL_addSubscriber_26
set_option maxRecDepth 100000 in
theorem kW_cut {l : Launch} {D : va_G} {dA : Nat → ClassId} {sa : String → Nat → Nat} {a : Nat → Nat} (hl : l.stackTraces = false) {rm : Room} {ao : Nat} {g : Nat → Int64} {x0 : Int32} {o : Nat ⊕ Int32} {w0 w1 : va_W} (M : CXi l D dA sa yX7_cut (wz yX7_cut cX7_cut 2 (some .boolean)) rm (.ref (a 0) :: [.int x0]) w0 o w1) (hk : ∀ k, o = .inl k → k ∈ ([1, 3] : List Nat)) (hrc : rcv w0 (a 0) RX7) : CPi l D dA sa ⟨"SwitchboardLaw", "cut", "(LSwitchboard;I[J)I"⟩ (wzW ⟨"SwitchboardLaw", "cut", "(LSwitchboard;I[J)I"⟩ method_6_code 4 (some .int) [(0, 16, 19, 19), (0, 16, 22, 13)]) (rmW rm 2) [.ref (a 0), .int x0, .ref ao] (w0 ++ outW dA ao g) (wrP dA ao w1 [1, 3] cvB g o) := by
  refine xm_wi hl (by decide +kernel) (Nat.le_of_ble_eq_true rfl) rfl ?_
  intro p e s m args below meth c A Q hC htb hR
  show xv p l e (rmW rm 2) s m args below meth c D A 4 Q (w0 ++ outW dA ao g) 0 0 0 [(0, .ref (a 0)), (1, .int x0), (2, .ref ao)] []
  refine xv_aload_n (pc := 0) hC dL_cut_0 2 rfl rfl ?_
  refine xv_iconst (v := 0) (pc := 1) hC dL_cut_1 (by decide) ?_
  refine xv_aload_n (pc := 2) hC dL_cut_2 0 rfl rfl ?_
  refine xv_iload_n (pc := 3) hC dL_cut_3 1 rfl rfl ?_
  refine xv_callVxi (As := [.int x0]) (pc := 4) (pre := []) (w0 := w0) (post := outW dA ao g) (w1 := w1) (w2 := w1 ++ outW dA ao g) hC M fV_X7_cut wf_1099 hrc rfl ⟨Nat.le_refl _, Nat.le_refl _⟩ rfl (Nat.le_of_ble_eq_true rfl) dL_cut_4 ⟨by show 0 + rm.cells ≤ rm.cells; omega, by show 0 + rm.slots ≤ rm.slots; omega⟩ rfl rfl (fun k9 hk9 => ?_) (fun v hv => ?_)
  · have h9 := hk k9 hk9
    simp only [List.mem_cons, List.not_mem_nil, or_false] at h9
    rcases h9 with rfl | rfl
    · refine xvx_catch (E := "java/lang/IndexOutOfBoundsException") (hp := 19) hC [] (⟨0, 16, 19, 19⟩ : ExceptionTableEntry) [(⟨0, 16, 22, 13⟩ : ExceptionTableEntry)] (htb.trans rfl) (fun _ h => absurd h List.not_mem_nil) (by decide) rfl (by decide) wf_1081 rfl (fun q9 => ?_)
      refine xv_astore_n (pc := 19) (lv' := [(3, .ref q9), (0, .ref (a 0)), (1, .int x0), (2, .ref ao)]) hC dL_cut_19 rfl (by decide) rfl ?_
      refine xv_iconst (v := nI 1) (pc := 20) hC dL_cut_20 (by decide) ?_
      exact hR _ _ _ _ _ _ (Or.inl ⟨1, hk9, by decide, rfl⟩) (by show 0 + rm.cells ≤ rm.cells; omega) (by show 0 + rm.slots ≤ rm.slots; omega) dL_cut_21
    · refine xvx_catch (E := "java/lang/IllegalStateException") (hp := 22) hC [(⟨0, 16, 19, 19⟩ : ExceptionTableEntry)] (⟨0, 16, 22, 13⟩ : ExceptionTableEntry) [] (htb.trans rfl) (List.forall_mem_cons.mpr ⟨Or.inr ⟨by decide, "java/lang/IndexOutOfBoundsException", wf_1081, by decide, by decide⟩, (fun _ h => absurd h List.not_mem_nil)⟩) (by decide) rfl (by decide) wf_880 rfl (fun q9 => ?_)
      refine xv_astore_n (pc := 22) (lv' := [(3, .ref q9), (0, .ref (a 0)), (1, .int x0), (2, .ref ao)]) hC dL_cut_22 rfl (by decide) rfl ?_
      refine xv_iconst (v := nI 2) (pc := 23) hC dL_cut_23 (by decide) ?_
      exact hR _ _ _ _ _ _ (Or.inl ⟨3, hk9, by decide, rfl⟩) (by show 0 + rm.cells ≤ rm.cells; omega) (by show 0 + rm.slots ≤ rm.slots; omega) dL_cut_24
  · skip
    refine xv_if_eq (tgt := 14) (pc := 7) hC dL_cut_7 (by decide) (fun c9 => ?_) (fun c9 => ?_)
    · refine xv_lconst (v := 0) (pc := 14) hC dL_cut_14 (by decide) ?_
      refine xv_out (pc := 15) hC dL_cut_15 ?_
      refine xv_goto (tgt := 25) (pc := 16) hC dL_cut_16 (by decide) ?_
      refine xv_iconst (v := 0) (pc := 25) hC dL_cut_25 (by decide) ?_
      exact hR _ _ _ _ _ _ (Or.inr ⟨v, _, hv, rfl, rfl, by unfold cvB; rw [if_pos c9]; rfl⟩) (by show 0 + rm.cells ≤ rm.cells; omega) (by show 0 + rm.slots ≤ rm.slots; omega) dL_cut_26
    · refine xv_lconst (v := 1) (pc := 10) hC dL_cut_10 (by decide) ?_
      refine xv_goto (tgt := 15) (pc := 11) hC dL_cut_11 (by decide) ?_
      refine xv_out (pc := 15) hC dL_cut_15 ?_
      refine xv_goto (tgt := 25) (pc := 16) hC dL_cut_16 (by decide) ?_
      refine xv_iconst (v := 0) (pc := 25) hC dL_cut_25 (by decide) ?_
      exact hR _ _ _ _ _ _ (Or.inr ⟨v, _, hv, rfl, rfl, by unfold cvB; rw [if_neg c9]; rfl⟩) (by show 0 + rm.cells ≤ rm.cells; omega) (by show 0 + rm.slots ≤ rm.slots; omega) dL_cut_26
set_option maxRecDepth 100000 in
theorem kW_mend {l : Launch} {D : va_G} {dA : Nat → ClassId} {sa : String → Nat → Nat} {a : Nat → Nat} (hl : l.stackTraces = false) {rm : Room} {ao : Nat} {g : Nat → Int64} {x0 : Int32} {o : Nat ⊕ Int32} {w0 w1 : va_W} (M : CXi l D dA sa yX7_mend (wz yX7_mend cX7_mend 2 (some .int)) rm (.ref (a 0) :: [.int x0]) w0 o w1) (hk : ∀ k, o = .inl k → k ∈ ([1, 3] : List Nat)) (hrc : rcv w0 (a 0) RX7) : CPi l D dA sa ⟨"SwitchboardLaw", "mend", "(LSwitchboard;I[J)I"⟩ (wzW ⟨"SwitchboardLaw", "mend", "(LSwitchboard;I[J)I"⟩ method_7_code 4 (some .int) [(0, 9, 12, 19), (0, 9, 15, 13)]) (rmW rm 2) [.ref (a 0), .int x0, .ref ao] (w0 ++ outW dA ao g) (wrP dA ao w1 [1, 3] cvI g o) := by
  refine xm_wi hl (by decide +kernel) (Nat.le_of_ble_eq_true rfl) rfl ?_
  intro p e s m args below meth c A Q hC htb hR
  show xv p l e (rmW rm 2) s m args below meth c D A 4 Q (w0 ++ outW dA ao g) 0 0 0 [(0, .ref (a 0)), (1, .int x0), (2, .ref ao)] []
  refine xv_aload_n (pc := 0) hC dL_mend_0 2 rfl rfl ?_
  refine xv_iconst (v := 0) (pc := 1) hC dL_mend_1 (by decide) ?_
  refine xv_aload_n (pc := 2) hC dL_mend_2 0 rfl rfl ?_
  refine xv_iload_n (pc := 3) hC dL_mend_3 1 rfl rfl ?_
  refine xv_callVxi (As := [.int x0]) (pc := 4) (pre := []) (w0 := w0) (post := outW dA ao g) (w1 := w1) (w2 := w1 ++ outW dA ao g) hC M fV_X7_mend wf_1106 hrc rfl ⟨Nat.le_refl _, Nat.le_refl _⟩ rfl (Nat.le_of_ble_eq_true rfl) dL_mend_4 ⟨by show 0 + rm.cells ≤ rm.cells; omega, by show 0 + rm.slots ≤ rm.slots; omega⟩ rfl rfl (fun k9 hk9 => ?_) (fun v hv => ?_)
  · have h9 := hk k9 hk9
    simp only [List.mem_cons, List.not_mem_nil, or_false] at h9
    rcases h9 with rfl | rfl
    · refine xvx_catch (E := "java/lang/IndexOutOfBoundsException") (hp := 12) hC [] (⟨0, 9, 12, 19⟩ : ExceptionTableEntry) [(⟨0, 9, 15, 13⟩ : ExceptionTableEntry)] (htb.trans rfl) (fun _ h => absurd h List.not_mem_nil) (by decide) rfl (by decide) wf_1081 rfl (fun q9 => ?_)
      refine xv_astore_n (pc := 12) (lv' := [(3, .ref q9), (0, .ref (a 0)), (1, .int x0), (2, .ref ao)]) hC dL_mend_12 rfl (by decide) rfl ?_
      refine xv_iconst (v := nI 1) (pc := 13) hC dL_mend_13 (by decide) ?_
      exact hR _ _ _ _ _ _ (Or.inl ⟨1, hk9, by decide, rfl⟩) (by show 0 + rm.cells ≤ rm.cells; omega) (by show 0 + rm.slots ≤ rm.slots; omega) dL_mend_14
    · refine xvx_catch (E := "java/lang/IllegalStateException") (hp := 15) hC [(⟨0, 9, 12, 19⟩ : ExceptionTableEntry)] (⟨0, 9, 15, 13⟩ : ExceptionTableEntry) [] (htb.trans rfl) (List.forall_mem_cons.mpr ⟨Or.inr ⟨by decide, "java/lang/IndexOutOfBoundsException", wf_1081, by decide, by decide⟩, (fun _ h => absurd h List.not_mem_nil)⟩) (by decide) rfl (by decide) wf_880 rfl (fun q9 => ?_)
      refine xv_astore_n (pc := 15) (lv' := [(3, .ref q9), (0, .ref (a 0)), (1, .int x0), (2, .ref ao)]) hC dL_mend_15 rfl (by decide) rfl ?_
      refine xv_iconst (v := nI 2) (pc := 16) hC dL_mend_16 (by decide) ?_
      exact hR _ _ _ _ _ _ (Or.inl ⟨3, hk9, by decide, rfl⟩) (by show 0 + rm.cells ≤ rm.cells; omega) (by show 0 + rm.slots ≤ rm.slots; omega) dL_mend_17
  · skip
    refine xv_i2l (pc := 7) hC dL_mend_7 ?_
    refine xv_out (pc := 8) hC dL_mend_8 ?_
    refine xv_goto (tgt := 18) (pc := 9) hC dL_mend_9 (by decide) ?_
    refine xv_iconst (v := 0) (pc := 18) hC dL_mend_18 (by decide) ?_
    exact hR _ _ _ _ _ _ (Or.inr ⟨v, _, hv, rfl, rfl, rfl⟩) (by show 0 + rm.cells ≤ rm.cells; omega) (by show 0 + rm.slots ≤ rm.slots; omega) dL_mend_19
set_option maxRecDepth 100000 in
theorem kW_call {l : Launch} {D : va_G} {dA : Nat → ClassId} {sa : String → Nat → Nat} {a : Nat → Nat} (hl : l.stackTraces = false) {rm : Room} {ao : Nat} {g : Nat → Int64} {x0 : Int32} {x1 : Int32} {o : Nat ⊕ Int32} {w0 w1 : va_W} (M : CXi l D dA sa yX7_call (wz yX7_call cX7_call 3 (some .int)) rm (.ref (a 0) :: [.int x0, .int x1]) w0 o w1) (hk : ∀ k, o = .inl k → k ∈ ([1, 2, 3, 4] : List Nat)) (hrc : rcv w0 (a 0) RX7) : CPi l D dA sa ⟨"SwitchboardLaw", "call", "(LSwitchboard;II[J)I"⟩ (wzW ⟨"SwitchboardLaw", "call", "(LSwitchboard;II[J)I"⟩ method_8_code 5 (some .int) [(0, 10, 13, 19), (0, 10, 17, 21), (0, 10, 21, 13), (0, 10, 25, 38)]) (rmW rm 3) [.ref (a 0), .int x0, .int x1, .ref ao] (w0 ++ outW dA ao g) (wrP dA ao w1 [1, 2, 3, 4] cvI g o) := by
  refine xm_wi hl (by decide +kernel) (Nat.le_of_ble_eq_true rfl) rfl ?_
  intro p e s m args below meth c A Q hC htb hR
  show xv p l e (rmW rm 3) s m args below meth c D A 5 Q (w0 ++ outW dA ao g) 0 0 0 [(0, .ref (a 0)), (1, .int x0), (2, .int x1), (3, .ref ao)] []
  refine xv_aload_n (pc := 0) hC dL_call_0 3 rfl rfl ?_
  refine xv_iconst (v := 0) (pc := 1) hC dL_call_1 (by decide) ?_
  refine xv_aload_n (pc := 2) hC dL_call_2 0 rfl rfl ?_
  refine xv_iload_n (pc := 3) hC dL_call_3 1 rfl rfl ?_
  refine xv_iload_n (pc := 4) hC dL_call_4 2 rfl rfl ?_
  refine xv_callVxi (As := [.int x0, .int x1]) (pc := 5) (pre := []) (w0 := w0) (post := outW dA ao g) (w1 := w1) (w2 := w1 ++ outW dA ao g) hC M fV_X7_call wf_1114 hrc rfl ⟨Nat.le_refl _, Nat.le_refl _⟩ rfl (Nat.le_of_ble_eq_true rfl) dL_call_5 ⟨by show 0 + rm.cells ≤ rm.cells; omega, by show 0 + rm.slots ≤ rm.slots; omega⟩ rfl rfl (fun k9 hk9 => ?_) (fun v hv => ?_)
  · have h9 := hk k9 hk9
    simp only [List.mem_cons, List.not_mem_nil, or_false] at h9
    rcases h9 with rfl | rfl | rfl | rfl
    · refine xvx_catch (E := "java/lang/IndexOutOfBoundsException") (hp := 13) hC [] (⟨0, 10, 13, 19⟩ : ExceptionTableEntry) [(⟨0, 10, 17, 21⟩ : ExceptionTableEntry), (⟨0, 10, 21, 13⟩ : ExceptionTableEntry), (⟨0, 10, 25, 38⟩ : ExceptionTableEntry)] (htb.trans rfl) (fun _ h => absurd h List.not_mem_nil) (by decide) rfl (by decide) wf_1081 rfl (fun q9 => ?_)
      refine xv_astore (pc := 13) (lv' := [(4, .ref q9), (0, .ref (a 0)), (1, .int x0), (2, .int x1), (3, .ref ao)]) hC dL_call_13 (by decide) rfl ?_
      refine xv_iconst (v := nI 1) (pc := 15) hC dL_call_15 (by decide) ?_
      exact hR _ _ _ _ _ _ (Or.inl ⟨1, hk9, by decide, rfl⟩) (by show 0 + rm.cells ≤ rm.cells; omega) (by show 0 + rm.slots ≤ rm.slots; omega) dL_call_16
    · refine xvx_catch (E := "java/lang/IllegalArgumentException") (hp := 17) hC [(⟨0, 10, 13, 19⟩ : ExceptionTableEntry)] (⟨0, 10, 17, 21⟩ : ExceptionTableEntry) [(⟨0, 10, 21, 13⟩ : ExceptionTableEntry), (⟨0, 10, 25, 38⟩ : ExceptionTableEntry)] (htb.trans rfl) (List.forall_mem_cons.mpr ⟨Or.inr ⟨by decide, "java/lang/IndexOutOfBoundsException", wf_1081, by decide, by decide⟩, (fun _ h => absurd h List.not_mem_nil)⟩) (by decide) rfl (by decide) wf_1084 rfl (fun q9 => ?_)
      refine xv_astore (pc := 17) (lv' := [(4, .ref q9), (0, .ref (a 0)), (1, .int x0), (2, .int x1), (3, .ref ao)]) hC dL_call_17 (by decide) rfl ?_
      refine xv_iconst (v := nI 2) (pc := 19) hC dL_call_19 (by decide) ?_
      exact hR _ _ _ _ _ _ (Or.inl ⟨2, hk9, by decide, rfl⟩) (by show 0 + rm.cells ≤ rm.cells; omega) (by show 0 + rm.slots ≤ rm.slots; omega) dL_call_20
    · refine xvx_catch (E := "java/lang/IllegalStateException") (hp := 21) hC [(⟨0, 10, 13, 19⟩ : ExceptionTableEntry), (⟨0, 10, 17, 21⟩ : ExceptionTableEntry)] (⟨0, 10, 21, 13⟩ : ExceptionTableEntry) [(⟨0, 10, 25, 38⟩ : ExceptionTableEntry)] (htb.trans rfl) (List.forall_mem_cons.mpr ⟨Or.inr ⟨by decide, "java/lang/IndexOutOfBoundsException", wf_1081, by decide, by decide⟩, (List.forall_mem_cons.mpr ⟨Or.inr ⟨by decide, "java/lang/IllegalArgumentException", wf_1084, by decide, by decide⟩, (fun _ h => absurd h List.not_mem_nil)⟩)⟩) (by decide) rfl (by decide) wf_880 rfl (fun q9 => ?_)
      refine xv_astore (pc := 21) (lv' := [(4, .ref q9), (0, .ref (a 0)), (1, .int x0), (2, .int x1), (3, .ref ao)]) hC dL_call_21 (by decide) rfl ?_
      refine xv_iconst (v := nI 3) (pc := 23) hC dL_call_23 (by decide) ?_
      exact hR _ _ _ _ _ _ (Or.inl ⟨3, hk9, by decide, rfl⟩) (by show 0 + rm.cells ≤ rm.cells; omega) (by show 0 + rm.slots ≤ rm.slots; omega) dL_call_24
    · refine xvx_catch (E := "java/lang/UnsupportedOperationException") (hp := 25) hC [(⟨0, 10, 13, 19⟩ : ExceptionTableEntry), (⟨0, 10, 17, 21⟩ : ExceptionTableEntry), (⟨0, 10, 21, 13⟩ : ExceptionTableEntry)] (⟨0, 10, 25, 38⟩ : ExceptionTableEntry) [] (htb.trans rfl) (List.forall_mem_cons.mpr ⟨Or.inr ⟨by decide, "java/lang/IndexOutOfBoundsException", wf_1081, by decide, by decide⟩, (List.forall_mem_cons.mpr ⟨Or.inr ⟨by decide, "java/lang/IllegalArgumentException", wf_1084, by decide, by decide⟩, (List.forall_mem_cons.mpr ⟨Or.inr ⟨by decide, "java/lang/IllegalStateException", wf_880, by decide, by decide⟩, (fun _ h => absurd h List.not_mem_nil)⟩)⟩)⟩) (by decide) rfl (by decide) wf_1113 rfl (fun q9 => ?_)
      refine xv_astore (pc := 25) (lv' := [(4, .ref q9), (0, .ref (a 0)), (1, .int x0), (2, .int x1), (3, .ref ao)]) hC dL_call_25 (by decide) rfl ?_
      refine xv_iconst (v := nI 4) (pc := 27) hC dL_call_27 (by decide) ?_
      exact hR _ _ _ _ _ _ (Or.inl ⟨4, hk9, by decide, rfl⟩) (by show 0 + rm.cells ≤ rm.cells; omega) (by show 0 + rm.slots ≤ rm.slots; omega) dL_call_28
  · skip
    refine xv_i2l (pc := 8) hC dL_call_8 ?_
    refine xv_out (pc := 9) hC dL_call_9 ?_
    refine xv_goto (tgt := 29) (pc := 10) hC dL_call_10 (by decide) ?_
    refine xv_iconst (v := 0) (pc := 29) hC dL_call_29 (by decide) ?_
    exact hR _ _ _ _ _ _ (Or.inr ⟨v, _, hv, rfl, rfl, rfl⟩) (by show 0 + rm.cells ≤ rm.cells; omega) (by show 0 + rm.slots ≤ rm.slots; omega) dL_call_30
set_option maxRecDepth 100000 in
theorem kW_hangUp {l : Launch} {D : va_G} {dA : Nat → ClassId} {sa : String → Nat → Nat} {a : Nat → Nat} (hl : l.stackTraces = false) {rm : Room} {ao : Nat} {g : Nat → Int64} {x0 : Int32} {o : Nat ⊕ Int32} {w0 w1 : va_W} (M : CXi l D dA sa yX7_hangUp (wz yX7_hangUp cX7_hangUp 2 (some .int)) rm (.ref (a 0) :: [.int x0]) w0 o w1) (hk : ∀ k, o = .inl k → k ∈ ([1, 3] : List Nat)) (hrc : rcv w0 (a 0) RX7) : CPi l D dA sa ⟨"SwitchboardLaw", "hangUp", "(LSwitchboard;I[J)I"⟩ (wzW ⟨"SwitchboardLaw", "hangUp", "(LSwitchboard;I[J)I"⟩ method_9_code 4 (some .int) [(0, 9, 12, 19), (0, 9, 15, 13)]) (rmW rm 2) [.ref (a 0), .int x0, .ref ao] (w0 ++ outW dA ao g) (wrP dA ao w1 [1, 3] cvI g o) := by
  refine xm_wi hl (by decide +kernel) (Nat.le_of_ble_eq_true rfl) rfl ?_
  intro p e s m args below meth c A Q hC htb hR
  show xv p l e (rmW rm 2) s m args below meth c D A 4 Q (w0 ++ outW dA ao g) 0 0 0 [(0, .ref (a 0)), (1, .int x0), (2, .ref ao)] []
  refine xv_aload_n (pc := 0) hC dL_hangUp_0 2 rfl rfl ?_
  refine xv_iconst (v := 0) (pc := 1) hC dL_hangUp_1 (by decide) ?_
  refine xv_aload_n (pc := 2) hC dL_hangUp_2 0 rfl rfl ?_
  refine xv_iload_n (pc := 3) hC dL_hangUp_3 1 rfl rfl ?_
  refine xv_callVxi (As := [.int x0]) (pc := 4) (pre := []) (w0 := w0) (post := outW dA ao g) (w1 := w1) (w2 := w1 ++ outW dA ao g) hC M fV_X7_hangUp wf_1121 hrc rfl ⟨Nat.le_refl _, Nat.le_refl _⟩ rfl (Nat.le_of_ble_eq_true rfl) dL_hangUp_4 ⟨by show 0 + rm.cells ≤ rm.cells; omega, by show 0 + rm.slots ≤ rm.slots; omega⟩ rfl rfl (fun k9 hk9 => ?_) (fun v hv => ?_)
  · have h9 := hk k9 hk9
    simp only [List.mem_cons, List.not_mem_nil, or_false] at h9
    rcases h9 with rfl | rfl
    · refine xvx_catch (E := "java/lang/IndexOutOfBoundsException") (hp := 12) hC [] (⟨0, 9, 12, 19⟩ : ExceptionTableEntry) [(⟨0, 9, 15, 13⟩ : ExceptionTableEntry)] (htb.trans rfl) (fun _ h => absurd h List.not_mem_nil) (by decide) rfl (by decide) wf_1081 rfl (fun q9 => ?_)
      refine xv_astore_n (pc := 12) (lv' := [(3, .ref q9), (0, .ref (a 0)), (1, .int x0), (2, .ref ao)]) hC dL_hangUp_12 rfl (by decide) rfl ?_
      refine xv_iconst (v := nI 1) (pc := 13) hC dL_hangUp_13 (by decide) ?_
      exact hR _ _ _ _ _ _ (Or.inl ⟨1, hk9, by decide, rfl⟩) (by show 0 + rm.cells ≤ rm.cells; omega) (by show 0 + rm.slots ≤ rm.slots; omega) dL_hangUp_14
    · refine xvx_catch (E := "java/lang/IllegalStateException") (hp := 15) hC [(⟨0, 9, 12, 19⟩ : ExceptionTableEntry)] (⟨0, 9, 15, 13⟩ : ExceptionTableEntry) [] (htb.trans rfl) (List.forall_mem_cons.mpr ⟨Or.inr ⟨by decide, "java/lang/IndexOutOfBoundsException", wf_1081, by decide, by decide⟩, (fun _ h => absurd h List.not_mem_nil)⟩) (by decide) rfl (by decide) wf_880 rfl (fun q9 => ?_)
      refine xv_astore_n (pc := 15) (lv' := [(3, .ref q9), (0, .ref (a 0)), (1, .int x0), (2, .ref ao)]) hC dL_hangUp_15 rfl (by decide) rfl ?_
      refine xv_iconst (v := nI 2) (pc := 16) hC dL_hangUp_16 (by decide) ?_
      exact hR _ _ _ _ _ _ (Or.inl ⟨3, hk9, by decide, rfl⟩) (by show 0 + rm.cells ≤ rm.cells; omega) (by show 0 + rm.slots ≤ rm.slots; omega) dL_hangUp_17
  · skip
    refine xv_i2l (pc := 7) hC dL_hangUp_7 ?_
    refine xv_out (pc := 8) hC dL_hangUp_8 ?_
    refine xv_goto (tgt := 18) (pc := 9) hC dL_hangUp_9 (by decide) ?_
    refine xv_iconst (v := 0) (pc := 18) hC dL_hangUp_18 (by decide) ?_
    exact hR _ _ _ _ _ _ (Or.inr ⟨v, _, hv, rfl, rfl, rfl⟩) (by show 0 + rm.cells ≤ rm.cells; omega) (by show 0 + rm.slots ≤ rm.slots; omega) dL_hangUp_19
set_option maxRecDepth 100000 in
theorem kW_pass {l : Launch} {D : va_G} {dA : Nat → ClassId} {sa : String → Nat → Nat} {a : Nat → Nat} (hl : l.stackTraces = false) {rm : Room} {ao : Nat} {g : Nat → Int64} {x0 : Int32} {o : Nat ⊕ Int32} {w0 w1 : va_W} (M : CXi l D dA sa yX7_pass (wz yX7_pass cX7_pass 2 (some .int)) rm (.ref (a 0) :: [.int x0]) w0 o w1) (hk : ∀ k, o = .inl k → k ∈ ([2] : List Nat)) (hrc : rcv w0 (a 0) RX7) : CPi l D dA sa ⟨"SwitchboardLaw", "pass", "(LSwitchboard;I[J)I"⟩ (wzW ⟨"SwitchboardLaw", "pass", "(LSwitchboard;I[J)I"⟩ method_10_code 4 (some .int) [(0, 9, 12, 21)]) (rmW rm 2) [.ref (a 0), .int x0, .ref ao] (w0 ++ outW dA ao g) (wrP dA ao w1 [2] cvI g o) := by
  refine xm_wi hl (by decide +kernel) (Nat.le_of_ble_eq_true rfl) rfl ?_
  intro p e s m args below meth c A Q hC htb hR
  show xv p l e (rmW rm 2) s m args below meth c D A 4 Q (w0 ++ outW dA ao g) 0 0 0 [(0, .ref (a 0)), (1, .int x0), (2, .ref ao)] []
  refine xv_aload_n (pc := 0) hC dL_pass_0 2 rfl rfl ?_
  refine xv_iconst (v := 0) (pc := 1) hC dL_pass_1 (by decide) ?_
  refine xv_aload_n (pc := 2) hC dL_pass_2 0 rfl rfl ?_
  refine xv_iload_n (pc := 3) hC dL_pass_3 1 rfl rfl ?_
  refine xv_callVxi (As := [.int x0]) (pc := 4) (pre := []) (w0 := w0) (post := outW dA ao g) (w1 := w1) (w2 := w1 ++ outW dA ao g) hC M fV_X7_pass wf_1128 hrc rfl ⟨Nat.le_refl _, Nat.le_refl _⟩ rfl (Nat.le_of_ble_eq_true rfl) dL_pass_4 ⟨by show 0 + rm.cells ≤ rm.cells; omega, by show 0 + rm.slots ≤ rm.slots; omega⟩ rfl rfl (fun k9 hk9 => ?_) (fun v hv => ?_)
  · have h9 := hk k9 hk9
    simp only [List.mem_cons, List.not_mem_nil, or_false] at h9
    rcases h9 with rfl
    · refine xvx_catch (E := "java/lang/IllegalArgumentException") (hp := 12) hC [] (⟨0, 9, 12, 21⟩ : ExceptionTableEntry) [] (htb.trans rfl) (fun _ h => absurd h List.not_mem_nil) (by decide) rfl (by decide) wf_1084 rfl (fun q9 => ?_)
      refine xv_astore_n (pc := 12) (lv' := [(3, .ref q9), (0, .ref (a 0)), (1, .int x0), (2, .ref ao)]) hC dL_pass_12 rfl (by decide) rfl ?_
      refine xv_iconst (v := nI 1) (pc := 13) hC dL_pass_13 (by decide) ?_
      exact hR _ _ _ _ _ _ (Or.inl ⟨2, hk9, by decide, rfl⟩) (by show 0 + rm.cells ≤ rm.cells; omega) (by show 0 + rm.slots ≤ rm.slots; omega) dL_pass_14
  · skip
    refine xv_i2l (pc := 7) hC dL_pass_7 ?_
    refine xv_out (pc := 8) hC dL_pass_8 ?_
    refine xv_goto (tgt := 15) (pc := 9) hC dL_pass_9 (by decide) ?_
    refine xv_iconst (v := 0) (pc := 15) hC dL_pass_15 (by decide) ?_
    exact hR _ _ _ _ _ _ (Or.inr ⟨v, _, hv, rfl, rfl, rfl⟩) (by show 0 + rm.cells ≤ rm.cells; omega) (by show 0 + rm.slots ≤ rm.slots; omega) dL_pass_16
set_option maxRecDepth 100000 in
theorem kW_trunkLength {l : Launch} {D : va_G} {dA : Nat → ClassId} {sa : String → Nat → Nat} {a : Nat → Nat} (hl : l.stackTraces = false) {rm : Room} {ao : Nat} {g : Nat → Int64} {x0 : Int32} {o : Nat ⊕ Int32} {w0 w1 : va_W} (M : CXi l D dA sa yX7_trunkLength (wz yX7_trunkLength cX7_trunkLength 2 (some .int)) rm (.ref (a 0) :: [.int x0]) w0 o w1) (hk : ∀ k, o = .inl k → k ∈ ([1] : List Nat)) (hrc : rcv w0 (a 0) RX7) : CPi l D dA sa ⟨"SwitchboardLaw", "trunkLength", "(LSwitchboard;I[J)I"⟩ (wzW ⟨"SwitchboardLaw", "trunkLength", "(LSwitchboard;I[J)I"⟩ method_11_code 4 (some .int) [(0, 9, 12, 19)]) (rmW rm 2) [.ref (a 0), .int x0, .ref ao] (w0 ++ outW dA ao g) (wrP dA ao w1 [1] cvI g o) := by
  refine xm_wi hl (by decide +kernel) (Nat.le_of_ble_eq_true rfl) rfl ?_
  intro p e s m args below meth c A Q hC htb hR
  show xv p l e (rmW rm 2) s m args below meth c D A 4 Q (w0 ++ outW dA ao g) 0 0 0 [(0, .ref (a 0)), (1, .int x0), (2, .ref ao)] []
  refine xv_aload_n (pc := 0) hC dL_trunkLength_0 2 rfl rfl ?_
  refine xv_iconst (v := 0) (pc := 1) hC dL_trunkLength_1 (by decide) ?_
  refine xv_aload_n (pc := 2) hC dL_trunkLength_2 0 rfl rfl ?_
  refine xv_iload_n (pc := 3) hC dL_trunkLength_3 1 rfl rfl ?_
  refine xv_callVxi (As := [.int x0]) (pc := 4) (pre := []) (w0 := w0) (post := outW dA ao g) (w1 := w1) (w2 := w1 ++ outW dA ao g) hC M fV_X7_trunkLength wf_1135 hrc rfl ⟨Nat.le_refl _, Nat.le_refl _⟩ rfl (Nat.le_of_ble_eq_true rfl) dL_trunkLength_4 ⟨by show 0 + rm.cells ≤ rm.cells; omega, by show 0 + rm.slots ≤ rm.slots; omega⟩ rfl rfl (fun k9 hk9 => ?_) (fun v hv => ?_)
  · have h9 := hk k9 hk9
    simp only [List.mem_cons, List.not_mem_nil, or_false] at h9
    rcases h9 with rfl
    · refine xvx_catch (E := "java/lang/IndexOutOfBoundsException") (hp := 12) hC [] (⟨0, 9, 12, 19⟩ : ExceptionTableEntry) [] (htb.trans rfl) (fun _ h => absurd h List.not_mem_nil) (by decide) rfl (by decide) wf_1081 rfl (fun q9 => ?_)
      refine xv_astore_n (pc := 12) (lv' := [(3, .ref q9), (0, .ref (a 0)), (1, .int x0), (2, .ref ao)]) hC dL_trunkLength_12 rfl (by decide) rfl ?_
      refine xv_iconst (v := nI 1) (pc := 13) hC dL_trunkLength_13 (by decide) ?_
      exact hR _ _ _ _ _ _ (Or.inl ⟨1, hk9, by decide, rfl⟩) (by show 0 + rm.cells ≤ rm.cells; omega) (by show 0 + rm.slots ≤ rm.slots; omega) dL_trunkLength_14
  · skip
    refine xv_i2l (pc := 7) hC dL_trunkLength_7 ?_
    refine xv_out (pc := 8) hC dL_trunkLength_8 ?_
    refine xv_goto (tgt := 15) (pc := 9) hC dL_trunkLength_9 (by decide) ?_
    refine xv_iconst (v := 0) (pc := 15) hC dL_trunkLength_15 (by decide) ?_
    exact hR _ _ _ _ _ _ (Or.inr ⟨v, _, hv, rfl, rfl, rfl⟩) (by show 0 + rm.cells ≤ rm.cells; omega) (by show 0 + rm.slots ≤ rm.slots; omega) dL_trunkLength_16
set_option maxRecDepth 100000 in
theorem kW_otherEnd {l : Launch} {D : va_G} {dA : Nat → ClassId} {sa : String → Nat → Nat} {a : Nat → Nat} (hl : l.stackTraces = false) {rm : Room} {ao : Nat} {g : Nat → Int64} {x0 : Int32} {x1 : Int32} {o : Nat ⊕ Int32} {w0 w1 : va_W} (M : CXi l D dA sa yX7_otherEnd (wz yX7_otherEnd cX7_otherEnd 4 (some .int)) rm (.ref (a 0) :: [.int x0, .int x1]) w0 o w1) (hk : ∀ k, o = .inl k → k ∈ ([1, 2] : List Nat)) (hrc : rcv w0 (a 0) RX7) : CPi l D dA sa ⟨"SwitchboardLaw", "otherEnd", "(LSwitchboard;II[J)I"⟩ (wzW ⟨"SwitchboardLaw", "otherEnd", "(LSwitchboard;II[J)I"⟩ method_12_code 5 (some .int) [(0, 10, 13, 19), (0, 10, 17, 21)]) (rmW rm 4) [.ref (a 0), .int x0, .int x1, .ref ao] (w0 ++ outW dA ao g) (wrP dA ao w1 [1, 2] cvI g o) := by
  refine xm_wi hl (by decide +kernel) (Nat.le_of_ble_eq_true rfl) rfl ?_
  intro p e s m args below meth c A Q hC htb hR
  show xv p l e (rmW rm 4) s m args below meth c D A 5 Q (w0 ++ outW dA ao g) 0 0 0 [(0, .ref (a 0)), (1, .int x0), (2, .int x1), (3, .ref ao)] []
  refine xv_aload_n (pc := 0) hC dL_otherEnd_0 3 rfl rfl ?_
  refine xv_iconst (v := 0) (pc := 1) hC dL_otherEnd_1 (by decide) ?_
  refine xv_aload_n (pc := 2) hC dL_otherEnd_2 0 rfl rfl ?_
  refine xv_iload_n (pc := 3) hC dL_otherEnd_3 1 rfl rfl ?_
  refine xv_iload_n (pc := 4) hC dL_otherEnd_4 2 rfl rfl ?_
  refine xv_callVxi (As := [.int x0, .int x1]) (pc := 5) (pre := []) (w0 := w0) (post := outW dA ao g) (w1 := w1) (w2 := w1 ++ outW dA ao g) hC M fV_X7_otherEnd wf_1148 hrc rfl ⟨Nat.le_refl _, Nat.le_refl _⟩ rfl (Nat.le_of_ble_eq_true rfl) dL_otherEnd_5 ⟨by show 0 + rm.cells ≤ rm.cells; omega, by show 0 + rm.slots ≤ rm.slots; omega⟩ rfl rfl (fun k9 hk9 => ?_) (fun v hv => ?_)
  · have h9 := hk k9 hk9
    simp only [List.mem_cons, List.not_mem_nil, or_false] at h9
    rcases h9 with rfl | rfl
    · refine xvx_catch (E := "java/lang/IndexOutOfBoundsException") (hp := 13) hC [] (⟨0, 10, 13, 19⟩ : ExceptionTableEntry) [(⟨0, 10, 17, 21⟩ : ExceptionTableEntry)] (htb.trans rfl) (fun _ h => absurd h List.not_mem_nil) (by decide) rfl (by decide) wf_1081 rfl (fun q9 => ?_)
      refine xv_astore (pc := 13) (lv' := [(4, .ref q9), (0, .ref (a 0)), (1, .int x0), (2, .int x1), (3, .ref ao)]) hC dL_otherEnd_13 (by decide) rfl ?_
      refine xv_iconst (v := nI 1) (pc := 15) hC dL_otherEnd_15 (by decide) ?_
      exact hR _ _ _ _ _ _ (Or.inl ⟨1, hk9, by decide, rfl⟩) (by show 0 + rm.cells ≤ rm.cells; omega) (by show 0 + rm.slots ≤ rm.slots; omega) dL_otherEnd_16
    · refine xvx_catch (E := "java/lang/IllegalArgumentException") (hp := 17) hC [(⟨0, 10, 13, 19⟩ : ExceptionTableEntry)] (⟨0, 10, 17, 21⟩ : ExceptionTableEntry) [] (htb.trans rfl) (List.forall_mem_cons.mpr ⟨Or.inr ⟨by decide, "java/lang/IndexOutOfBoundsException", wf_1081, by decide, by decide⟩, (fun _ h => absurd h List.not_mem_nil)⟩) (by decide) rfl (by decide) wf_1084 rfl (fun q9 => ?_)
      refine xv_astore (pc := 17) (lv' := [(4, .ref q9), (0, .ref (a 0)), (1, .int x0), (2, .int x1), (3, .ref ao)]) hC dL_otherEnd_17 (by decide) rfl ?_
      refine xv_iconst (v := nI 2) (pc := 19) hC dL_otherEnd_19 (by decide) ?_
      exact hR _ _ _ _ _ _ (Or.inl ⟨2, hk9, by decide, rfl⟩) (by show 0 + rm.cells ≤ rm.cells; omega) (by show 0 + rm.slots ≤ rm.slots; omega) dL_otherEnd_20
  · skip
    refine xv_i2l (pc := 8) hC dL_otherEnd_8 ?_
    refine xv_out (pc := 9) hC dL_otherEnd_9 ?_
    refine xv_goto (tgt := 21) (pc := 10) hC dL_otherEnd_10 (by decide) ?_
    refine xv_iconst (v := 0) (pc := 21) hC dL_otherEnd_21 (by decide) ?_
    exact hR _ _ _ _ _ _ (Or.inr ⟨v, _, hv, rfl, rfl, rfl⟩) (by show 0 + rm.cells ≤ rm.cells; omega) (by show 0 + rm.slots ≤ rm.slots; omega) dL_otherEnd_22
set_option maxRecDepth 100000 in
theorem kW_isCut {l : Launch} {D : va_G} {dA : Nat → ClassId} {sa : String → Nat → Nat} {a : Nat → Nat} (hl : l.stackTraces = false) {rm : Room} {ao : Nat} {g : Nat → Int64} {x0 : Int32} {o : Nat ⊕ Int32} {w0 w1 : va_W} (M : CXi l D dA sa yX7_isCut (wz yX7_isCut cX7_isCut 2 (some .boolean)) rm (.ref (a 0) :: [.int x0]) w0 o w1) (hk : ∀ k, o = .inl k → k ∈ ([1] : List Nat)) (hrc : rcv w0 (a 0) RX7) : CPi l D dA sa ⟨"SwitchboardLaw", "isCut", "(LSwitchboard;I[J)I"⟩ (wzW ⟨"SwitchboardLaw", "isCut", "(LSwitchboard;I[J)I"⟩ method_13_code 4 (some .int) [(0, 16, 19, 19)]) (rmW rm 2) [.ref (a 0), .int x0, .ref ao] (w0 ++ outW dA ao g) (wrP dA ao w1 [1] cvB g o) := by
  refine xm_wi hl (by decide +kernel) (Nat.le_of_ble_eq_true rfl) rfl ?_
  intro p e s m args below meth c A Q hC htb hR
  show xv p l e (rmW rm 2) s m args below meth c D A 4 Q (w0 ++ outW dA ao g) 0 0 0 [(0, .ref (a 0)), (1, .int x0), (2, .ref ao)] []
  refine xv_aload_n (pc := 0) hC dL_isCut_0 2 rfl rfl ?_
  refine xv_iconst (v := 0) (pc := 1) hC dL_isCut_1 (by decide) ?_
  refine xv_aload_n (pc := 2) hC dL_isCut_2 0 rfl rfl ?_
  refine xv_iload_n (pc := 3) hC dL_isCut_3 1 rfl rfl ?_
  refine xv_callVxi (As := [.int x0]) (pc := 4) (pre := []) (w0 := w0) (post := outW dA ao g) (w1 := w1) (w2 := w1 ++ outW dA ao g) hC M fV_X7_isCut wf_1157 hrc rfl ⟨Nat.le_refl _, Nat.le_refl _⟩ rfl (Nat.le_of_ble_eq_true rfl) dL_isCut_4 ⟨by show 0 + rm.cells ≤ rm.cells; omega, by show 0 + rm.slots ≤ rm.slots; omega⟩ rfl rfl (fun k9 hk9 => ?_) (fun v hv => ?_)
  · have h9 := hk k9 hk9
    simp only [List.mem_cons, List.not_mem_nil, or_false] at h9
    rcases h9 with rfl
    · refine xvx_catch (E := "java/lang/IndexOutOfBoundsException") (hp := 19) hC [] (⟨0, 16, 19, 19⟩ : ExceptionTableEntry) [] (htb.trans rfl) (fun _ h => absurd h List.not_mem_nil) (by decide) rfl (by decide) wf_1081 rfl (fun q9 => ?_)
      refine xv_astore_n (pc := 19) (lv' := [(3, .ref q9), (0, .ref (a 0)), (1, .int x0), (2, .ref ao)]) hC dL_isCut_19 rfl (by decide) rfl ?_
      refine xv_iconst (v := nI 1) (pc := 20) hC dL_isCut_20 (by decide) ?_
      exact hR _ _ _ _ _ _ (Or.inl ⟨1, hk9, by decide, rfl⟩) (by show 0 + rm.cells ≤ rm.cells; omega) (by show 0 + rm.slots ≤ rm.slots; omega) dL_isCut_21
  · skip
    refine xv_if_eq (tgt := 14) (pc := 7) hC dL_isCut_7 (by decide) (fun c9 => ?_) (fun c9 => ?_)
    · refine xv_lconst (v := 0) (pc := 14) hC dL_isCut_14 (by decide) ?_
      refine xv_out (pc := 15) hC dL_isCut_15 ?_
      refine xv_goto (tgt := 22) (pc := 16) hC dL_isCut_16 (by decide) ?_
      refine xv_iconst (v := 0) (pc := 22) hC dL_isCut_22 (by decide) ?_
      exact hR _ _ _ _ _ _ (Or.inr ⟨v, _, hv, rfl, rfl, by unfold cvB; rw [if_pos c9]; rfl⟩) (by show 0 + rm.cells ≤ rm.cells; omega) (by show 0 + rm.slots ≤ rm.slots; omega) dL_isCut_23
    · refine xv_lconst (v := 1) (pc := 10) hC dL_isCut_10 (by decide) ?_
      refine xv_goto (tgt := 15) (pc := 11) hC dL_isCut_11 (by decide) ?_
      refine xv_out (pc := 15) hC dL_isCut_15 ?_
      refine xv_goto (tgt := 22) (pc := 16) hC dL_isCut_16 (by decide) ?_
      refine xv_iconst (v := 0) (pc := 22) hC dL_isCut_22 (by decide) ?_
      exact hR _ _ _ _ _ _ (Or.inr ⟨v, _, hv, rfl, rfl, by unfold cvB; rw [if_neg c9]; rfl⟩) (by show 0 + rm.cells ≤ rm.cells; omega) (by show 0 + rm.slots ≤ rm.slots; omega) dL_isCut_23
set_option maxRecDepth 100000 in
theorem kW_userOf {l : Launch} {D : va_G} {dA : Nat → ClassId} {sa : String → Nat → Nat} {a : Nat → Nat} (hl : l.stackTraces = false) {rm : Room} {ao : Nat} {g : Nat → Int64} {x0 : Int32} {o : Nat ⊕ Int32} {w0 w1 : va_W} (M : CXi l D dA sa yX7_userOf (wz yX7_userOf cX7_userOf 3 (some .int)) rm (.ref (a 0) :: [.int x0]) w0 o w1) (hk : ∀ k, o = .inl k → k ∈ ([1, 5] : List Nat)) (hrc : rcv w0 (a 0) RX7) : CPi l D dA sa ⟨"SwitchboardLaw", "userOf", "(LSwitchboard;I[J)I"⟩ (wzW ⟨"SwitchboardLaw", "userOf", "(LSwitchboard;I[J)I"⟩ method_14_code 4 (some .int) [(0, 9, 12, 19), (0, 9, 15, 58)]) (rmW rm 3) [.ref (a 0), .int x0, .ref ao] (w0 ++ outW dA ao g) (wrP dA ao w1 [1, 5] cvI g o) := by
  refine xm_wi hl (by decide +kernel) (Nat.le_of_ble_eq_true rfl) rfl ?_
  intro p e s m args below meth c A Q hC htb hR
  show xv p l e (rmW rm 3) s m args below meth c D A 4 Q (w0 ++ outW dA ao g) 0 0 0 [(0, .ref (a 0)), (1, .int x0), (2, .ref ao)] []
  refine xv_aload_n (pc := 0) hC dL_userOf_0 2 rfl rfl ?_
  refine xv_iconst (v := 0) (pc := 1) hC dL_userOf_1 (by decide) ?_
  refine xv_aload_n (pc := 2) hC dL_userOf_2 0 rfl rfl ?_
  refine xv_iload_n (pc := 3) hC dL_userOf_3 1 rfl rfl ?_
  refine xv_callVxi (As := [.int x0]) (pc := 4) (pre := []) (w0 := w0) (post := outW dA ao g) (w1 := w1) (w2 := w1 ++ outW dA ao g) hC M fV_X7_userOf wf_1166 hrc rfl ⟨Nat.le_refl _, Nat.le_refl _⟩ rfl (Nat.le_of_ble_eq_true rfl) dL_userOf_4 ⟨by show 0 + rm.cells ≤ rm.cells; omega, by show 0 + rm.slots ≤ rm.slots; omega⟩ rfl rfl (fun k9 hk9 => ?_) (fun v hv => ?_)
  · have h9 := hk k9 hk9
    simp only [List.mem_cons, List.not_mem_nil, or_false] at h9
    rcases h9 with rfl | rfl
    · refine xvx_catch (E := "java/lang/IndexOutOfBoundsException") (hp := 12) hC [] (⟨0, 9, 12, 19⟩ : ExceptionTableEntry) [(⟨0, 9, 15, 58⟩ : ExceptionTableEntry)] (htb.trans rfl) (fun _ h => absurd h List.not_mem_nil) (by decide) rfl (by decide) wf_1081 rfl (fun q9 => ?_)
      refine xv_astore_n (pc := 12) (lv' := [(3, .ref q9), (0, .ref (a 0)), (1, .int x0), (2, .ref ao)]) hC dL_userOf_12 rfl (by decide) rfl ?_
      refine xv_iconst (v := nI 1) (pc := 13) hC dL_userOf_13 (by decide) ?_
      exact hR _ _ _ _ _ _ (Or.inl ⟨1, hk9, by decide, rfl⟩) (by show 0 + rm.cells ≤ rm.cells; omega) (by show 0 + rm.slots ≤ rm.slots; omega) dL_userOf_14
    · refine xvx_catch (E := "java/util/NoSuchElementException") (hp := 15) hC [(⟨0, 9, 12, 19⟩ : ExceptionTableEntry)] (⟨0, 9, 15, 58⟩ : ExceptionTableEntry) [] (htb.trans rfl) (List.forall_mem_cons.mpr ⟨Or.inr ⟨by decide, "java/lang/IndexOutOfBoundsException", wf_1081, by decide, by decide⟩, (fun _ h => absurd h List.not_mem_nil)⟩) (by decide) rfl (by decide) wf_1165 rfl (fun q9 => ?_)
      refine xv_astore_n (pc := 15) (lv' := [(3, .ref q9), (0, .ref (a 0)), (1, .int x0), (2, .ref ao)]) hC dL_userOf_15 rfl (by decide) rfl ?_
      refine xv_iconst (v := nI 2) (pc := 16) hC dL_userOf_16 (by decide) ?_
      exact hR _ _ _ _ _ _ (Or.inl ⟨5, hk9, by decide, rfl⟩) (by show 0 + rm.cells ≤ rm.cells; omega) (by show 0 + rm.slots ≤ rm.slots; omega) dL_userOf_17
  · skip
    refine xv_i2l (pc := 7) hC dL_userOf_7 ?_
    refine xv_out (pc := 8) hC dL_userOf_8 ?_
    refine xv_goto (tgt := 18) (pc := 9) hC dL_userOf_9 (by decide) ?_
    refine xv_iconst (v := 0) (pc := 18) hC dL_userOf_18 (by decide) ?_
    exact hR _ _ _ _ _ _ (Or.inr ⟨v, _, hv, rfl, rfl, rfl⟩) (by show 0 + rm.cells ≤ rm.cells; omega) (by show 0 + rm.slots ≤ rm.slots; omega) dL_userOf_19
set_option maxRecDepth 100000 in
theorem kW_minutesOn {l : Launch} {D : va_G} {dA : Nat → ClassId} {sa : String → Nat → Nat} {a : Nat → Nat} (hl : l.stackTraces = false) {rm : Room} {ao : Nat} {g : Nat → Int64} {x0 : Int32} {o : Nat ⊕ Int32} {w0 w1 : va_W} (M : CXi l D dA sa yX7_minutesOn (wz yX7_minutesOn cX7_minutesOn 2 (some .int)) rm (.ref (a 0) :: [.int x0]) w0 o w1) (hk : ∀ k, o = .inl k → k ∈ ([1] : List Nat)) (hrc : rcv w0 (a 0) RX7) : CPi l D dA sa ⟨"SwitchboardLaw", "minutesOn", "(LSwitchboard;I[J)I"⟩ (wzW ⟨"SwitchboardLaw", "minutesOn", "(LSwitchboard;I[J)I"⟩ method_15_code 4 (some .int) [(0, 9, 12, 19)]) (rmW rm 2) [.ref (a 0), .int x0, .ref ao] (w0 ++ outW dA ao g) (wrP dA ao w1 [1] cvI g o) := by
  refine xm_wi hl (by decide +kernel) (Nat.le_of_ble_eq_true rfl) rfl ?_
  intro p e s m args below meth c A Q hC htb hR
  show xv p l e (rmW rm 2) s m args below meth c D A 4 Q (w0 ++ outW dA ao g) 0 0 0 [(0, .ref (a 0)), (1, .int x0), (2, .ref ao)] []
  refine xv_aload_n (pc := 0) hC dL_minutesOn_0 2 rfl rfl ?_
  refine xv_iconst (v := 0) (pc := 1) hC dL_minutesOn_1 (by decide) ?_
  refine xv_aload_n (pc := 2) hC dL_minutesOn_2 0 rfl rfl ?_
  refine xv_iload_n (pc := 3) hC dL_minutesOn_3 1 rfl rfl ?_
  refine xv_callVxi (As := [.int x0]) (pc := 4) (pre := []) (w0 := w0) (post := outW dA ao g) (w1 := w1) (w2 := w1 ++ outW dA ao g) hC M fV_X7_minutesOn wf_1189 hrc rfl ⟨Nat.le_refl _, Nat.le_refl _⟩ rfl (Nat.le_of_ble_eq_true rfl) dL_minutesOn_4 ⟨by show 0 + rm.cells ≤ rm.cells; omega, by show 0 + rm.slots ≤ rm.slots; omega⟩ rfl rfl (fun k9 hk9 => ?_) (fun v hv => ?_)
  · have h9 := hk k9 hk9
    simp only [List.mem_cons, List.not_mem_nil, or_false] at h9
    rcases h9 with rfl
    · refine xvx_catch (E := "java/lang/IndexOutOfBoundsException") (hp := 12) hC [] (⟨0, 9, 12, 19⟩ : ExceptionTableEntry) [] (htb.trans rfl) (fun _ h => absurd h List.not_mem_nil) (by decide) rfl (by decide) wf_1081 rfl (fun q9 => ?_)
      refine xv_astore_n (pc := 12) (lv' := [(3, .ref q9), (0, .ref (a 0)), (1, .int x0), (2, .ref ao)]) hC dL_minutesOn_12 rfl (by decide) rfl ?_
      refine xv_iconst (v := nI 1) (pc := 13) hC dL_minutesOn_13 (by decide) ?_
      exact hR _ _ _ _ _ _ (Or.inl ⟨1, hk9, by decide, rfl⟩) (by show 0 + rm.cells ≤ rm.cells; omega) (by show 0 + rm.slots ≤ rm.slots; omega) dL_minutesOn_14
  · skip
    refine xv_i2l (pc := 7) hC dL_minutesOn_7 ?_
    refine xv_out (pc := 8) hC dL_minutesOn_8 ?_
    refine xv_goto (tgt := 15) (pc := 9) hC dL_minutesOn_9 (by decide) ?_
    refine xv_iconst (v := 0) (pc := 15) hC dL_minutesOn_15 (by decide) ?_
    exact hR _ _ _ _ _ _ (Or.inr ⟨v, _, hv, rfl, rfl, rfl⟩) (by show 0 + rm.cells ≤ rm.cells; omega) (by show 0 + rm.slots ≤ rm.slots; omega) dL_minutesOn_16
set_option maxRecDepth 100000 in
theorem kW_routeLength {l : Launch} {D : va_G} {dA : Nat → ClassId} {sa : String → Nat → Nat} {a : Nat → Nat} (hl : l.stackTraces = false) {rm : Room} {ao : Nat} {g : Nat → Int64} {x0 : Int32} {x1 : Int32} {o : Nat ⊕ Int32} {w0 w1 : va_W} (M : CXi l D dA sa yX7_routeLength (wz yX7_routeLength cX7_routeLength 3 (some .int)) rm (.ref (a 0) :: [.int x0, .int x1]) w0 o w1) (hk : ∀ k, o = .inl k → k ∈ ([1, 5] : List Nat)) (hrc : rcv w0 (a 0) RX7) : CPi l D dA sa ⟨"SwitchboardLaw", "routeLength", "(LSwitchboard;II[J)I"⟩ (wzW ⟨"SwitchboardLaw", "routeLength", "(LSwitchboard;II[J)I"⟩ method_16_code 5 (some .int) [(0, 10, 13, 19), (0, 10, 17, 58)]) (rmW rm 3) [.ref (a 0), .int x0, .int x1, .ref ao] (w0 ++ outW dA ao g) (wrP dA ao w1 [1, 5] cvI g o) := by
  refine xm_wi hl (by decide +kernel) (Nat.le_of_ble_eq_true rfl) rfl ?_
  intro p e s m args below meth c A Q hC htb hR
  show xv p l e (rmW rm 3) s m args below meth c D A 5 Q (w0 ++ outW dA ao g) 0 0 0 [(0, .ref (a 0)), (1, .int x0), (2, .int x1), (3, .ref ao)] []
  refine xv_aload_n (pc := 0) hC dL_routeLength_0 3 rfl rfl ?_
  refine xv_iconst (v := 0) (pc := 1) hC dL_routeLength_1 (by decide) ?_
  refine xv_aload_n (pc := 2) hC dL_routeLength_2 0 rfl rfl ?_
  refine xv_iload_n (pc := 3) hC dL_routeLength_3 1 rfl rfl ?_
  refine xv_iload_n (pc := 4) hC dL_routeLength_4 2 rfl rfl ?_
  refine xv_callVxi (As := [.int x0, .int x1]) (pc := 5) (pre := []) (w0 := w0) (post := outW dA ao g) (w1 := w1) (w2 := w1 ++ outW dA ao g) hC M fV_X7_routeLength wf_1196 hrc rfl ⟨Nat.le_refl _, Nat.le_refl _⟩ rfl (Nat.le_of_ble_eq_true rfl) dL_routeLength_5 ⟨by show 0 + rm.cells ≤ rm.cells; omega, by show 0 + rm.slots ≤ rm.slots; omega⟩ rfl rfl (fun k9 hk9 => ?_) (fun v hv => ?_)
  · have h9 := hk k9 hk9
    simp only [List.mem_cons, List.not_mem_nil, or_false] at h9
    rcases h9 with rfl | rfl
    · refine xvx_catch (E := "java/lang/IndexOutOfBoundsException") (hp := 13) hC [] (⟨0, 10, 13, 19⟩ : ExceptionTableEntry) [(⟨0, 10, 17, 58⟩ : ExceptionTableEntry)] (htb.trans rfl) (fun _ h => absurd h List.not_mem_nil) (by decide) rfl (by decide) wf_1081 rfl (fun q9 => ?_)
      refine xv_astore (pc := 13) (lv' := [(4, .ref q9), (0, .ref (a 0)), (1, .int x0), (2, .int x1), (3, .ref ao)]) hC dL_routeLength_13 (by decide) rfl ?_
      refine xv_iconst (v := nI 1) (pc := 15) hC dL_routeLength_15 (by decide) ?_
      exact hR _ _ _ _ _ _ (Or.inl ⟨1, hk9, by decide, rfl⟩) (by show 0 + rm.cells ≤ rm.cells; omega) (by show 0 + rm.slots ≤ rm.slots; omega) dL_routeLength_16
    · refine xvx_catch (E := "java/util/NoSuchElementException") (hp := 17) hC [(⟨0, 10, 13, 19⟩ : ExceptionTableEntry)] (⟨0, 10, 17, 58⟩ : ExceptionTableEntry) [] (htb.trans rfl) (List.forall_mem_cons.mpr ⟨Or.inr ⟨by decide, "java/lang/IndexOutOfBoundsException", wf_1081, by decide, by decide⟩, (fun _ h => absurd h List.not_mem_nil)⟩) (by decide) rfl (by decide) wf_1165 rfl (fun q9 => ?_)
      refine xv_astore (pc := 17) (lv' := [(4, .ref q9), (0, .ref (a 0)), (1, .int x0), (2, .int x1), (3, .ref ao)]) hC dL_routeLength_17 (by decide) rfl ?_
      refine xv_iconst (v := nI 2) (pc := 19) hC dL_routeLength_19 (by decide) ?_
      exact hR _ _ _ _ _ _ (Or.inl ⟨5, hk9, by decide, rfl⟩) (by show 0 + rm.cells ≤ rm.cells; omega) (by show 0 + rm.slots ≤ rm.slots; omega) dL_routeLength_20
  · skip
    refine xv_i2l (pc := 8) hC dL_routeLength_8 ?_
    refine xv_out (pc := 9) hC dL_routeLength_9 ?_
    refine xv_goto (tgt := 21) (pc := 10) hC dL_routeLength_10 (by decide) ?_
    refine xv_iconst (v := 0) (pc := 21) hC dL_routeLength_21 (by decide) ?_
    exact hR _ _ _ _ _ _ (Or.inr ⟨v, _, hv, rfl, rfl, rfl⟩) (by show 0 + rm.cells ≤ rm.cells; omega) (by show 0 + rm.slots ≤ rm.slots; omega) dL_routeLength_22
set_option maxRecDepth 100000 in
theorem kW_routeLengthByRelaxation {l : Launch} {D : va_G} {dA : Nat → ClassId} {sa : String → Nat → Nat} {a : Nat → Nat} (hl : l.stackTraces = false) {rm : Room} {ao : Nat} {g : Nat → Int64} {x0 : Int32} {x1 : Int32} {o : Nat ⊕ Int32} {w0 w1 : va_W} (M : CXi l D dA sa yX7_routeLengthByRelaxation (wz yX7_routeLengthByRelaxation cX7_routeLengthByRelaxation 3 (some .int)) rm (.ref (a 0) :: [.int x0, .int x1]) w0 o w1) (hk : ∀ k, o = .inl k → k ∈ ([1, 5] : List Nat)) (hrc : rcv w0 (a 0) RX7) : CPi l D dA sa ⟨"SwitchboardLaw", "routeLengthByRelaxation", "(LSwitchboard;II[J)I"⟩ (wzW ⟨"SwitchboardLaw", "routeLengthByRelaxation", "(LSwitchboard;II[J)I"⟩ method_17_code 5 (some .int) [(0, 10, 13, 19), (0, 10, 17, 58)]) (rmW rm 3) [.ref (a 0), .int x0, .int x1, .ref ao] (w0 ++ outW dA ao g) (wrP dA ao w1 [1, 5] cvI g o) := by
  refine xm_wi hl (by decide +kernel) (Nat.le_of_ble_eq_true rfl) rfl ?_
  intro p e s m args below meth c A Q hC htb hR
  show xv p l e (rmW rm 3) s m args below meth c D A 5 Q (w0 ++ outW dA ao g) 0 0 0 [(0, .ref (a 0)), (1, .int x0), (2, .int x1), (3, .ref ao)] []
  refine xv_aload_n (pc := 0) hC dL_routeLengthByRelaxation_0 3 rfl rfl ?_
  refine xv_iconst (v := 0) (pc := 1) hC dL_routeLengthByRelaxation_1 (by decide) ?_
  refine xv_aload_n (pc := 2) hC dL_routeLengthByRelaxation_2 0 rfl rfl ?_
  refine xv_iload_n (pc := 3) hC dL_routeLengthByRelaxation_3 1 rfl rfl ?_
  refine xv_iload_n (pc := 4) hC dL_routeLengthByRelaxation_4 2 rfl rfl ?_
  refine xv_callVxi (As := [.int x0, .int x1]) (pc := 5) (pre := []) (w0 := w0) (post := outW dA ao g) (w1 := w1) (w2 := w1 ++ outW dA ao g) hC M fV_X7_routeLengthByRelaxation wf_1213 hrc rfl ⟨Nat.le_refl _, Nat.le_refl _⟩ rfl (Nat.le_of_ble_eq_true rfl) dL_routeLengthByRelaxation_5 ⟨by show 0 + rm.cells ≤ rm.cells; omega, by show 0 + rm.slots ≤ rm.slots; omega⟩ rfl rfl (fun k9 hk9 => ?_) (fun v hv => ?_)
  · have h9 := hk k9 hk9
    simp only [List.mem_cons, List.not_mem_nil, or_false] at h9
    rcases h9 with rfl | rfl
    · refine xvx_catch (E := "java/lang/IndexOutOfBoundsException") (hp := 13) hC [] (⟨0, 10, 13, 19⟩ : ExceptionTableEntry) [(⟨0, 10, 17, 58⟩ : ExceptionTableEntry)] (htb.trans rfl) (fun _ h => absurd h List.not_mem_nil) (by decide) rfl (by decide) wf_1081 rfl (fun q9 => ?_)
      refine xv_astore (pc := 13) (lv' := [(4, .ref q9), (0, .ref (a 0)), (1, .int x0), (2, .int x1), (3, .ref ao)]) hC dL_routeLengthByRelaxation_13 (by decide) rfl ?_
      refine xv_iconst (v := nI 1) (pc := 15) hC dL_routeLengthByRelaxation_15 (by decide) ?_
      exact hR _ _ _ _ _ _ (Or.inl ⟨1, hk9, by decide, rfl⟩) (by show 0 + rm.cells ≤ rm.cells; omega) (by show 0 + rm.slots ≤ rm.slots; omega) dL_routeLengthByRelaxation_16
    · refine xvx_catch (E := "java/util/NoSuchElementException") (hp := 17) hC [(⟨0, 10, 13, 19⟩ : ExceptionTableEntry)] (⟨0, 10, 17, 58⟩ : ExceptionTableEntry) [] (htb.trans rfl) (List.forall_mem_cons.mpr ⟨Or.inr ⟨by decide, "java/lang/IndexOutOfBoundsException", wf_1081, by decide, by decide⟩, (fun _ h => absurd h List.not_mem_nil)⟩) (by decide) rfl (by decide) wf_1165 rfl (fun q9 => ?_)
      refine xv_astore (pc := 17) (lv' := [(4, .ref q9), (0, .ref (a 0)), (1, .int x0), (2, .int x1), (3, .ref ao)]) hC dL_routeLengthByRelaxation_17 (by decide) rfl ?_
      refine xv_iconst (v := nI 2) (pc := 19) hC dL_routeLengthByRelaxation_19 (by decide) ?_
      exact hR _ _ _ _ _ _ (Or.inl ⟨5, hk9, by decide, rfl⟩) (by show 0 + rm.cells ≤ rm.cells; omega) (by show 0 + rm.slots ≤ rm.slots; omega) dL_routeLengthByRelaxation_20
  · skip
    refine xv_i2l (pc := 8) hC dL_routeLengthByRelaxation_8 ?_
    refine xv_out (pc := 9) hC dL_routeLengthByRelaxation_9 ?_
    refine xv_goto (tgt := 21) (pc := 10) hC dL_routeLengthByRelaxation_10 (by decide) ?_
    refine xv_iconst (v := 0) (pc := 21) hC dL_routeLengthByRelaxation_21 (by decide) ?_
    exact hR _ _ _ _ _ _ (Or.inr ⟨v, _, hv, rfl, rfl, rfl⟩) (by show 0 + rm.cells ≤ rm.cells; omega) (by show 0 + rm.slots ≤ rm.slots; omega) dL_routeLengthByRelaxation_22
set_option maxRecDepth 100000 in
theorem kW_disjointRoutes {l : Launch} {D : va_G} {dA : Nat → ClassId} {sa : String → Nat → Nat} {a : Nat → Nat} (hl : l.stackTraces = false) {rm : Room} {ao : Nat} {g : Nat → Int64} {x0 : Int32} {x1 : Int32} {o : Nat ⊕ Int32} {w0 w1 : va_W} (M : CXi l D dA sa yX7_disjointRoutes (wz yX7_disjointRoutes cX7_disjointRoutes 3 (some .int)) rm (.ref (a 0) :: [.int x0, .int x1]) w0 o w1) (hk : ∀ k, o = .inl k → k ∈ ([1, 2] : List Nat)) (hrc : rcv w0 (a 0) RX7) : CPi l D dA sa ⟨"SwitchboardLaw", "disjointRoutes", "(LSwitchboard;II[J)I"⟩ (wzW ⟨"SwitchboardLaw", "disjointRoutes", "(LSwitchboard;II[J)I"⟩ method_18_code 5 (some .int) [(0, 10, 13, 19), (0, 10, 17, 21)]) (rmW rm 3) [.ref (a 0), .int x0, .int x1, .ref ao] (w0 ++ outW dA ao g) (wrP dA ao w1 [1, 2] cvI g o) := by
  refine xm_wi hl (by decide +kernel) (Nat.le_of_ble_eq_true rfl) rfl ?_
  intro p e s m args below meth c A Q hC htb hR
  show xv p l e (rmW rm 3) s m args below meth c D A 5 Q (w0 ++ outW dA ao g) 0 0 0 [(0, .ref (a 0)), (1, .int x0), (2, .int x1), (3, .ref ao)] []
  refine xv_aload_n (pc := 0) hC dL_disjointRoutes_0 3 rfl rfl ?_
  refine xv_iconst (v := 0) (pc := 1) hC dL_disjointRoutes_1 (by decide) ?_
  refine xv_aload_n (pc := 2) hC dL_disjointRoutes_2 0 rfl rfl ?_
  refine xv_iload_n (pc := 3) hC dL_disjointRoutes_3 1 rfl rfl ?_
  refine xv_iload_n (pc := 4) hC dL_disjointRoutes_4 2 rfl rfl ?_
  refine xv_callVxi (As := [.int x0, .int x1]) (pc := 5) (pre := []) (w0 := w0) (post := outW dA ao g) (w1 := w1) (w2 := w1 ++ outW dA ao g) hC M fV_X7_disjointRoutes wf_1221 hrc rfl ⟨Nat.le_refl _, Nat.le_refl _⟩ rfl (Nat.le_of_ble_eq_true rfl) dL_disjointRoutes_5 ⟨by show 0 + rm.cells ≤ rm.cells; omega, by show 0 + rm.slots ≤ rm.slots; omega⟩ rfl rfl (fun k9 hk9 => ?_) (fun v hv => ?_)
  · have h9 := hk k9 hk9
    simp only [List.mem_cons, List.not_mem_nil, or_false] at h9
    rcases h9 with rfl | rfl
    · refine xvx_catch (E := "java/lang/IndexOutOfBoundsException") (hp := 13) hC [] (⟨0, 10, 13, 19⟩ : ExceptionTableEntry) [(⟨0, 10, 17, 21⟩ : ExceptionTableEntry)] (htb.trans rfl) (fun _ h => absurd h List.not_mem_nil) (by decide) rfl (by decide) wf_1081 rfl (fun q9 => ?_)
      refine xv_astore (pc := 13) (lv' := [(4, .ref q9), (0, .ref (a 0)), (1, .int x0), (2, .int x1), (3, .ref ao)]) hC dL_disjointRoutes_13 (by decide) rfl ?_
      refine xv_iconst (v := nI 1) (pc := 15) hC dL_disjointRoutes_15 (by decide) ?_
      exact hR _ _ _ _ _ _ (Or.inl ⟨1, hk9, by decide, rfl⟩) (by show 0 + rm.cells ≤ rm.cells; omega) (by show 0 + rm.slots ≤ rm.slots; omega) dL_disjointRoutes_16
    · refine xvx_catch (E := "java/lang/IllegalArgumentException") (hp := 17) hC [(⟨0, 10, 13, 19⟩ : ExceptionTableEntry)] (⟨0, 10, 17, 21⟩ : ExceptionTableEntry) [] (htb.trans rfl) (List.forall_mem_cons.mpr ⟨Or.inr ⟨by decide, "java/lang/IndexOutOfBoundsException", wf_1081, by decide, by decide⟩, (fun _ h => absurd h List.not_mem_nil)⟩) (by decide) rfl (by decide) wf_1084 rfl (fun q9 => ?_)
      refine xv_astore (pc := 17) (lv' := [(4, .ref q9), (0, .ref (a 0)), (1, .int x0), (2, .int x1), (3, .ref ao)]) hC dL_disjointRoutes_17 (by decide) rfl ?_
      refine xv_iconst (v := nI 2) (pc := 19) hC dL_disjointRoutes_19 (by decide) ?_
      exact hR _ _ _ _ _ _ (Or.inl ⟨2, hk9, by decide, rfl⟩) (by show 0 + rm.cells ≤ rm.cells; omega) (by show 0 + rm.slots ≤ rm.slots; omega) dL_disjointRoutes_20
  · skip
    refine xv_i2l (pc := 8) hC dL_disjointRoutes_8 ?_
    refine xv_out (pc := 9) hC dL_disjointRoutes_9 ?_
    refine xv_goto (tgt := 21) (pc := 10) hC dL_disjointRoutes_10 (by decide) ?_
    refine xv_iconst (v := 0) (pc := 21) hC dL_disjointRoutes_21 (by decide) ?_
    exact hR _ _ _ _ _ _ (Or.inr ⟨v, _, hv, rfl, rfl, rfl⟩) (by show 0 + rm.cells ≤ rm.cells; omega) (by show 0 + rm.slots ≤ rm.slots; omega) dL_disjointRoutes_22
set_option maxRecDepth 100000 in
theorem kW_minimalCut {l : Launch} {D : va_G} {dA : Nat → ClassId} {sa : String → Nat → Nat} {a : Nat → Nat} (hl : l.stackTraces = false) {rm : Room} {ao : Nat} {g : Nat → Int64} {x0 : Int32} {x1 : Int32} {o : Nat ⊕ Int32} {w0 w1 : va_W} (M : CXi l D dA sa yX7_minimalCut (wz yX7_minimalCut cX7_minimalCut 3 (some .int)) rm (.ref (a 0) :: [.int x0, .int x1]) w0 o w1) (hk : ∀ k, o = .inl k → k ∈ ([1, 2] : List Nat)) (hrc : rcv w0 (a 0) RX7) : CPi l D dA sa ⟨"SwitchboardLaw", "minimalCut", "(LSwitchboard;II[J)I"⟩ (wzW ⟨"SwitchboardLaw", "minimalCut", "(LSwitchboard;II[J)I"⟩ method_19_code 5 (some .int) [(0, 10, 13, 19), (0, 10, 17, 21)]) (rmW rm 3) [.ref (a 0), .int x0, .int x1, .ref ao] (w0 ++ outW dA ao g) (wrP dA ao w1 [1, 2] cvI g o) := by
  refine xm_wi hl (by decide +kernel) (Nat.le_of_ble_eq_true rfl) rfl ?_
  intro p e s m args below meth c A Q hC htb hR
  show xv p l e (rmW rm 3) s m args below meth c D A 5 Q (w0 ++ outW dA ao g) 0 0 0 [(0, .ref (a 0)), (1, .int x0), (2, .int x1), (3, .ref ao)] []
  refine xv_aload_n (pc := 0) hC dL_minimalCut_0 3 rfl rfl ?_
  refine xv_iconst (v := 0) (pc := 1) hC dL_minimalCut_1 (by decide) ?_
  refine xv_aload_n (pc := 2) hC dL_minimalCut_2 0 rfl rfl ?_
  refine xv_iload_n (pc := 3) hC dL_minimalCut_3 1 rfl rfl ?_
  refine xv_iload_n (pc := 4) hC dL_minimalCut_4 2 rfl rfl ?_
  refine xv_callVxi (As := [.int x0, .int x1]) (pc := 5) (pre := []) (w0 := w0) (post := outW dA ao g) (w1 := w1) (w2 := w1 ++ outW dA ao g) hC M fV_X7_minimalCut wf_1233 hrc rfl ⟨Nat.le_refl _, Nat.le_refl _⟩ rfl (Nat.le_of_ble_eq_true rfl) dL_minimalCut_5 ⟨by show 0 + rm.cells ≤ rm.cells; omega, by show 0 + rm.slots ≤ rm.slots; omega⟩ rfl rfl (fun k9 hk9 => ?_) (fun v hv => ?_)
  · have h9 := hk k9 hk9
    simp only [List.mem_cons, List.not_mem_nil, or_false] at h9
    rcases h9 with rfl | rfl
    · refine xvx_catch (E := "java/lang/IndexOutOfBoundsException") (hp := 13) hC [] (⟨0, 10, 13, 19⟩ : ExceptionTableEntry) [(⟨0, 10, 17, 21⟩ : ExceptionTableEntry)] (htb.trans rfl) (fun _ h => absurd h List.not_mem_nil) (by decide) rfl (by decide) wf_1081 rfl (fun q9 => ?_)
      refine xv_astore (pc := 13) (lv' := [(4, .ref q9), (0, .ref (a 0)), (1, .int x0), (2, .int x1), (3, .ref ao)]) hC dL_minimalCut_13 (by decide) rfl ?_
      refine xv_iconst (v := nI 1) (pc := 15) hC dL_minimalCut_15 (by decide) ?_
      exact hR _ _ _ _ _ _ (Or.inl ⟨1, hk9, by decide, rfl⟩) (by show 0 + rm.cells ≤ rm.cells; omega) (by show 0 + rm.slots ≤ rm.slots; omega) dL_minimalCut_16
    · refine xvx_catch (E := "java/lang/IllegalArgumentException") (hp := 17) hC [(⟨0, 10, 13, 19⟩ : ExceptionTableEntry)] (⟨0, 10, 17, 21⟩ : ExceptionTableEntry) [] (htb.trans rfl) (List.forall_mem_cons.mpr ⟨Or.inr ⟨by decide, "java/lang/IndexOutOfBoundsException", wf_1081, by decide, by decide⟩, (fun _ h => absurd h List.not_mem_nil)⟩) (by decide) rfl (by decide) wf_1084 rfl (fun q9 => ?_)
      refine xv_astore (pc := 17) (lv' := [(4, .ref q9), (0, .ref (a 0)), (1, .int x0), (2, .int x1), (3, .ref ao)]) hC dL_minimalCut_17 (by decide) rfl ?_
      refine xv_iconst (v := nI 2) (pc := 19) hC dL_minimalCut_19 (by decide) ?_
      exact hR _ _ _ _ _ _ (Or.inl ⟨2, hk9, by decide, rfl⟩) (by show 0 + rm.cells ≤ rm.cells; omega) (by show 0 + rm.slots ≤ rm.slots; omega) dL_minimalCut_20
  · skip
    refine xv_i2l (pc := 8) hC dL_minimalCut_8 ?_
    refine xv_out (pc := 9) hC dL_minimalCut_9 ?_
    refine xv_goto (tgt := 21) (pc := 10) hC dL_minimalCut_10 (by decide) ?_
    refine xv_iconst (v := 0) (pc := 21) hC dL_minimalCut_21 (by decide) ?_
    exact hR _ _ _ _ _ _ (Or.inr ⟨v, _, hv, rfl, rfl, rfl⟩) (by show 0 + rm.cells ≤ rm.cells; omega) (by show 0 + rm.slots ≤ rm.slots; omega) dL_minimalCut_22
set_option maxRecDepth 100000 in
theorem kW_home {l : Launch} {D : va_G} {dA : Nat → ClassId} {sa : String → Nat → Nat} {a : Nat → Nat} (hl : l.stackTraces = false) {rm : Room} {ao : Nat} {g : Nat → Int64} {x0 : Int32} {o : Nat ⊕ Int32} {w0 w1 : va_W} (M : CXi l D dA sa yX7_home (wz yX7_home cX7_home 2 (some .int)) rm (.ref (a 0) :: [.int x0]) w0 o w1) (hk : ∀ k, o = .inl k → k ∈ ([1] : List Nat)) (hrc : rcv w0 (a 0) RX7) : CPi l D dA sa ⟨"SwitchboardLaw", "home", "(LSwitchboard;I[J)I"⟩ (wzW ⟨"SwitchboardLaw", "home", "(LSwitchboard;I[J)I"⟩ method_20_code 4 (some .int) [(0, 9, 12, 19)]) (rmW rm 2) [.ref (a 0), .int x0, .ref ao] (w0 ++ outW dA ao g) (wrP dA ao w1 [1] cvI g o) := by
  refine xm_wi hl (by decide +kernel) (Nat.le_of_ble_eq_true rfl) rfl ?_
  intro p e s m args below meth c A Q hC htb hR
  show xv p l e (rmW rm 2) s m args below meth c D A 4 Q (w0 ++ outW dA ao g) 0 0 0 [(0, .ref (a 0)), (1, .int x0), (2, .ref ao)] []
  refine xv_aload_n (pc := 0) hC dL_home_0 2 rfl rfl ?_
  refine xv_iconst (v := 0) (pc := 1) hC dL_home_1 (by decide) ?_
  refine xv_aload_n (pc := 2) hC dL_home_2 0 rfl rfl ?_
  refine xv_iload_n (pc := 3) hC dL_home_3 1 rfl rfl ?_
  refine xv_callVxi (As := [.int x0]) (pc := 4) (pre := []) (w0 := w0) (post := outW dA ao g) (w1 := w1) (w2 := w1 ++ outW dA ao g) hC M fV_X7_home wf_1241 hrc rfl ⟨Nat.le_refl _, Nat.le_refl _⟩ rfl (Nat.le_of_ble_eq_true rfl) dL_home_4 ⟨by show 0 + rm.cells ≤ rm.cells; omega, by show 0 + rm.slots ≤ rm.slots; omega⟩ rfl rfl (fun k9 hk9 => ?_) (fun v hv => ?_)
  · have h9 := hk k9 hk9
    simp only [List.mem_cons, List.not_mem_nil, or_false] at h9
    rcases h9 with rfl
    · refine xvx_catch (E := "java/lang/IndexOutOfBoundsException") (hp := 12) hC [] (⟨0, 9, 12, 19⟩ : ExceptionTableEntry) [] (htb.trans rfl) (fun _ h => absurd h List.not_mem_nil) (by decide) rfl (by decide) wf_1081 rfl (fun q9 => ?_)
      refine xv_astore_n (pc := 12) (lv' := [(3, .ref q9), (0, .ref (a 0)), (1, .int x0), (2, .ref ao)]) hC dL_home_12 rfl (by decide) rfl ?_
      refine xv_iconst (v := nI 1) (pc := 13) hC dL_home_13 (by decide) ?_
      exact hR _ _ _ _ _ _ (Or.inl ⟨1, hk9, by decide, rfl⟩) (by show 0 + rm.cells ≤ rm.cells; omega) (by show 0 + rm.slots ≤ rm.slots; omega) dL_home_14
  · skip
    refine xv_i2l (pc := 7) hC dL_home_7 ?_
    refine xv_out (pc := 8) hC dL_home_8 ?_
    refine xv_goto (tgt := 15) (pc := 9) hC dL_home_9 (by decide) ?_
    refine xv_iconst (v := 0) (pc := 15) hC dL_home_15 (by decide) ?_
    exact hR _ _ _ _ _ _ (Or.inr ⟨v, _, hv, rfl, rfl, rfl⟩) (by show 0 + rm.cells ≤ rm.cells; omega) (by show 0 + rm.slots ≤ rm.slots; omega) dL_home_16
set_option maxRecDepth 100000 in
theorem kW_tariff {l : Launch} {D : va_G} {dA : Nat → ClassId} {sa : String → Nat → Nat} {a : Nat → Nat} (hl : l.stackTraces = false) {rm : Room} {ao : Nat} {g : Nat → Int64} {x0 : Int32} {o : Nat ⊕ Int32} {w0 w1 : va_W} (M : CXi l D dA sa yX7_tariff (wz yX7_tariff cX7_tariff 2 (some .int)) rm (.ref (a 0) :: [.int x0]) w0 o w1) (hk : ∀ k, o = .inl k → k ∈ ([1] : List Nat)) (hrc : rcv w0 (a 0) RX7) : CPi l D dA sa ⟨"SwitchboardLaw", "tariff", "(LSwitchboard;I[J)I"⟩ (wzW ⟨"SwitchboardLaw", "tariff", "(LSwitchboard;I[J)I"⟩ method_21_code 4 (some .int) [(0, 9, 12, 19)]) (rmW rm 2) [.ref (a 0), .int x0, .ref ao] (w0 ++ outW dA ao g) (wrP dA ao w1 [1] cvI g o) := by
  refine xm_wi hl (by decide +kernel) (Nat.le_of_ble_eq_true rfl) rfl ?_
  intro p e s m args below meth c A Q hC htb hR
  show xv p l e (rmW rm 2) s m args below meth c D A 4 Q (w0 ++ outW dA ao g) 0 0 0 [(0, .ref (a 0)), (1, .int x0), (2, .ref ao)] []
  refine xv_aload_n (pc := 0) hC dL_tariff_0 2 rfl rfl ?_
  refine xv_iconst (v := 0) (pc := 1) hC dL_tariff_1 (by decide) ?_
  refine xv_aload_n (pc := 2) hC dL_tariff_2 0 rfl rfl ?_
  refine xv_iload_n (pc := 3) hC dL_tariff_3 1 rfl rfl ?_
  refine xv_callVxi (As := [.int x0]) (pc := 4) (pre := []) (w0 := w0) (post := outW dA ao g) (w1 := w1) (w2 := w1 ++ outW dA ao g) hC M fV_X7_tariff wf_1253 hrc rfl ⟨Nat.le_refl _, Nat.le_refl _⟩ rfl (Nat.le_of_ble_eq_true rfl) dL_tariff_4 ⟨by show 0 + rm.cells ≤ rm.cells; omega, by show 0 + rm.slots ≤ rm.slots; omega⟩ rfl rfl (fun k9 hk9 => ?_) (fun v hv => ?_)
  · have h9 := hk k9 hk9
    simp only [List.mem_cons, List.not_mem_nil, or_false] at h9
    rcases h9 with rfl
    · refine xvx_catch (E := "java/lang/IndexOutOfBoundsException") (hp := 12) hC [] (⟨0, 9, 12, 19⟩ : ExceptionTableEntry) [] (htb.trans rfl) (fun _ h => absurd h List.not_mem_nil) (by decide) rfl (by decide) wf_1081 rfl (fun q9 => ?_)
      refine xv_astore_n (pc := 12) (lv' := [(3, .ref q9), (0, .ref (a 0)), (1, .int x0), (2, .ref ao)]) hC dL_tariff_12 rfl (by decide) rfl ?_
      refine xv_iconst (v := nI 1) (pc := 13) hC dL_tariff_13 (by decide) ?_
      exact hR _ _ _ _ _ _ (Or.inl ⟨1, hk9, by decide, rfl⟩) (by show 0 + rm.cells ≤ rm.cells; omega) (by show 0 + rm.slots ≤ rm.slots; omega) dL_tariff_14
  · skip
    refine xv_i2l (pc := 7) hC dL_tariff_7 ?_
    refine xv_out (pc := 8) hC dL_tariff_8 ?_
    refine xv_goto (tgt := 15) (pc := 9) hC dL_tariff_9 (by decide) ?_
    refine xv_iconst (v := 0) (pc := 15) hC dL_tariff_15 (by decide) ?_
    exact hR _ _ _ _ _ _ (Or.inr ⟨v, _, hv, rfl, rfl, rfl⟩) (by show 0 + rm.cells ≤ rm.cells; omega) (by show 0 + rm.slots ≤ rm.slots; omega) dL_tariff_16
set_option maxRecDepth 100000 in
theorem kW_bill {l : Launch} {D : va_G} {dA : Nat → ClassId} {sa : String → Nat → Nat} {a : Nat → Nat} (hl : l.stackTraces = false) {rm : Room} {ao : Nat} {g : Nat → Int64} {x0 : Int32} {o : Nat ⊕ Int32} {w0 w1 : va_W} (M : CXi l D dA sa yX7_bill (wz yX7_bill cX7_bill 2 (some .int)) rm (.ref (a 0) :: [.int x0]) w0 o w1) (hk : ∀ k, o = .inl k → k ∈ ([1] : List Nat)) (hrc : rcv w0 (a 0) RX7) : CPi l D dA sa ⟨"SwitchboardLaw", "bill", "(LSwitchboard;I[J)I"⟩ (wzW ⟨"SwitchboardLaw", "bill", "(LSwitchboard;I[J)I"⟩ method_22_code 4 (some .int) [(0, 9, 12, 19)]) (rmW rm 2) [.ref (a 0), .int x0, .ref ao] (w0 ++ outW dA ao g) (wrP dA ao w1 [1] cvI g o) := by
  refine xm_wi hl (by decide +kernel) (Nat.le_of_ble_eq_true rfl) rfl ?_
  intro p e s m args below meth c A Q hC htb hR
  show xv p l e (rmW rm 2) s m args below meth c D A 4 Q (w0 ++ outW dA ao g) 0 0 0 [(0, .ref (a 0)), (1, .int x0), (2, .ref ao)] []
  refine xv_aload_n (pc := 0) hC dL_bill_0 2 rfl rfl ?_
  refine xv_iconst (v := 0) (pc := 1) hC dL_bill_1 (by decide) ?_
  refine xv_aload_n (pc := 2) hC dL_bill_2 0 rfl rfl ?_
  refine xv_iload_n (pc := 3) hC dL_bill_3 1 rfl rfl ?_
  refine xv_callVxi (As := [.int x0]) (pc := 4) (pre := []) (w0 := w0) (post := outW dA ao g) (w1 := w1) (w2 := w1 ++ outW dA ao g) hC M fV_X7_bill wf_1260 hrc rfl ⟨Nat.le_refl _, Nat.le_refl _⟩ rfl (Nat.le_of_ble_eq_true rfl) dL_bill_4 ⟨by show 0 + rm.cells ≤ rm.cells; omega, by show 0 + rm.slots ≤ rm.slots; omega⟩ rfl rfl (fun k9 hk9 => ?_) (fun v hv => ?_)
  · have h9 := hk k9 hk9
    simp only [List.mem_cons, List.not_mem_nil, or_false] at h9
    rcases h9 with rfl
    · refine xvx_catch (E := "java/lang/IndexOutOfBoundsException") (hp := 12) hC [] (⟨0, 9, 12, 19⟩ : ExceptionTableEntry) [] (htb.trans rfl) (fun _ h => absurd h List.not_mem_nil) (by decide) rfl (by decide) wf_1081 rfl (fun q9 => ?_)
      refine xv_astore_n (pc := 12) (lv' := [(3, .ref q9), (0, .ref (a 0)), (1, .int x0), (2, .ref ao)]) hC dL_bill_12 rfl (by decide) rfl ?_
      refine xv_iconst (v := nI 1) (pc := 13) hC dL_bill_13 (by decide) ?_
      exact hR _ _ _ _ _ _ (Or.inl ⟨1, hk9, by decide, rfl⟩) (by show 0 + rm.cells ≤ rm.cells; omega) (by show 0 + rm.slots ≤ rm.slots; omega) dL_bill_14
  · skip
    refine xv_i2l (pc := 7) hC dL_bill_7 ?_
    refine xv_out (pc := 8) hC dL_bill_8 ?_
    refine xv_goto (tgt := 15) (pc := 9) hC dL_bill_9 (by decide) ?_
    refine xv_iconst (v := 0) (pc := 15) hC dL_bill_15 (by decide) ?_
    exact hR _ _ _ _ _ _ (Or.inr ⟨v, _, hv, rfl, rfl, rfl⟩) (by show 0 + rm.cells ≤ rm.cells; omega) (by show 0 + rm.slots ≤ rm.slots; omega) dL_bill_16
set_option maxRecDepth 100000 in
theorem kW_isTalking {l : Launch} {D : va_G} {dA : Nat → ClassId} {sa : String → Nat → Nat} {a : Nat → Nat} (hl : l.stackTraces = false) {rm : Room} {ao : Nat} {g : Nat → Int64} {x0 : Int32} {o : Nat ⊕ Int32} {w0 w1 : va_W} (M : CXi l D dA sa yX7_isTalking (wz yX7_isTalking cX7_isTalking 2 (some .boolean)) rm (.ref (a 0) :: [.int x0]) w0 o w1) (hk : ∀ k, o = .inl k → k ∈ ([1] : List Nat)) (hrc : rcv w0 (a 0) RX7) : CPi l D dA sa ⟨"SwitchboardLaw", "isTalking", "(LSwitchboard;I[J)I"⟩ (wzW ⟨"SwitchboardLaw", "isTalking", "(LSwitchboard;I[J)I"⟩ method_23_code 4 (some .int) [(0, 16, 19, 19)]) (rmW rm 2) [.ref (a 0), .int x0, .ref ao] (w0 ++ outW dA ao g) (wrP dA ao w1 [1] cvB g o) := by
  refine xm_wi hl (by decide +kernel) (Nat.le_of_ble_eq_true rfl) rfl ?_
  intro p e s m args below meth c A Q hC htb hR
  show xv p l e (rmW rm 2) s m args below meth c D A 4 Q (w0 ++ outW dA ao g) 0 0 0 [(0, .ref (a 0)), (1, .int x0), (2, .ref ao)] []
  refine xv_aload_n (pc := 0) hC dL_isTalking_0 2 rfl rfl ?_
  refine xv_iconst (v := 0) (pc := 1) hC dL_isTalking_1 (by decide) ?_
  refine xv_aload_n (pc := 2) hC dL_isTalking_2 0 rfl rfl ?_
  refine xv_iload_n (pc := 3) hC dL_isTalking_3 1 rfl rfl ?_
  refine xv_callVxi (As := [.int x0]) (pc := 4) (pre := []) (w0 := w0) (post := outW dA ao g) (w1 := w1) (w2 := w1 ++ outW dA ao g) hC M fV_X7_isTalking wf_1267 hrc rfl ⟨Nat.le_refl _, Nat.le_refl _⟩ rfl (Nat.le_of_ble_eq_true rfl) dL_isTalking_4 ⟨by show 0 + rm.cells ≤ rm.cells; omega, by show 0 + rm.slots ≤ rm.slots; omega⟩ rfl rfl (fun k9 hk9 => ?_) (fun v hv => ?_)
  · have h9 := hk k9 hk9
    simp only [List.mem_cons, List.not_mem_nil, or_false] at h9
    rcases h9 with rfl
    · refine xvx_catch (E := "java/lang/IndexOutOfBoundsException") (hp := 19) hC [] (⟨0, 16, 19, 19⟩ : ExceptionTableEntry) [] (htb.trans rfl) (fun _ h => absurd h List.not_mem_nil) (by decide) rfl (by decide) wf_1081 rfl (fun q9 => ?_)
      refine xv_astore_n (pc := 19) (lv' := [(3, .ref q9), (0, .ref (a 0)), (1, .int x0), (2, .ref ao)]) hC dL_isTalking_19 rfl (by decide) rfl ?_
      refine xv_iconst (v := nI 1) (pc := 20) hC dL_isTalking_20 (by decide) ?_
      exact hR _ _ _ _ _ _ (Or.inl ⟨1, hk9, by decide, rfl⟩) (by show 0 + rm.cells ≤ rm.cells; omega) (by show 0 + rm.slots ≤ rm.slots; omega) dL_isTalking_21
  · skip
    refine xv_if_eq (tgt := 14) (pc := 7) hC dL_isTalking_7 (by decide) (fun c9 => ?_) (fun c9 => ?_)
    · refine xv_lconst (v := 0) (pc := 14) hC dL_isTalking_14 (by decide) ?_
      refine xv_out (pc := 15) hC dL_isTalking_15 ?_
      refine xv_goto (tgt := 22) (pc := 16) hC dL_isTalking_16 (by decide) ?_
      refine xv_iconst (v := 0) (pc := 22) hC dL_isTalking_22 (by decide) ?_
      exact hR _ _ _ _ _ _ (Or.inr ⟨v, _, hv, rfl, rfl, by unfold cvB; rw [if_pos c9]; rfl⟩) (by show 0 + rm.cells ≤ rm.cells; omega) (by show 0 + rm.slots ≤ rm.slots; omega) dL_isTalking_23
    · refine xv_lconst (v := 1) (pc := 10) hC dL_isTalking_10 (by decide) ?_
      refine xv_goto (tgt := 15) (pc := 11) hC dL_isTalking_11 (by decide) ?_
      refine xv_out (pc := 15) hC dL_isTalking_15 ?_
      refine xv_goto (tgt := 22) (pc := 16) hC dL_isTalking_16 (by decide) ?_
      refine xv_iconst (v := 0) (pc := 22) hC dL_isTalking_22 (by decide) ?_
      exact hR _ _ _ _ _ _ (Or.inr ⟨v, _, hv, rfl, rfl, by unfold cvB; rw [if_neg c9]; rfl⟩) (by show 0 + rm.cells ≤ rm.cells; omega) (by show 0 + rm.slots ≤ rm.slots; omega) dL_isTalking_23
set_option maxRecDepth 100000 in
theorem kW_partner {l : Launch} {D : va_G} {dA : Nat → ClassId} {sa : String → Nat → Nat} {a : Nat → Nat} (hl : l.stackTraces = false) {rm : Room} {ao : Nat} {g : Nat → Int64} {x0 : Int32} {o : Nat ⊕ Int32} {w0 w1 : va_W} (M : CXi l D dA sa yX7_partner (wz yX7_partner cX7_partner 3 (some .int)) rm (.ref (a 0) :: [.int x0]) w0 o w1) (hk : ∀ k, o = .inl k → k ∈ ([1, 5] : List Nat)) (hrc : rcv w0 (a 0) RX7) : CPi l D dA sa ⟨"SwitchboardLaw", "partner", "(LSwitchboard;I[J)I"⟩ (wzW ⟨"SwitchboardLaw", "partner", "(LSwitchboard;I[J)I"⟩ method_24_code 4 (some .int) [(0, 9, 12, 19), (0, 9, 15, 58)]) (rmW rm 3) [.ref (a 0), .int x0, .ref ao] (w0 ++ outW dA ao g) (wrP dA ao w1 [1, 5] cvI g o) := by
  refine xm_wi hl (by decide +kernel) (Nat.le_of_ble_eq_true rfl) rfl ?_
  intro p e s m args below meth c A Q hC htb hR
  show xv p l e (rmW rm 3) s m args below meth c D A 4 Q (w0 ++ outW dA ao g) 0 0 0 [(0, .ref (a 0)), (1, .int x0), (2, .ref ao)] []
  refine xv_aload_n (pc := 0) hC dL_partner_0 2 rfl rfl ?_
  refine xv_iconst (v := 0) (pc := 1) hC dL_partner_1 (by decide) ?_
  refine xv_aload_n (pc := 2) hC dL_partner_2 0 rfl rfl ?_
  refine xv_iload_n (pc := 3) hC dL_partner_3 1 rfl rfl ?_
  refine xv_callVxi (As := [.int x0]) (pc := 4) (pre := []) (w0 := w0) (post := outW dA ao g) (w1 := w1) (w2 := w1 ++ outW dA ao g) hC M fV_X7_partner wf_1274 hrc rfl ⟨Nat.le_refl _, Nat.le_refl _⟩ rfl (Nat.le_of_ble_eq_true rfl) dL_partner_4 ⟨by show 0 + rm.cells ≤ rm.cells; omega, by show 0 + rm.slots ≤ rm.slots; omega⟩ rfl rfl (fun k9 hk9 => ?_) (fun v hv => ?_)
  · have h9 := hk k9 hk9
    simp only [List.mem_cons, List.not_mem_nil, or_false] at h9
    rcases h9 with rfl | rfl
    · refine xvx_catch (E := "java/lang/IndexOutOfBoundsException") (hp := 12) hC [] (⟨0, 9, 12, 19⟩ : ExceptionTableEntry) [(⟨0, 9, 15, 58⟩ : ExceptionTableEntry)] (htb.trans rfl) (fun _ h => absurd h List.not_mem_nil) (by decide) rfl (by decide) wf_1081 rfl (fun q9 => ?_)
      refine xv_astore_n (pc := 12) (lv' := [(3, .ref q9), (0, .ref (a 0)), (1, .int x0), (2, .ref ao)]) hC dL_partner_12 rfl (by decide) rfl ?_
      refine xv_iconst (v := nI 1) (pc := 13) hC dL_partner_13 (by decide) ?_
      exact hR _ _ _ _ _ _ (Or.inl ⟨1, hk9, by decide, rfl⟩) (by show 0 + rm.cells ≤ rm.cells; omega) (by show 0 + rm.slots ≤ rm.slots; omega) dL_partner_14
    · refine xvx_catch (E := "java/util/NoSuchElementException") (hp := 15) hC [(⟨0, 9, 12, 19⟩ : ExceptionTableEntry)] (⟨0, 9, 15, 58⟩ : ExceptionTableEntry) [] (htb.trans rfl) (List.forall_mem_cons.mpr ⟨Or.inr ⟨by decide, "java/lang/IndexOutOfBoundsException", wf_1081, by decide, by decide⟩, (fun _ h => absurd h List.not_mem_nil)⟩) (by decide) rfl (by decide) wf_1165 rfl (fun q9 => ?_)
      refine xv_astore_n (pc := 15) (lv' := [(3, .ref q9), (0, .ref (a 0)), (1, .int x0), (2, .ref ao)]) hC dL_partner_15 rfl (by decide) rfl ?_
      refine xv_iconst (v := nI 2) (pc := 16) hC dL_partner_16 (by decide) ?_
      exact hR _ _ _ _ _ _ (Or.inl ⟨5, hk9, by decide, rfl⟩) (by show 0 + rm.cells ≤ rm.cells; omega) (by show 0 + rm.slots ≤ rm.slots; omega) dL_partner_17
  · skip
    refine xv_i2l (pc := 7) hC dL_partner_7 ?_
    refine xv_out (pc := 8) hC dL_partner_8 ?_
    refine xv_goto (tgt := 18) (pc := 9) hC dL_partner_9 (by decide) ?_
    refine xv_iconst (v := 0) (pc := 18) hC dL_partner_18 (by decide) ?_
    exact hR _ _ _ _ _ _ (Or.inr ⟨v, _, hv, rfl, rfl, rfl⟩) (by show 0 + rm.cells ≤ rm.cells; omega) (by show 0 + rm.slots ≤ rm.slots; omega) dL_partner_19
set_option maxRecDepth 100000 in
theorem kW_minutes {l : Launch} {D : va_G} {dA : Nat → ClassId} {sa : String → Nat → Nat} {a : Nat → Nat} (hl : l.stackTraces = false) {rm : Room} {ao : Nat} {g : Nat → Int64} {x0 : Int32} {o : Nat ⊕ Int32} {w0 w1 : va_W} (M : CXi l D dA sa yX7_minutes (wz yX7_minutes cX7_minutes 2 (some .int)) rm (.ref (a 0) :: [.int x0]) w0 o w1) (hk : ∀ k, o = .inl k → k ∈ ([1, 5] : List Nat)) (hrc : rcv w0 (a 0) RX7) : CPi l D dA sa ⟨"SwitchboardLaw", "minutes", "(LSwitchboard;I[J)I"⟩ (wzW ⟨"SwitchboardLaw", "minutes", "(LSwitchboard;I[J)I"⟩ method_25_code 4 (some .int) [(0, 9, 12, 19), (0, 9, 15, 58)]) (rmW rm 2) [.ref (a 0), .int x0, .ref ao] (w0 ++ outW dA ao g) (wrP dA ao w1 [1, 5] cvI g o) := by
  refine xm_wi hl (by decide +kernel) (Nat.le_of_ble_eq_true rfl) rfl ?_
  intro p e s m args below meth c A Q hC htb hR
  show xv p l e (rmW rm 2) s m args below meth c D A 4 Q (w0 ++ outW dA ao g) 0 0 0 [(0, .ref (a 0)), (1, .int x0), (2, .ref ao)] []
  refine xv_aload_n (pc := 0) hC dL_minutes_0 2 rfl rfl ?_
  refine xv_iconst (v := 0) (pc := 1) hC dL_minutes_1 (by decide) ?_
  refine xv_aload_n (pc := 2) hC dL_minutes_2 0 rfl rfl ?_
  refine xv_iload_n (pc := 3) hC dL_minutes_3 1 rfl rfl ?_
  refine xv_callVxi (As := [.int x0]) (pc := 4) (pre := []) (w0 := w0) (post := outW dA ao g) (w1 := w1) (w2 := w1 ++ outW dA ao g) hC M fV_X7_minutes wf_1286 hrc rfl ⟨Nat.le_refl _, Nat.le_refl _⟩ rfl (Nat.le_of_ble_eq_true rfl) dL_minutes_4 ⟨by show 0 + rm.cells ≤ rm.cells; omega, by show 0 + rm.slots ≤ rm.slots; omega⟩ rfl rfl (fun k9 hk9 => ?_) (fun v hv => ?_)
  · have h9 := hk k9 hk9
    simp only [List.mem_cons, List.not_mem_nil, or_false] at h9
    rcases h9 with rfl | rfl
    · refine xvx_catch (E := "java/lang/IndexOutOfBoundsException") (hp := 12) hC [] (⟨0, 9, 12, 19⟩ : ExceptionTableEntry) [(⟨0, 9, 15, 58⟩ : ExceptionTableEntry)] (htb.trans rfl) (fun _ h => absurd h List.not_mem_nil) (by decide) rfl (by decide) wf_1081 rfl (fun q9 => ?_)
      refine xv_astore_n (pc := 12) (lv' := [(3, .ref q9), (0, .ref (a 0)), (1, .int x0), (2, .ref ao)]) hC dL_minutes_12 rfl (by decide) rfl ?_
      refine xv_iconst (v := nI 1) (pc := 13) hC dL_minutes_13 (by decide) ?_
      exact hR _ _ _ _ _ _ (Or.inl ⟨1, hk9, by decide, rfl⟩) (by show 0 + rm.cells ≤ rm.cells; omega) (by show 0 + rm.slots ≤ rm.slots; omega) dL_minutes_14
    · refine xvx_catch (E := "java/util/NoSuchElementException") (hp := 15) hC [(⟨0, 9, 12, 19⟩ : ExceptionTableEntry)] (⟨0, 9, 15, 58⟩ : ExceptionTableEntry) [] (htb.trans rfl) (List.forall_mem_cons.mpr ⟨Or.inr ⟨by decide, "java/lang/IndexOutOfBoundsException", wf_1081, by decide, by decide⟩, (fun _ h => absurd h List.not_mem_nil)⟩) (by decide) rfl (by decide) wf_1165 rfl (fun q9 => ?_)
      refine xv_astore_n (pc := 15) (lv' := [(3, .ref q9), (0, .ref (a 0)), (1, .int x0), (2, .ref ao)]) hC dL_minutes_15 rfl (by decide) rfl ?_
      refine xv_iconst (v := nI 2) (pc := 16) hC dL_minutes_16 (by decide) ?_
      exact hR _ _ _ _ _ _ (Or.inl ⟨5, hk9, by decide, rfl⟩) (by show 0 + rm.cells ≤ rm.cells; omega) (by show 0 + rm.slots ≤ rm.slots; omega) dL_minutes_17
  · skip
    refine xv_i2l (pc := 7) hC dL_minutes_7 ?_
    refine xv_out (pc := 8) hC dL_minutes_8 ?_
    refine xv_goto (tgt := 18) (pc := 9) hC dL_minutes_9 (by decide) ?_
    refine xv_iconst (v := 0) (pc := 18) hC dL_minutes_18 (by decide) ?_
    exact hR _ _ _ _ _ _ (Or.inr ⟨v, _, hv, rfl, rfl, rfl⟩) (by show 0 + rm.cells ≤ rm.cells; omega) (by show 0 + rm.slots ≤ rm.slots; omega) dL_minutes_19
set_option maxRecDepth 100000 in
theorem kW_routeSize {l : Launch} {D : va_G} {dA : Nat → ClassId} {sa : String → Nat → Nat} {a : Nat → Nat} (hl : l.stackTraces = false) {rm : Room} {ao : Nat} {g : Nat → Int64} {x0 : Int32} {o : Nat ⊕ Int32} {w0 w1 : va_W} (M : CXi l D dA sa yX7_routeSize (wz yX7_routeSize cX7_routeSize 2 (some .int)) rm (.ref (a 0) :: [.int x0]) w0 o w1) (hk : ∀ k, o = .inl k → k ∈ ([1, 5] : List Nat)) (hrc : rcv w0 (a 0) RX7) : CPi l D dA sa ⟨"SwitchboardLaw", "routeSize", "(LSwitchboard;I[J)I"⟩ (wzW ⟨"SwitchboardLaw", "routeSize", "(LSwitchboard;I[J)I"⟩ method_26_code 4 (some .int) [(0, 9, 12, 19), (0, 9, 15, 58)]) (rmW rm 2) [.ref (a 0), .int x0, .ref ao] (w0 ++ outW dA ao g) (wrP dA ao w1 [1, 5] cvI g o) := by
  refine xm_wi hl (by decide +kernel) (Nat.le_of_ble_eq_true rfl) rfl ?_
  intro p e s m args below meth c A Q hC htb hR
  show xv p l e (rmW rm 2) s m args below meth c D A 4 Q (w0 ++ outW dA ao g) 0 0 0 [(0, .ref (a 0)), (1, .int x0), (2, .ref ao)] []
  refine xv_aload_n (pc := 0) hC dL_routeSize_0 2 rfl rfl ?_
  refine xv_iconst (v := 0) (pc := 1) hC dL_routeSize_1 (by decide) ?_
  refine xv_aload_n (pc := 2) hC dL_routeSize_2 0 rfl rfl ?_
  refine xv_iload_n (pc := 3) hC dL_routeSize_3 1 rfl rfl ?_
  refine xv_callVxi (As := [.int x0]) (pc := 4) (pre := []) (w0 := w0) (post := outW dA ao g) (w1 := w1) (w2 := w1 ++ outW dA ao g) hC M fV_X7_routeSize wf_1293 hrc rfl ⟨Nat.le_refl _, Nat.le_refl _⟩ rfl (Nat.le_of_ble_eq_true rfl) dL_routeSize_4 ⟨by show 0 + rm.cells ≤ rm.cells; omega, by show 0 + rm.slots ≤ rm.slots; omega⟩ rfl rfl (fun k9 hk9 => ?_) (fun v hv => ?_)
  · have h9 := hk k9 hk9
    simp only [List.mem_cons, List.not_mem_nil, or_false] at h9
    rcases h9 with rfl | rfl
    · refine xvx_catch (E := "java/lang/IndexOutOfBoundsException") (hp := 12) hC [] (⟨0, 9, 12, 19⟩ : ExceptionTableEntry) [(⟨0, 9, 15, 58⟩ : ExceptionTableEntry)] (htb.trans rfl) (fun _ h => absurd h List.not_mem_nil) (by decide) rfl (by decide) wf_1081 rfl (fun q9 => ?_)
      refine xv_astore_n (pc := 12) (lv' := [(3, .ref q9), (0, .ref (a 0)), (1, .int x0), (2, .ref ao)]) hC dL_routeSize_12 rfl (by decide) rfl ?_
      refine xv_iconst (v := nI 1) (pc := 13) hC dL_routeSize_13 (by decide) ?_
      exact hR _ _ _ _ _ _ (Or.inl ⟨1, hk9, by decide, rfl⟩) (by show 0 + rm.cells ≤ rm.cells; omega) (by show 0 + rm.slots ≤ rm.slots; omega) dL_routeSize_14
    · refine xvx_catch (E := "java/util/NoSuchElementException") (hp := 15) hC [(⟨0, 9, 12, 19⟩ : ExceptionTableEntry)] (⟨0, 9, 15, 58⟩ : ExceptionTableEntry) [] (htb.trans rfl) (List.forall_mem_cons.mpr ⟨Or.inr ⟨by decide, "java/lang/IndexOutOfBoundsException", wf_1081, by decide, by decide⟩, (fun _ h => absurd h List.not_mem_nil)⟩) (by decide) rfl (by decide) wf_1165 rfl (fun q9 => ?_)
      refine xv_astore_n (pc := 15) (lv' := [(3, .ref q9), (0, .ref (a 0)), (1, .int x0), (2, .ref ao)]) hC dL_routeSize_15 rfl (by decide) rfl ?_
      refine xv_iconst (v := nI 2) (pc := 16) hC dL_routeSize_16 (by decide) ?_
      exact hR _ _ _ _ _ _ (Or.inl ⟨5, hk9, by decide, rfl⟩) (by show 0 + rm.cells ≤ rm.cells; omega) (by show 0 + rm.slots ≤ rm.slots; omega) dL_routeSize_17
  · skip
    refine xv_i2l (pc := 7) hC dL_routeSize_7 ?_
    refine xv_out (pc := 8) hC dL_routeSize_8 ?_
    refine xv_goto (tgt := 18) (pc := 9) hC dL_routeSize_9 (by decide) ?_
    refine xv_iconst (v := 0) (pc := 18) hC dL_routeSize_18 (by decide) ?_
    exact hR _ _ _ _ _ _ (Or.inr ⟨v, _, hv, rfl, rfl, rfl⟩) (by show 0 + rm.cells ≤ rm.cells; omega) (by show 0 + rm.slots ≤ rm.slots; omega) dL_routeSize_19
set_option maxRecDepth 100000 in
theorem kW_routeTrunk {l : Launch} {D : va_G} {dA : Nat → ClassId} {sa : String → Nat → Nat} {a : Nat → Nat} (hl : l.stackTraces = false) {rm : Room} {ao : Nat} {g : Nat → Int64} {x0 : Int32} {x1 : Int32} {o : Nat ⊕ Int32} {w0 w1 : va_W} (M : CXi l D dA sa yX7_routeTrunk (wz yX7_routeTrunk cX7_routeTrunk 4 (some .int)) rm (.ref (a 0) :: [.int x0, .int x1]) w0 o w1) (hk : ∀ k, o = .inl k → k ∈ ([1, 5] : List Nat)) (hrc : rcv w0 (a 0) RX7) : CPi l D dA sa ⟨"SwitchboardLaw", "routeTrunk", "(LSwitchboard;II[J)I"⟩ (wzW ⟨"SwitchboardLaw", "routeTrunk", "(LSwitchboard;II[J)I"⟩ method_27_code 5 (some .int) [(0, 10, 13, 19), (0, 10, 17, 58)]) (rmW rm 4) [.ref (a 0), .int x0, .int x1, .ref ao] (w0 ++ outW dA ao g) (wrP dA ao w1 [1, 5] cvI g o) := by
  refine xm_wi hl (by decide +kernel) (Nat.le_of_ble_eq_true rfl) rfl ?_
  intro p e s m args below meth c A Q hC htb hR
  show xv p l e (rmW rm 4) s m args below meth c D A 5 Q (w0 ++ outW dA ao g) 0 0 0 [(0, .ref (a 0)), (1, .int x0), (2, .int x1), (3, .ref ao)] []
  refine xv_aload_n (pc := 0) hC dL_routeTrunk_0 3 rfl rfl ?_
  refine xv_iconst (v := 0) (pc := 1) hC dL_routeTrunk_1 (by decide) ?_
  refine xv_aload_n (pc := 2) hC dL_routeTrunk_2 0 rfl rfl ?_
  refine xv_iload_n (pc := 3) hC dL_routeTrunk_3 1 rfl rfl ?_
  refine xv_iload_n (pc := 4) hC dL_routeTrunk_4 2 rfl rfl ?_
  refine xv_callVxi (As := [.int x0, .int x1]) (pc := 5) (pre := []) (w0 := w0) (post := outW dA ao g) (w1 := w1) (w2 := w1 ++ outW dA ao g) hC M fV_X7_routeTrunk wf_1300 hrc rfl ⟨Nat.le_refl _, Nat.le_refl _⟩ rfl (Nat.le_of_ble_eq_true rfl) dL_routeTrunk_5 ⟨by show 0 + rm.cells ≤ rm.cells; omega, by show 0 + rm.slots ≤ rm.slots; omega⟩ rfl rfl (fun k9 hk9 => ?_) (fun v hv => ?_)
  · have h9 := hk k9 hk9
    simp only [List.mem_cons, List.not_mem_nil, or_false] at h9
    rcases h9 with rfl | rfl
    · refine xvx_catch (E := "java/lang/IndexOutOfBoundsException") (hp := 13) hC [] (⟨0, 10, 13, 19⟩ : ExceptionTableEntry) [(⟨0, 10, 17, 58⟩ : ExceptionTableEntry)] (htb.trans rfl) (fun _ h => absurd h List.not_mem_nil) (by decide) rfl (by decide) wf_1081 rfl (fun q9 => ?_)
      refine xv_astore (pc := 13) (lv' := [(4, .ref q9), (0, .ref (a 0)), (1, .int x0), (2, .int x1), (3, .ref ao)]) hC dL_routeTrunk_13 (by decide) rfl ?_
      refine xv_iconst (v := nI 1) (pc := 15) hC dL_routeTrunk_15 (by decide) ?_
      exact hR _ _ _ _ _ _ (Or.inl ⟨1, hk9, by decide, rfl⟩) (by show 0 + rm.cells ≤ rm.cells; omega) (by show 0 + rm.slots ≤ rm.slots; omega) dL_routeTrunk_16
    · refine xvx_catch (E := "java/util/NoSuchElementException") (hp := 17) hC [(⟨0, 10, 13, 19⟩ : ExceptionTableEntry)] (⟨0, 10, 17, 58⟩ : ExceptionTableEntry) [] (htb.trans rfl) (List.forall_mem_cons.mpr ⟨Or.inr ⟨by decide, "java/lang/IndexOutOfBoundsException", wf_1081, by decide, by decide⟩, (fun _ h => absurd h List.not_mem_nil)⟩) (by decide) rfl (by decide) wf_1165 rfl (fun q9 => ?_)
      refine xv_astore (pc := 17) (lv' := [(4, .ref q9), (0, .ref (a 0)), (1, .int x0), (2, .int x1), (3, .ref ao)]) hC dL_routeTrunk_17 (by decide) rfl ?_
      refine xv_iconst (v := nI 2) (pc := 19) hC dL_routeTrunk_19 (by decide) ?_
      exact hR _ _ _ _ _ _ (Or.inl ⟨5, hk9, by decide, rfl⟩) (by show 0 + rm.cells ≤ rm.cells; omega) (by show 0 + rm.slots ≤ rm.slots; omega) dL_routeTrunk_20
  · skip
    refine xv_i2l (pc := 8) hC dL_routeTrunk_8 ?_
    refine xv_out (pc := 9) hC dL_routeTrunk_9 ?_
    refine xv_goto (tgt := 21) (pc := 10) hC dL_routeTrunk_10 (by decide) ?_
    refine xv_iconst (v := 0) (pc := 21) hC dL_routeTrunk_21 (by decide) ?_
    exact hR _ _ _ _ _ _ (Or.inr ⟨v, _, hv, rfl, rfl, rfl⟩) (by show 0 + rm.cells ≤ rm.cells; omega) (by show 0 + rm.slots ≤ rm.slots; omega) dL_routeTrunk_22
set_option maxRecDepth 100000 in
theorem kW_chargeNow {l : Launch} {D : va_G} {dA : Nat → ClassId} {sa : String → Nat → Nat} {a : Nat → Nat} (hl : l.stackTraces = false) {rm : Room} {ao : Nat} {g : Nat → Int64} {x0 : Int32} {o : Nat ⊕ Int32} {w0 w1 : va_W} (M : CXi l D dA sa yX7_chargeNow (wz yX7_chargeNow cX7_chargeNow 2 (some .int)) rm (.ref (a 0) :: [.int x0]) w0 o w1) (hk : ∀ k, o = .inl k → k ∈ ([1, 5] : List Nat)) (hrc : rcv w0 (a 0) RX7) : CPi l D dA sa ⟨"SwitchboardLaw", "chargeNow", "(LSwitchboard;I[J)I"⟩ (wzW ⟨"SwitchboardLaw", "chargeNow", "(LSwitchboard;I[J)I"⟩ method_28_code 4 (some .int) [(0, 9, 12, 19), (0, 9, 15, 58)]) (rmW rm 2) [.ref (a 0), .int x0, .ref ao] (w0 ++ outW dA ao g) (wrP dA ao w1 [1, 5] cvI g o) := by
  refine xm_wi hl (by decide +kernel) (Nat.le_of_ble_eq_true rfl) rfl ?_
  intro p e s m args below meth c A Q hC htb hR
  show xv p l e (rmW rm 2) s m args below meth c D A 4 Q (w0 ++ outW dA ao g) 0 0 0 [(0, .ref (a 0)), (1, .int x0), (2, .ref ao)] []
  refine xv_aload_n (pc := 0) hC dL_chargeNow_0 2 rfl rfl ?_
  refine xv_iconst (v := 0) (pc := 1) hC dL_chargeNow_1 (by decide) ?_
  refine xv_aload_n (pc := 2) hC dL_chargeNow_2 0 rfl rfl ?_
  refine xv_iload_n (pc := 3) hC dL_chargeNow_3 1 rfl rfl ?_
  refine xv_callVxi (As := [.int x0]) (pc := 4) (pre := []) (w0 := w0) (post := outW dA ao g) (w1 := w1) (w2 := w1 ++ outW dA ao g) hC M fV_X7_chargeNow wf_1308 hrc rfl ⟨Nat.le_refl _, Nat.le_refl _⟩ rfl (Nat.le_of_ble_eq_true rfl) dL_chargeNow_4 ⟨by show 0 + rm.cells ≤ rm.cells; omega, by show 0 + rm.slots ≤ rm.slots; omega⟩ rfl rfl (fun k9 hk9 => ?_) (fun v hv => ?_)
  · have h9 := hk k9 hk9
    simp only [List.mem_cons, List.not_mem_nil, or_false] at h9
    rcases h9 with rfl | rfl
    · refine xvx_catch (E := "java/lang/IndexOutOfBoundsException") (hp := 12) hC [] (⟨0, 9, 12, 19⟩ : ExceptionTableEntry) [(⟨0, 9, 15, 58⟩ : ExceptionTableEntry)] (htb.trans rfl) (fun _ h => absurd h List.not_mem_nil) (by decide) rfl (by decide) wf_1081 rfl (fun q9 => ?_)
      refine xv_astore_n (pc := 12) (lv' := [(3, .ref q9), (0, .ref (a 0)), (1, .int x0), (2, .ref ao)]) hC dL_chargeNow_12 rfl (by decide) rfl ?_
      refine xv_iconst (v := nI 1) (pc := 13) hC dL_chargeNow_13 (by decide) ?_
      exact hR _ _ _ _ _ _ (Or.inl ⟨1, hk9, by decide, rfl⟩) (by show 0 + rm.cells ≤ rm.cells; omega) (by show 0 + rm.slots ≤ rm.slots; omega) dL_chargeNow_14
    · refine xvx_catch (E := "java/util/NoSuchElementException") (hp := 15) hC [(⟨0, 9, 12, 19⟩ : ExceptionTableEntry)] (⟨0, 9, 15, 58⟩ : ExceptionTableEntry) [] (htb.trans rfl) (List.forall_mem_cons.mpr ⟨Or.inr ⟨by decide, "java/lang/IndexOutOfBoundsException", wf_1081, by decide, by decide⟩, (fun _ h => absurd h List.not_mem_nil)⟩) (by decide) rfl (by decide) wf_1165 rfl (fun q9 => ?_)
      refine xv_astore_n (pc := 15) (lv' := [(3, .ref q9), (0, .ref (a 0)), (1, .int x0), (2, .ref ao)]) hC dL_chargeNow_15 rfl (by decide) rfl ?_
      refine xv_iconst (v := nI 2) (pc := 16) hC dL_chargeNow_16 (by decide) ?_
      exact hR _ _ _ _ _ _ (Or.inl ⟨5, hk9, by decide, rfl⟩) (by show 0 + rm.cells ≤ rm.cells; omega) (by show 0 + rm.slots ≤ rm.slots; omega) dL_chargeNow_17
  · skip
    refine xv_i2l (pc := 7) hC dL_chargeNow_7 ?_
    refine xv_out (pc := 8) hC dL_chargeNow_8 ?_
    refine xv_goto (tgt := 18) (pc := 9) hC dL_chargeNow_9 (by decide) ?_
    refine xv_iconst (v := 0) (pc := 18) hC dL_chargeNow_18 (by decide) ?_
    exact hR _ _ _ _ _ _ (Or.inr ⟨v, _, hv, rfl, rfl, rfl⟩) (by show 0 + rm.cells ≤ rm.cells; omega) (by show 0 + rm.slots ≤ rm.slots; omega) dL_chargeNow_19
set_option maxRecDepth 100000 in
theorem kW_blockedCaller {l : Launch} {D : va_G} {dA : Nat → ClassId} {sa : String → Nat → Nat} {a : Nat → Nat} (hl : l.stackTraces = false) {rm : Room} {ao : Nat} {g : Nat → Int64} {x0 : Int32} {o : Nat ⊕ Int32} {w0 w1 : va_W} (M : CXi l D dA sa yX7_blockedCaller (wz yX7_blockedCaller cX7_blockedCaller 2 (some .int)) rm (.ref (a 0) :: [.int x0]) w0 o w1) (hk : ∀ k, o = .inl k → k ∈ ([5] : List Nat)) (hrc : rcv w0 (a 0) RX7) : CPi l D dA sa ⟨"SwitchboardLaw", "blockedCaller", "(LSwitchboard;I[J)I"⟩ (wzW ⟨"SwitchboardLaw", "blockedCaller", "(LSwitchboard;I[J)I"⟩ method_29_code 4 (some .int) [(0, 9, 12, 58)]) (rmW rm 2) [.ref (a 0), .int x0, .ref ao] (w0 ++ outW dA ao g) (wrP dA ao w1 [5] cvI g o) := by
  refine xm_wi hl (by decide +kernel) (Nat.le_of_ble_eq_true rfl) rfl ?_
  intro p e s m args below meth c A Q hC htb hR
  show xv p l e (rmW rm 2) s m args below meth c D A 4 Q (w0 ++ outW dA ao g) 0 0 0 [(0, .ref (a 0)), (1, .int x0), (2, .ref ao)] []
  refine xv_aload_n (pc := 0) hC dL_blockedCaller_0 2 rfl rfl ?_
  refine xv_iconst (v := 0) (pc := 1) hC dL_blockedCaller_1 (by decide) ?_
  refine xv_aload_n (pc := 2) hC dL_blockedCaller_2 0 rfl rfl ?_
  refine xv_iload_n (pc := 3) hC dL_blockedCaller_3 1 rfl rfl ?_
  refine xv_callVxi (As := [.int x0]) (pc := 4) (pre := []) (w0 := w0) (post := outW dA ao g) (w1 := w1) (w2 := w1 ++ outW dA ao g) hC M fV_X7_blockedCaller wf_1316 hrc rfl ⟨Nat.le_refl _, Nat.le_refl _⟩ rfl (Nat.le_of_ble_eq_true rfl) dL_blockedCaller_4 ⟨by show 0 + rm.cells ≤ rm.cells; omega, by show 0 + rm.slots ≤ rm.slots; omega⟩ rfl rfl (fun k9 hk9 => ?_) (fun v hv => ?_)
  · have h9 := hk k9 hk9
    simp only [List.mem_cons, List.not_mem_nil, or_false] at h9
    rcases h9 with rfl
    · refine xvx_catch (E := "java/util/NoSuchElementException") (hp := 12) hC [] (⟨0, 9, 12, 58⟩ : ExceptionTableEntry) [] (htb.trans rfl) (fun _ h => absurd h List.not_mem_nil) (by decide) rfl (by decide) wf_1165 rfl (fun q9 => ?_)
      refine xv_astore_n (pc := 12) (lv' := [(3, .ref q9), (0, .ref (a 0)), (1, .int x0), (2, .ref ao)]) hC dL_blockedCaller_12 rfl (by decide) rfl ?_
      refine xv_iconst (v := nI 1) (pc := 13) hC dL_blockedCaller_13 (by decide) ?_
      exact hR _ _ _ _ _ _ (Or.inl ⟨5, hk9, by decide, rfl⟩) (by show 0 + rm.cells ≤ rm.cells; omega) (by show 0 + rm.slots ≤ rm.slots; omega) dL_blockedCaller_14
  · skip
    refine xv_i2l (pc := 7) hC dL_blockedCaller_7 ?_
    refine xv_out (pc := 8) hC dL_blockedCaller_8 ?_
    refine xv_goto (tgt := 15) (pc := 9) hC dL_blockedCaller_9 (by decide) ?_
    refine xv_iconst (v := 0) (pc := 15) hC dL_blockedCaller_15 (by decide) ?_
    exact hR _ _ _ _ _ _ (Or.inr ⟨v, _, hv, rfl, rfl, rfl⟩) (by show 0 + rm.cells ≤ rm.cells; omega) (by show 0 + rm.slots ≤ rm.slots; omega) dL_blockedCaller_16
set_option maxRecDepth 100000 in
theorem kW_blockedCallee {l : Launch} {D : va_G} {dA : Nat → ClassId} {sa : String → Nat → Nat} {a : Nat → Nat} (hl : l.stackTraces = false) {rm : Room} {ao : Nat} {g : Nat → Int64} {x0 : Int32} {o : Nat ⊕ Int32} {w0 w1 : va_W} (M : CXi l D dA sa yX7_blockedCallee (wz yX7_blockedCallee cX7_blockedCallee 2 (some .int)) rm (.ref (a 0) :: [.int x0]) w0 o w1) (hk : ∀ k, o = .inl k → k ∈ ([5] : List Nat)) (hrc : rcv w0 (a 0) RX7) : CPi l D dA sa ⟨"SwitchboardLaw", "blockedCallee", "(LSwitchboard;I[J)I"⟩ (wzW ⟨"SwitchboardLaw", "blockedCallee", "(LSwitchboard;I[J)I"⟩ method_30_code 4 (some .int) [(0, 9, 12, 58)]) (rmW rm 2) [.ref (a 0), .int x0, .ref ao] (w0 ++ outW dA ao g) (wrP dA ao w1 [5] cvI g o) := by
  refine xm_wi hl (by decide +kernel) (Nat.le_of_ble_eq_true rfl) rfl ?_
  intro p e s m args below meth c A Q hC htb hR
  show xv p l e (rmW rm 2) s m args below meth c D A 4 Q (w0 ++ outW dA ao g) 0 0 0 [(0, .ref (a 0)), (1, .int x0), (2, .ref ao)] []
  refine xv_aload_n (pc := 0) hC dL_blockedCallee_0 2 rfl rfl ?_
  refine xv_iconst (v := 0) (pc := 1) hC dL_blockedCallee_1 (by decide) ?_
  refine xv_aload_n (pc := 2) hC dL_blockedCallee_2 0 rfl rfl ?_
  refine xv_iload_n (pc := 3) hC dL_blockedCallee_3 1 rfl rfl ?_
  refine xv_callVxi (As := [.int x0]) (pc := 4) (pre := []) (w0 := w0) (post := outW dA ao g) (w1 := w1) (w2 := w1 ++ outW dA ao g) hC M fV_X7_blockedCallee wf_1328 hrc rfl ⟨Nat.le_refl _, Nat.le_refl _⟩ rfl (Nat.le_of_ble_eq_true rfl) dL_blockedCallee_4 ⟨by show 0 + rm.cells ≤ rm.cells; omega, by show 0 + rm.slots ≤ rm.slots; omega⟩ rfl rfl (fun k9 hk9 => ?_) (fun v hv => ?_)
  · have h9 := hk k9 hk9
    simp only [List.mem_cons, List.not_mem_nil, or_false] at h9
    rcases h9 with rfl
    · refine xvx_catch (E := "java/util/NoSuchElementException") (hp := 12) hC [] (⟨0, 9, 12, 58⟩ : ExceptionTableEntry) [] (htb.trans rfl) (fun _ h => absurd h List.not_mem_nil) (by decide) rfl (by decide) wf_1165 rfl (fun q9 => ?_)
      refine xv_astore_n (pc := 12) (lv' := [(3, .ref q9), (0, .ref (a 0)), (1, .int x0), (2, .ref ao)]) hC dL_blockedCallee_12 rfl (by decide) rfl ?_
      refine xv_iconst (v := nI 1) (pc := 13) hC dL_blockedCallee_13 (by decide) ?_
      exact hR _ _ _ _ _ _ (Or.inl ⟨5, hk9, by decide, rfl⟩) (by show 0 + rm.cells ≤ rm.cells; omega) (by show 0 + rm.slots ≤ rm.slots; omega) dL_blockedCallee_14
  · skip
    refine xv_i2l (pc := 7) hC dL_blockedCallee_7 ?_
    refine xv_out (pc := 8) hC dL_blockedCallee_8 ?_
    refine xv_goto (tgt := 15) (pc := 9) hC dL_blockedCallee_9 (by decide) ?_
    refine xv_iconst (v := 0) (pc := 15) hC dL_blockedCallee_15 (by decide) ?_
    exact hR _ _ _ _ _ _ (Or.inr ⟨v, _, hv, rfl, rfl, rfl⟩) (by show 0 + rm.cells ≤ rm.cells; omega) (by show 0 + rm.slots ≤ rm.slots; omega) dL_blockedCallee_16
set_option maxRecDepth 100000 in
theorem kW_blockedReason {l : Launch} {D : va_G} {dA : Nat → ClassId} {sa : String → Nat → Nat} {a : Nat → Nat} (hl : l.stackTraces = false) {rm : Room} {ao : Nat} {g : Nat → Int64} {x0 : Int32} {o : Nat ⊕ Int32} {w0 w1 : va_W} (M : CXi l D dA sa yX7_blockedReason (wz yX7_blockedReason cX7_blockedReason 2 (some .char)) rm (.ref (a 0) :: [.int x0]) w0 o w1) (hk : ∀ k, o = .inl k → k ∈ ([5] : List Nat)) (hrc : rcv w0 (a 0) RX7) : CPi l D dA sa ⟨"SwitchboardLaw", "blockedReason", "(LSwitchboard;I[J)I"⟩ (wzW ⟨"SwitchboardLaw", "blockedReason", "(LSwitchboard;I[J)I"⟩ method_31_code 4 (some .int) [(0, 9, 12, 58)]) (rmW rm 2) [.ref (a 0), .int x0, .ref ao] (w0 ++ outW dA ao g) (wrP dA ao w1 [5] cvI g o) := by
  refine xm_wi hl (by decide +kernel) (Nat.le_of_ble_eq_true rfl) rfl ?_
  intro p e s m args below meth c A Q hC htb hR
  show xv p l e (rmW rm 2) s m args below meth c D A 4 Q (w0 ++ outW dA ao g) 0 0 0 [(0, .ref (a 0)), (1, .int x0), (2, .ref ao)] []
  refine xv_aload_n (pc := 0) hC dL_blockedReason_0 2 rfl rfl ?_
  refine xv_iconst (v := 0) (pc := 1) hC dL_blockedReason_1 (by decide) ?_
  refine xv_aload_n (pc := 2) hC dL_blockedReason_2 0 rfl rfl ?_
  refine xv_iload_n (pc := 3) hC dL_blockedReason_3 1 rfl rfl ?_
  refine xv_callVxi (As := [.int x0]) (pc := 4) (pre := []) (w0 := w0) (post := outW dA ao g) (w1 := w1) (w2 := w1 ++ outW dA ao g) hC M fV_X7_blockedReason wf_1335 hrc rfl ⟨Nat.le_refl _, Nat.le_refl _⟩ rfl (Nat.le_of_ble_eq_true rfl) dL_blockedReason_4 ⟨by show 0 + rm.cells ≤ rm.cells; omega, by show 0 + rm.slots ≤ rm.slots; omega⟩ rfl rfl (fun k9 hk9 => ?_) (fun v hv => ?_)
  · have h9 := hk k9 hk9
    simp only [List.mem_cons, List.not_mem_nil, or_false] at h9
    rcases h9 with rfl
    · refine xvx_catch (E := "java/util/NoSuchElementException") (hp := 12) hC [] (⟨0, 9, 12, 58⟩ : ExceptionTableEntry) [] (htb.trans rfl) (fun _ h => absurd h List.not_mem_nil) (by decide) rfl (by decide) wf_1165 rfl (fun q9 => ?_)
      refine xv_astore_n (pc := 12) (lv' := [(3, .ref q9), (0, .ref (a 0)), (1, .int x0), (2, .ref ao)]) hC dL_blockedReason_12 rfl (by decide) rfl ?_
      refine xv_iconst (v := nI 1) (pc := 13) hC dL_blockedReason_13 (by decide) ?_
      exact hR _ _ _ _ _ _ (Or.inl ⟨5, hk9, by decide, rfl⟩) (by show 0 + rm.cells ≤ rm.cells; omega) (by show 0 + rm.slots ≤ rm.slots; omega) dL_blockedReason_14
  · skip
    refine xv_i2l (pc := 7) hC dL_blockedReason_7 ?_
    refine xv_out (pc := 8) hC dL_blockedReason_8 ?_
    refine xv_goto (tgt := 15) (pc := 9) hC dL_blockedReason_9 (by decide) ?_
    refine xv_iconst (v := 0) (pc := 15) hC dL_blockedReason_15 (by decide) ?_
    exact hR _ _ _ _ _ _ (Or.inr ⟨v, _, hv, rfl, rfl, rfl⟩) (by show 0 + rm.cells ≤ rm.cells; omega) (by show 0 + rm.slots ≤ rm.slots; omega) dL_blockedReason_16
set_option maxRecDepth 100000 in
theorem kW_subscriberByBill {l : Launch} {D : va_G} {dA : Nat → ClassId} {sa : String → Nat → Nat} {a : Nat → Nat} (hl : l.stackTraces = false) {rm : Room} {ao : Nat} {g : Nat → Int64} {x0 : Int32} {o : Nat ⊕ Int32} {w0 w1 : va_W} (M : CXi l D dA sa yX7_subscriberByBill (wz yX7_subscriberByBill cX7_subscriberByBill 3 (some .int)) rm (.ref (a 0) :: [.int x0]) w0 o w1) (hk : ∀ k, o = .inl k → k ∈ ([5] : List Nat)) (hrc : rcv w0 (a 0) RX7) : CPi l D dA sa ⟨"SwitchboardLaw", "subscriberByBill", "(LSwitchboard;I[J)I"⟩ (wzW ⟨"SwitchboardLaw", "subscriberByBill", "(LSwitchboard;I[J)I"⟩ method_32_code 4 (some .int) [(0, 9, 12, 58)]) (rmW rm 3) [.ref (a 0), .int x0, .ref ao] (w0 ++ outW dA ao g) (wrP dA ao w1 [5] cvI g o) := by
  refine xm_wi hl (by decide +kernel) (Nat.le_of_ble_eq_true rfl) rfl ?_
  intro p e s m args below meth c A Q hC htb hR
  show xv p l e (rmW rm 3) s m args below meth c D A 4 Q (w0 ++ outW dA ao g) 0 0 0 [(0, .ref (a 0)), (1, .int x0), (2, .ref ao)] []
  refine xv_aload_n (pc := 0) hC dL_subscriberByBill_0 2 rfl rfl ?_
  refine xv_iconst (v := 0) (pc := 1) hC dL_subscriberByBill_1 (by decide) ?_
  refine xv_aload_n (pc := 2) hC dL_subscriberByBill_2 0 rfl rfl ?_
  refine xv_iload_n (pc := 3) hC dL_subscriberByBill_3 1 rfl rfl ?_
  refine xv_callVxi (As := [.int x0]) (pc := 4) (pre := []) (w0 := w0) (post := outW dA ao g) (w1 := w1) (w2 := w1 ++ outW dA ao g) hC M fV_X7_subscriberByBill wf_1342 hrc rfl ⟨Nat.le_refl _, Nat.le_refl _⟩ rfl (Nat.le_of_ble_eq_true rfl) dL_subscriberByBill_4 ⟨by show 0 + rm.cells ≤ rm.cells; omega, by show 0 + rm.slots ≤ rm.slots; omega⟩ rfl rfl (fun k9 hk9 => ?_) (fun v hv => ?_)
  · have h9 := hk k9 hk9
    simp only [List.mem_cons, List.not_mem_nil, or_false] at h9
    rcases h9 with rfl
    · refine xvx_catch (E := "java/util/NoSuchElementException") (hp := 12) hC [] (⟨0, 9, 12, 58⟩ : ExceptionTableEntry) [] (htb.trans rfl) (fun _ h => absurd h List.not_mem_nil) (by decide) rfl (by decide) wf_1165 rfl (fun q9 => ?_)
      refine xv_astore_n (pc := 12) (lv' := [(3, .ref q9), (0, .ref (a 0)), (1, .int x0), (2, .ref ao)]) hC dL_subscriberByBill_12 rfl (by decide) rfl ?_
      refine xv_iconst (v := nI 1) (pc := 13) hC dL_subscriberByBill_13 (by decide) ?_
      exact hR _ _ _ _ _ _ (Or.inl ⟨5, hk9, by decide, rfl⟩) (by show 0 + rm.cells ≤ rm.cells; omega) (by show 0 + rm.slots ≤ rm.slots; omega) dL_subscriberByBill_14
  · skip
    refine xv_i2l (pc := 7) hC dL_subscriberByBill_7 ?_
    refine xv_out (pc := 8) hC dL_subscriberByBill_8 ?_
    refine xv_goto (tgt := 15) (pc := 9) hC dL_subscriberByBill_9 (by decide) ?_
    refine xv_iconst (v := 0) (pc := 15) hC dL_subscriberByBill_15 (by decide) ?_
    exact hR _ _ _ _ _ _ (Or.inr ⟨v, _, hv, rfl, rfl, rfl⟩) (by show 0 + rm.cells ≤ rm.cells; omega) (by show 0 + rm.slots ≤ rm.slots; omega) dL_subscriberByBill_16
set_option maxRecDepth 100000 in
theorem kW_writeTrunk {l : Launch} {D : va_G} {dA : Nat → ClassId} {sa : String → Nat → Nat} {a : Nat → Nat} (hl : l.stackTraces = false) {rm : Room} {ao : Nat} {g : Nat → Int64} {x0 : Int32} {o : Nat ⊕ Int32} {w0 w1 : va_W} (M : CXi l D dA sa yX7_writeTrunk (wz yX7_writeTrunk cX7_writeTrunk 4 (some .int)) rm (.ref (a 0) :: [.int x0]) w0 o w1) (hk : ∀ k, o = .inl k → k ∈ ([1] : List Nat)) (hrc : rcv w0 (a 0) RX7) : CPi l D dA sa ⟨"SwitchboardLaw", "writeTrunk", "(LSwitchboard;I[J)I"⟩ (wzW ⟨"SwitchboardLaw", "writeTrunk", "(LSwitchboard;I[J)I"⟩ method_35_code 4 (some .int) [(0, 9, 12, 19)]) (rmW rm 4) [.ref (a 0), .int x0, .ref ao] (w0 ++ outW dA ao g) (wrP dA ao w1 [1] cvI g o) := by
  refine xm_wi hl (by decide +kernel) (Nat.le_of_ble_eq_true rfl) rfl ?_
  intro p e s m args below meth c A Q hC htb hR
  show xv p l e (rmW rm 4) s m args below meth c D A 4 Q (w0 ++ outW dA ao g) 0 0 0 [(0, .ref (a 0)), (1, .int x0), (2, .ref ao)] []
  refine xv_aload_n (pc := 0) hC dL_writeTrunk_0 2 rfl rfl ?_
  refine xv_iconst (v := 0) (pc := 1) hC dL_writeTrunk_1 (by decide) ?_
  refine xv_aload_n (pc := 2) hC dL_writeTrunk_2 0 rfl rfl ?_
  refine xv_iload_n (pc := 3) hC dL_writeTrunk_3 1 rfl rfl ?_
  refine xv_callVxi (As := [.int x0]) (pc := 4) (pre := []) (w0 := w0) (post := outW dA ao g) (w1 := w1) (w2 := w1 ++ outW dA ao g) hC M fV_X7_writeTrunk wf_1388 hrc rfl ⟨Nat.le_refl _, Nat.le_refl _⟩ rfl (Nat.le_of_ble_eq_true rfl) dL_writeTrunk_4 ⟨by show 0 + rm.cells ≤ rm.cells; omega, by show 0 + rm.slots ≤ rm.slots; omega⟩ rfl rfl (fun k9 hk9 => ?_) (fun v hv => ?_)
  · have h9 := hk k9 hk9
    simp only [List.mem_cons, List.not_mem_nil, or_false] at h9
    rcases h9 with rfl
    · refine xvx_catch (E := "java/lang/IndexOutOfBoundsException") (hp := 12) hC [] (⟨0, 9, 12, 19⟩ : ExceptionTableEntry) [] (htb.trans rfl) (fun _ h => absurd h List.not_mem_nil) (by decide) rfl (by decide) wf_1081 rfl (fun q9 => ?_)
      refine xv_astore_n (pc := 12) (lv' := [(3, .ref q9), (0, .ref (a 0)), (1, .int x0), (2, .ref ao)]) hC dL_writeTrunk_12 rfl (by decide) rfl ?_
      refine xv_iconst (v := nI 1) (pc := 13) hC dL_writeTrunk_13 (by decide) ?_
      exact hR _ _ _ _ _ _ (Or.inl ⟨1, hk9, by decide, rfl⟩) (by show 0 + rm.cells ≤ rm.cells; omega) (by show 0 + rm.slots ≤ rm.slots; omega) dL_writeTrunk_14
  · skip
    refine xv_i2l (pc := 7) hC dL_writeTrunk_7 ?_
    refine xv_out (pc := 8) hC dL_writeTrunk_8 ?_
    refine xv_goto (tgt := 15) (pc := 9) hC dL_writeTrunk_9 (by decide) ?_
    refine xv_iconst (v := 0) (pc := 15) hC dL_writeTrunk_15 (by decide) ?_
    exact hR _ _ _ _ _ _ (Or.inr ⟨v, _, hv, rfl, rfl, rfl⟩) (by show 0 + rm.cells ≤ rm.cells; omega) (by show 0 + rm.slots ≤ rm.slots; omega) dL_writeTrunk_16
set_option maxRecDepth 100000 in
theorem kW_writeTrunk_p {l : Launch} {D : va_G} {dA : Nat → ClassId} {sa : String → Nat → Nat} {a : Nat → Nat} (hl : l.stackTraces = false) {rm : Room} {ao : Nat} {g : Nat → Int64} {x0 : Int32} {P0 : Int32 → va_W → Prop} {w0 : va_W} (M : CPi l D dA sa yX7_writeTrunk (wz yX7_writeTrunk cX7_writeTrunk 4 (some .int)) rm (.ref (a 0) :: [.int x0]) w0 P0) (hrc : rcv w0 (a 0) RX7) : CPi l D dA sa ⟨"SwitchboardLaw", "writeTrunk", "(LSwitchboard;I[J)I"⟩ (wzW ⟨"SwitchboardLaw", "writeTrunk", "(LSwitchboard;I[J)I"⟩ method_35_code 4 (some .int) [(0, 9, 12, 19)]) (rmW rm 4) [.ref (a 0), .int x0, .ref ao] (w0 ++ outW dA ao g) (wrQ dA ao P0) := by
  refine xm_wi hl (by decide +kernel) (Nat.le_of_ble_eq_true rfl) rfl ?_
  intro p e s m args below meth c A Q hC htb hR
  show xv p l e (rmW rm 4) s m args below meth c D A 4 Q (w0 ++ outW dA ao g) 0 0 0 [(0, .ref (a 0)), (1, .int x0), (2, .ref ao)] []
  refine xv_aload_n (pc := 0) hC dL_writeTrunk_0 2 rfl rfl ?_
  refine xv_iconst (v := 0) (pc := 1) hC dL_writeTrunk_1 (by decide) ?_
  refine xv_aload_n (pc := 2) hC dL_writeTrunk_2 0 rfl rfl ?_
  refine xv_iload_n (pc := 3) hC dL_writeTrunk_3 1 rfl rfl ?_
  refine xv_callVpi (As := [.int x0]) (pc := 4) (pre := []) (w0 := w0) (post := outW dA ao g) hC M fV_X7_writeTrunk wf_1388 hrc rfl ⟨Nat.le_refl _, Nat.le_refl _⟩ rfl (Nat.le_of_ble_eq_true rfl) dL_writeTrunk_4 ⟨by show 0 + rm.cells ≤ rm.cells; omega, by show 0 + rm.slots ≤ rm.slots; omega⟩ rfl (fun w1 v hv => ?_)
  show xv p l e (rmW rm 4) s m args below meth c D A 4 Q (w1 ++ outW dA ao g) _ _ _ _ _
  refine xv_i2l (pc := 7) hC dL_writeTrunk_7 ?_
  refine xv_out (pc := 8) hC dL_writeTrunk_8 ?_
  refine xv_goto (tgt := 15) (pc := 9) hC dL_writeTrunk_9 (by decide) ?_
  refine xv_iconst (v := 0) (pc := 15) hC dL_writeTrunk_15 (by decide) ?_
  exact hR _ _ _ _ _ _ ⟨v, w1, _, hv, rfl, rfl, rfl⟩ (by show 0 + rm.cells ≤ rm.cells; omega) (by show 0 + rm.slots ≤ rm.slots; omega) dL_writeTrunk_16
set_option maxRecDepth 100000 in
theorem kW_charAt {l : Launch} {D : va_G} {dA : Nat → ClassId} {sa : String → Nat → Nat} {a : Nat → Nat} (hl : l.stackTraces = false) {rm : Room} {ao : Nat} {g : Nat → Int64} {x0 : Int32} {o : Nat ⊕ Int32} {w0 w1 : va_W} (M : CXi l D dA sa yX7_charAt (wz yX7_charAt cX7_charAt 2 (some .char)) rm (.ref (a 0) :: [.int x0]) w0 o w1) (hk : ∀ k, o = .inl k → k ∈ ([1] : List Nat)) (hrc : rcv w0 (a 0) RX7) : CPi l D dA sa ⟨"SwitchboardLaw", "charAt", "(LSwitchboard;I[J)I"⟩ (wzW ⟨"SwitchboardLaw", "charAt", "(LSwitchboard;I[J)I"⟩ method_36_code 4 (some .int) [(0, 9, 12, 19)]) (rmW rm 2) [.ref (a 0), .int x0, .ref ao] (w0 ++ outW dA ao g) (wrP dA ao w1 [1] cvI g o) := by
  refine xm_wi hl (by decide +kernel) (Nat.le_of_ble_eq_true rfl) rfl ?_
  intro p e s m args below meth c A Q hC htb hR
  show xv p l e (rmW rm 2) s m args below meth c D A 4 Q (w0 ++ outW dA ao g) 0 0 0 [(0, .ref (a 0)), (1, .int x0), (2, .ref ao)] []
  refine xv_aload_n (pc := 0) hC dL_charAt_0 2 rfl rfl ?_
  refine xv_iconst (v := 0) (pc := 1) hC dL_charAt_1 (by decide) ?_
  refine xv_aload_n (pc := 2) hC dL_charAt_2 0 rfl rfl ?_
  refine xv_iload_n (pc := 3) hC dL_charAt_3 1 rfl rfl ?_
  refine xv_callVxi (As := [.int x0]) (pc := 4) (pre := []) (w0 := w0) (post := outW dA ao g) (w1 := w1) (w2 := w1 ++ outW dA ao g) hC M fV_X7_charAt wf_1396 hrc rfl ⟨Nat.le_refl _, Nat.le_refl _⟩ rfl (Nat.le_of_ble_eq_true rfl) dL_charAt_4 ⟨by show 0 + rm.cells ≤ rm.cells; omega, by show 0 + rm.slots ≤ rm.slots; omega⟩ rfl rfl (fun k9 hk9 => ?_) (fun v hv => ?_)
  · have h9 := hk k9 hk9
    simp only [List.mem_cons, List.not_mem_nil, or_false] at h9
    rcases h9 with rfl
    · refine xvx_catch (E := "java/lang/IndexOutOfBoundsException") (hp := 12) hC [] (⟨0, 9, 12, 19⟩ : ExceptionTableEntry) [] (htb.trans rfl) (fun _ h => absurd h List.not_mem_nil) (by decide) rfl (by decide) wf_1081 rfl (fun q9 => ?_)
      refine xv_astore_n (pc := 12) (lv' := [(3, .ref q9), (0, .ref (a 0)), (1, .int x0), (2, .ref ao)]) hC dL_charAt_12 rfl (by decide) rfl ?_
      refine xv_iconst (v := nI 1) (pc := 13) hC dL_charAt_13 (by decide) ?_
      exact hR _ _ _ _ _ _ (Or.inl ⟨1, hk9, by decide, rfl⟩) (by show 0 + rm.cells ≤ rm.cells; omega) (by show 0 + rm.slots ≤ rm.slots; omega) dL_charAt_14
  · skip
    refine xv_i2l (pc := 7) hC dL_charAt_7 ?_
    refine xv_out (pc := 8) hC dL_charAt_8 ?_
    refine xv_goto (tgt := 15) (pc := 9) hC dL_charAt_9 (by decide) ?_
    refine xv_iconst (v := 0) (pc := 15) hC dL_charAt_15 (by decide) ?_
    exact hR _ _ _ _ _ _ (Or.inr ⟨v, _, hv, rfl, rfl, rfl⟩) (by show 0 + rm.cells ≤ rm.cells; omega) (by show 0 + rm.slots ≤ rm.slots; omega) dL_charAt_16
set_option maxRecDepth 100000 in
theorem kW_type {l : Launch} {D : va_G} {dA : Nat → ClassId} {sa : String → Nat → Nat} {a : Nat → Nat} (hl : l.stackTraces = false) {rm : Room} {ao : Nat} {g : Nat → Int64} {x0 : Int32} {o : Nat ⊕ Int32} {w0 w1 : va_W} (M : CXi l D dA sa yX7_type (wz yX7_type cX7_type 2 (some .int)) rm (.ref (a 0) :: [.int x0]) w0 o w1) (hk : ∀ k, o = .inl k → k ∈ ([3] : List Nat)) (hrc : rcv w0 (a 0) RX7) : CPi l D dA sa ⟨"SwitchboardLaw", "type", "(LSwitchboard;C[J)I"⟩ (wzW ⟨"SwitchboardLaw", "type", "(LSwitchboard;C[J)I"⟩ method_37_code 4 (some .int) [(0, 9, 12, 13)]) (rmW rm 2) [.ref (a 0), .int x0, .ref ao] (w0 ++ outW dA ao g) (wrP dA ao w1 [3] cvI g o) := by
  refine xm_wi hl (by decide +kernel) (Nat.le_of_ble_eq_true rfl) rfl ?_
  intro p e s m args below meth c A Q hC htb hR
  show xv p l e (rmW rm 2) s m args below meth c D A 4 Q (w0 ++ outW dA ao g) 0 0 0 [(0, .ref (a 0)), (1, .int x0), (2, .ref ao)] []
  refine xv_aload_n (pc := 0) hC dL_type_0 2 rfl rfl ?_
  refine xv_iconst (v := 0) (pc := 1) hC dL_type_1 (by decide) ?_
  refine xv_aload_n (pc := 2) hC dL_type_2 0 rfl rfl ?_
  refine xv_iload_n (pc := 3) hC dL_type_3 1 rfl rfl ?_
  refine xv_callVxi (As := [.int x0]) (pc := 4) (pre := []) (w0 := w0) (post := outW dA ao g) (w1 := w1) (w2 := w1 ++ outW dA ao g) hC M fV_X7_type wf_1414 hrc rfl ⟨Nat.le_refl _, Nat.le_refl _⟩ rfl (Nat.le_of_ble_eq_true rfl) dL_type_4 ⟨by show 0 + rm.cells ≤ rm.cells; omega, by show 0 + rm.slots ≤ rm.slots; omega⟩ rfl rfl (fun k9 hk9 => ?_) (fun v hv => ?_)
  · have h9 := hk k9 hk9
    simp only [List.mem_cons, List.not_mem_nil, or_false] at h9
    rcases h9 with rfl
    · refine xvx_catch (E := "java/lang/IllegalStateException") (hp := 12) hC [] (⟨0, 9, 12, 13⟩ : ExceptionTableEntry) [] (htb.trans rfl) (fun _ h => absurd h List.not_mem_nil) (by decide) rfl (by decide) wf_880 rfl (fun q9 => ?_)
      refine xv_astore_n (pc := 12) (lv' := [(3, .ref q9), (0, .ref (a 0)), (1, .int x0), (2, .ref ao)]) hC dL_type_12 rfl (by decide) rfl ?_
      refine xv_iconst (v := nI 1) (pc := 13) hC dL_type_13 (by decide) ?_
      exact hR _ _ _ _ _ _ (Or.inl ⟨3, hk9, by decide, rfl⟩) (by show 0 + rm.cells ≤ rm.cells; omega) (by show 0 + rm.slots ≤ rm.slots; omega) dL_type_14
  · skip
    refine xv_i2l (pc := 7) hC dL_type_7 ?_
    refine xv_out (pc := 8) hC dL_type_8 ?_
    refine xv_goto (tgt := 15) (pc := 9) hC dL_type_9 (by decide) ?_
    refine xv_iconst (v := 0) (pc := 15) hC dL_type_15 (by decide) ?_
    exact hR _ _ _ _ _ _ (Or.inr ⟨v, _, hv, rfl, rfl, rfl⟩) (by show 0 + rm.cells ≤ rm.cells; omega) (by show 0 + rm.slots ≤ rm.slots; omega) dL_type_16
set_option maxRecDepth 100000 in
theorem kW_run {l : Launch} {D : va_G} {dA : Nat → ClassId} {sa : String → Nat → Nat} {a : Nat → Nat} (hl : l.stackTraces = false) {rm : Room} {ao : Nat} {g : Nat → Int64}  {o : Nat ⊕ Int32} {w0 w1 : va_W} (M : CXi l D dA sa yX7_run (wz yX7_run cX7_run 3 (some .int)) rm (.ref (a 0) :: []) w0 o w1) (hk : ∀ k, o = .inl k → k ∈ ([2, 4] : List Nat)) (hrc : rcv w0 (a 0) RX7) : CPi l D dA sa ⟨"SwitchboardLaw", "run", "(LSwitchboard;[J)I"⟩ (wzW ⟨"SwitchboardLaw", "run", "(LSwitchboard;[J)I"⟩ method_38_code 3 (some .int) [(0, 8, 11, 21), (0, 8, 14, 38)]) (rmW rm 3) [.ref (a 0), .ref ao] (w0 ++ outW dA ao g) (wrP dA ao w1 [2, 4] cvI g o) := by
  refine xm_wi hl (by decide +kernel) (Nat.le_of_ble_eq_true rfl) rfl ?_
  intro p e s m args below meth c A Q hC htb hR
  show xv p l e (rmW rm 3) s m args below meth c D A 3 Q (w0 ++ outW dA ao g) 0 0 0 [(0, .ref (a 0)), (1, .ref ao)] []
  refine xv_aload_n (pc := 0) hC dL_run_0 1 rfl rfl ?_
  refine xv_iconst (v := 0) (pc := 1) hC dL_run_1 (by decide) ?_
  refine xv_aload_n (pc := 2) hC dL_run_2 0 rfl rfl ?_
  refine xv_callVxi (As := []) (pc := 3) (pre := []) (w0 := w0) (post := outW dA ao g) (w1 := w1) (w2 := w1 ++ outW dA ao g) hC M fV_X7_run wf_1426 hrc rfl ⟨Nat.le_refl _, Nat.le_refl _⟩ rfl (Nat.le_of_ble_eq_true rfl) dL_run_3 ⟨by show 0 + rm.cells ≤ rm.cells; omega, by show 0 + rm.slots ≤ rm.slots; omega⟩ rfl rfl (fun k9 hk9 => ?_) (fun v hv => ?_)
  · have h9 := hk k9 hk9
    simp only [List.mem_cons, List.not_mem_nil, or_false] at h9
    rcases h9 with rfl | rfl
    · refine xvx_catch (E := "java/lang/IllegalArgumentException") (hp := 11) hC [] (⟨0, 8, 11, 21⟩ : ExceptionTableEntry) [(⟨0, 8, 14, 38⟩ : ExceptionTableEntry)] (htb.trans rfl) (fun _ h => absurd h List.not_mem_nil) (by decide) rfl (by decide) wf_1084 rfl (fun q9 => ?_)
      refine xv_astore_n (pc := 11) (lv' := [(2, .ref q9), (0, .ref (a 0)), (1, .ref ao)]) hC dL_run_11 rfl (by decide) rfl ?_
      refine xv_iconst (v := nI 1) (pc := 12) hC dL_run_12 (by decide) ?_
      exact hR _ _ _ _ _ _ (Or.inl ⟨2, hk9, by decide, rfl⟩) (by show 0 + rm.cells ≤ rm.cells; omega) (by show 0 + rm.slots ≤ rm.slots; omega) dL_run_13
    · refine xvx_catch (E := "java/lang/UnsupportedOperationException") (hp := 14) hC [(⟨0, 8, 11, 21⟩ : ExceptionTableEntry)] (⟨0, 8, 14, 38⟩ : ExceptionTableEntry) [] (htb.trans rfl) (List.forall_mem_cons.mpr ⟨Or.inr ⟨by decide, "java/lang/IllegalArgumentException", wf_1084, by decide, by decide⟩, (fun _ h => absurd h List.not_mem_nil)⟩) (by decide) rfl (by decide) wf_1113 rfl (fun q9 => ?_)
      refine xv_astore_n (pc := 14) (lv' := [(2, .ref q9), (0, .ref (a 0)), (1, .ref ao)]) hC dL_run_14 rfl (by decide) rfl ?_
      refine xv_iconst (v := nI 2) (pc := 15) hC dL_run_15 (by decide) ?_
      exact hR _ _ _ _ _ _ (Or.inl ⟨4, hk9, by decide, rfl⟩) (by show 0 + rm.cells ≤ rm.cells; omega) (by show 0 + rm.slots ≤ rm.slots; omega) dL_run_16
  · skip
    refine xv_i2l (pc := 6) hC dL_run_6 ?_
    refine xv_out (pc := 7) hC dL_run_7 ?_
    refine xv_goto (tgt := 17) (pc := 8) hC dL_run_8 (by decide) ?_
    refine xv_iconst (v := 0) (pc := 17) hC dL_run_17 (by decide) ?_
    exact hR _ _ _ _ _ _ (Or.inr ⟨v, _, hv, rfl, rfl, rfl⟩) (by show 0 + rm.cells ≤ rm.cells; omega) (by show 0 + rm.slots ≤ rm.slots; omega) dL_run_18
set_option maxRecDepth 100000 in
theorem kW_errorPosition {l : Launch} {D : va_G} {dA : Nat → ClassId} {sa : String → Nat → Nat} {a : Nat → Nat} (hl : l.stackTraces = false) {rm : Room} {ao : Nat} {g : Nat → Int64}  {o : Nat ⊕ Int32} {w0 w1 : va_W} (M : CXi l D dA sa yX7_errorPosition (wz yX7_errorPosition cX7_errorPosition 1 (some .int)) rm (.ref (a 0) :: []) w0 o w1) (hk : ∀ k, o = .inl k → k ∈ ([5] : List Nat)) (hrc : rcv w0 (a 0) RX7) : CPi l D dA sa ⟨"SwitchboardLaw", "errorPosition", "(LSwitchboard;[J)I"⟩ (wzW ⟨"SwitchboardLaw", "errorPosition", "(LSwitchboard;[J)I"⟩ method_39_code 3 (some .int) [(0, 8, 11, 58)]) (rmW rm 1) [.ref (a 0), .ref ao] (w0 ++ outW dA ao g) (wrP dA ao w1 [5] cvI g o) := by
  refine xm_wi hl (by decide +kernel) (Nat.le_of_ble_eq_true rfl) rfl ?_
  intro p e s m args below meth c A Q hC htb hR
  show xv p l e (rmW rm 1) s m args below meth c D A 3 Q (w0 ++ outW dA ao g) 0 0 0 [(0, .ref (a 0)), (1, .ref ao)] []
  refine xv_aload_n (pc := 0) hC dL_errorPosition_0 1 rfl rfl ?_
  refine xv_iconst (v := 0) (pc := 1) hC dL_errorPosition_1 (by decide) ?_
  refine xv_aload_n (pc := 2) hC dL_errorPosition_2 0 rfl rfl ?_
  refine xv_callVxi (As := []) (pc := 3) (pre := []) (w0 := w0) (post := outW dA ao g) (w1 := w1) (w2 := w1 ++ outW dA ao g) hC M fV_X7_errorPosition wf_1510 hrc rfl ⟨Nat.le_refl _, Nat.le_refl _⟩ rfl (Nat.le_of_ble_eq_true rfl) dL_errorPosition_3 ⟨by show 0 + rm.cells ≤ rm.cells; omega, by show 0 + rm.slots ≤ rm.slots; omega⟩ rfl rfl (fun k9 hk9 => ?_) (fun v hv => ?_)
  · have h9 := hk k9 hk9
    simp only [List.mem_cons, List.not_mem_nil, or_false] at h9
    rcases h9 with rfl
    · refine xvx_catch (E := "java/util/NoSuchElementException") (hp := 11) hC [] (⟨0, 8, 11, 58⟩ : ExceptionTableEntry) [] (htb.trans rfl) (fun _ h => absurd h List.not_mem_nil) (by decide) rfl (by decide) wf_1165 rfl (fun q9 => ?_)
      refine xv_astore_n (pc := 11) (lv' := [(2, .ref q9), (0, .ref (a 0)), (1, .ref ao)]) hC dL_errorPosition_11 rfl (by decide) rfl ?_
      refine xv_iconst (v := nI 1) (pc := 12) hC dL_errorPosition_12 (by decide) ?_
      exact hR _ _ _ _ _ _ (Or.inl ⟨5, hk9, by decide, rfl⟩) (by show 0 + rm.cells ≤ rm.cells; omega) (by show 0 + rm.slots ≤ rm.slots; omega) dL_errorPosition_13
  · skip
    refine xv_i2l (pc := 6) hC dL_errorPosition_6 ?_
    refine xv_out (pc := 7) hC dL_errorPosition_7 ?_
    refine xv_goto (tgt := 14) (pc := 8) hC dL_errorPosition_8 (by decide) ?_
    refine xv_iconst (v := 0) (pc := 14) hC dL_errorPosition_14 (by decide) ?_
    exact hR _ _ _ _ _ _ (Or.inr ⟨v, _, hv, rfl, rfl, rfl⟩) (by show 0 + rm.cells ≤ rm.cells; omega) (by show 0 + rm.slots ≤ rm.slots; omega) dL_errorPosition_15
set_option maxRecDepth 100000 in
theorem kW_failedCommand {l : Launch} {D : va_G} {dA : Nat → ClassId} {sa : String → Nat → Nat} {a : Nat → Nat} (hl : l.stackTraces = false) {rm : Room} {ao : Nat} {g : Nat → Int64}  {o : Nat ⊕ Int32} {w0 w1 : va_W} (M : CXi l D dA sa yX7_failedCommand (wz yX7_failedCommand cX7_failedCommand 1 (some .int)) rm (.ref (a 0) :: []) w0 o w1) (hk : ∀ k, o = .inl k → k ∈ ([5] : List Nat)) (hrc : rcv w0 (a 0) RX7) : CPi l D dA sa ⟨"SwitchboardLaw", "failedCommand", "(LSwitchboard;[J)I"⟩ (wzW ⟨"SwitchboardLaw", "failedCommand", "(LSwitchboard;[J)I"⟩ method_40_code 3 (some .int) [(0, 8, 11, 58)]) (rmW rm 1) [.ref (a 0), .ref ao] (w0 ++ outW dA ao g) (wrP dA ao w1 [5] cvI g o) := by
  refine xm_wi hl (by decide +kernel) (Nat.le_of_ble_eq_true rfl) rfl ?_
  intro p e s m args below meth c A Q hC htb hR
  show xv p l e (rmW rm 1) s m args below meth c D A 3 Q (w0 ++ outW dA ao g) 0 0 0 [(0, .ref (a 0)), (1, .ref ao)] []
  refine xv_aload_n (pc := 0) hC dL_failedCommand_0 1 rfl rfl ?_
  refine xv_iconst (v := 0) (pc := 1) hC dL_failedCommand_1 (by decide) ?_
  refine xv_aload_n (pc := 2) hC dL_failedCommand_2 0 rfl rfl ?_
  refine xv_callVxi (As := []) (pc := 3) (pre := []) (w0 := w0) (post := outW dA ao g) (w1 := w1) (w2 := w1 ++ outW dA ao g) hC M fV_X7_failedCommand wf_1518 hrc rfl ⟨Nat.le_refl _, Nat.le_refl _⟩ rfl (Nat.le_of_ble_eq_true rfl) dL_failedCommand_3 ⟨by show 0 + rm.cells ≤ rm.cells; omega, by show 0 + rm.slots ≤ rm.slots; omega⟩ rfl rfl (fun k9 hk9 => ?_) (fun v hv => ?_)
  · have h9 := hk k9 hk9
    simp only [List.mem_cons, List.not_mem_nil, or_false] at h9
    rcases h9 with rfl
    · refine xvx_catch (E := "java/util/NoSuchElementException") (hp := 11) hC [] (⟨0, 8, 11, 58⟩ : ExceptionTableEntry) [] (htb.trans rfl) (fun _ h => absurd h List.not_mem_nil) (by decide) rfl (by decide) wf_1165 rfl (fun q9 => ?_)
      refine xv_astore_n (pc := 11) (lv' := [(2, .ref q9), (0, .ref (a 0)), (1, .ref ao)]) hC dL_failedCommand_11 rfl (by decide) rfl ?_
      refine xv_iconst (v := nI 1) (pc := 12) hC dL_failedCommand_12 (by decide) ?_
      exact hR _ _ _ _ _ _ (Or.inl ⟨5, hk9, by decide, rfl⟩) (by show 0 + rm.cells ≤ rm.cells; omega) (by show 0 + rm.slots ≤ rm.slots; omega) dL_failedCommand_13
  · skip
    refine xv_i2l (pc := 6) hC dL_failedCommand_6 ?_
    refine xv_out (pc := 7) hC dL_failedCommand_7 ?_
    refine xv_goto (tgt := 14) (pc := 8) hC dL_failedCommand_8 (by decide) ?_
    refine xv_iconst (v := 0) (pc := 14) hC dL_failedCommand_14 (by decide) ?_
    exact hR _ _ _ _ _ _ (Or.inr ⟨v, _, hv, rfl, rfl, rfl⟩) (by show 0 + rm.cells ≤ rm.cells; omega) (by show 0 + rm.slots ≤ rm.slots; omega) dL_failedCommand_15
set_option maxRecDepth 100000 in
theorem kW_undo {l : Launch} {D : va_G} {dA : Nat → ClassId} {sa : String → Nat → Nat} {a : Nat → Nat} (hl : l.stackTraces = false) {rm : Room} {ao : Nat} {g : Nat → Int64}  {o : Nat ⊕ Int32} {w0 w1 : va_W} (M : CXi l D dA sa yX7_undo (wz yX7_undo cX7_undo 1 (some .int)) rm (.ref (a 0) :: []) w0 o w1) (hk : ∀ k, o = .inl k → k ∈ ([3] : List Nat)) (hrc : rcv w0 (a 0) RX7) : CPi l D dA sa ⟨"SwitchboardLaw", "undo", "(LSwitchboard;[J)I"⟩ (wzW ⟨"SwitchboardLaw", "undo", "(LSwitchboard;[J)I"⟩ method_41_code 3 (some .int) [(0, 8, 11, 13)]) (rmW rm 1) [.ref (a 0), .ref ao] (w0 ++ outW dA ao g) (wrP dA ao w1 [3] cvI g o) := by
  refine xm_wi hl (by decide +kernel) (Nat.le_of_ble_eq_true rfl) rfl ?_
  intro p e s m args below meth c A Q hC htb hR
  show xv p l e (rmW rm 1) s m args below meth c D A 3 Q (w0 ++ outW dA ao g) 0 0 0 [(0, .ref (a 0)), (1, .ref ao)] []
  refine xv_aload_n (pc := 0) hC dL_undo_0 1 rfl rfl ?_
  refine xv_iconst (v := 0) (pc := 1) hC dL_undo_1 (by decide) ?_
  refine xv_aload_n (pc := 2) hC dL_undo_2 0 rfl rfl ?_
  refine xv_callVxi (As := []) (pc := 3) (pre := []) (w0 := w0) (post := outW dA ao g) (w1 := w1) (w2 := w1 ++ outW dA ao g) hC M fV_X7_undo wf_1526 hrc rfl ⟨Nat.le_refl _, Nat.le_refl _⟩ rfl (Nat.le_of_ble_eq_true rfl) dL_undo_3 ⟨by show 0 + rm.cells ≤ rm.cells; omega, by show 0 + rm.slots ≤ rm.slots; omega⟩ rfl rfl (fun k9 hk9 => ?_) (fun v hv => ?_)
  · have h9 := hk k9 hk9
    simp only [List.mem_cons, List.not_mem_nil, or_false] at h9
    rcases h9 with rfl
    · refine xvx_catch (E := "java/lang/IllegalStateException") (hp := 11) hC [] (⟨0, 8, 11, 13⟩ : ExceptionTableEntry) [] (htb.trans rfl) (fun _ h => absurd h List.not_mem_nil) (by decide) rfl (by decide) wf_880 rfl (fun q9 => ?_)
      refine xv_astore_n (pc := 11) (lv' := [(2, .ref q9), (0, .ref (a 0)), (1, .ref ao)]) hC dL_undo_11 rfl (by decide) rfl ?_
      refine xv_iconst (v := nI 1) (pc := 12) hC dL_undo_12 (by decide) ?_
      exact hR _ _ _ _ _ _ (Or.inl ⟨3, hk9, by decide, rfl⟩) (by show 0 + rm.cells ≤ rm.cells; omega) (by show 0 + rm.slots ≤ rm.slots; omega) dL_undo_13
  · skip
    refine xv_i2l (pc := 6) hC dL_undo_6 ?_
    refine xv_out (pc := 7) hC dL_undo_7 ?_
    refine xv_goto (tgt := 14) (pc := 8) hC dL_undo_8 (by decide) ?_
    refine xv_iconst (v := 0) (pc := 14) hC dL_undo_14 (by decide) ?_
    exact hR _ _ _ _ _ _ (Or.inr ⟨v, _, hv, rfl, rfl, rfl⟩) (by show 0 + rm.cells ≤ rm.cells; omega) (by show 0 + rm.slots ≤ rm.slots; omega) dL_undo_15
set_option maxRecDepth 100000 in
theorem kW_restore {l : Launch} {D : va_G} {dA : Nat → ClassId} {sa : String → Nat → Nat} {a : Nat → Nat} (hl : l.stackTraces = false) {rm : Room} {ao : Nat} {g : Nat → Int64}  {o : Nat ⊕ Int32} {w0 w1 : va_W} (M : CXi l D dA sa yX7_restore (wz yX7_restore cX7_restore 1 (some .int)) rm (.ref (a 0) :: []) w0 o w1) (hk : ∀ k, o = .inl k → k ∈ ([3] : List Nat)) (hrc : rcv w0 (a 0) RX7) : CPi l D dA sa ⟨"SwitchboardLaw", "restore", "(LSwitchboard;[J)I"⟩ (wzW ⟨"SwitchboardLaw", "restore", "(LSwitchboard;[J)I"⟩ method_42_code 3 (some .int) [(0, 8, 11, 13)]) (rmW rm 1) [.ref (a 0), .ref ao] (w0 ++ outW dA ao g) (wrP dA ao w1 [3] cvI g o) := by
  refine xm_wi hl (by decide +kernel) (Nat.le_of_ble_eq_true rfl) rfl ?_
  intro p e s m args below meth c A Q hC htb hR
  show xv p l e (rmW rm 1) s m args below meth c D A 3 Q (w0 ++ outW dA ao g) 0 0 0 [(0, .ref (a 0)), (1, .ref ao)] []
  refine xv_aload_n (pc := 0) hC dL_restore_0 1 rfl rfl ?_
  refine xv_iconst (v := 0) (pc := 1) hC dL_restore_1 (by decide) ?_
  refine xv_aload_n (pc := 2) hC dL_restore_2 0 rfl rfl ?_
  refine xv_callVxi (As := []) (pc := 3) (pre := []) (w0 := w0) (post := outW dA ao g) (w1 := w1) (w2 := w1 ++ outW dA ao g) hC M fV_X7_restore wf_1538 hrc rfl ⟨Nat.le_refl _, Nat.le_refl _⟩ rfl (Nat.le_of_ble_eq_true rfl) dL_restore_3 ⟨by show 0 + rm.cells ≤ rm.cells; omega, by show 0 + rm.slots ≤ rm.slots; omega⟩ rfl rfl (fun k9 hk9 => ?_) (fun v hv => ?_)
  · have h9 := hk k9 hk9
    simp only [List.mem_cons, List.not_mem_nil, or_false] at h9
    rcases h9 with rfl
    · refine xvx_catch (E := "java/lang/IllegalStateException") (hp := 11) hC [] (⟨0, 8, 11, 13⟩ : ExceptionTableEntry) [] (htb.trans rfl) (fun _ h => absurd h List.not_mem_nil) (by decide) rfl (by decide) wf_880 rfl (fun q9 => ?_)
      refine xv_astore_n (pc := 11) (lv' := [(2, .ref q9), (0, .ref (a 0)), (1, .ref ao)]) hC dL_restore_11 rfl (by decide) rfl ?_
      refine xv_iconst (v := nI 1) (pc := 12) hC dL_restore_12 (by decide) ?_
      exact hR _ _ _ _ _ _ (Or.inl ⟨3, hk9, by decide, rfl⟩) (by show 0 + rm.cells ≤ rm.cells; omega) (by show 0 + rm.slots ≤ rm.slots; omega) dL_restore_13
  · skip
    refine xv_i2l (pc := 6) hC dL_restore_6 ?_
    refine xv_out (pc := 7) hC dL_restore_7 ?_
    refine xv_goto (tgt := 14) (pc := 8) hC dL_restore_8 (by decide) ?_
    refine xv_iconst (v := 0) (pc := 14) hC dL_restore_14 (by decide) ?_
    exact hR _ _ _ _ _ _ (Or.inr ⟨v, _, hv, rfl, rfl, rfl⟩) (by show 0 + rm.cells ≤ rm.cells; omega) (by show 0 + rm.slots ≤ rm.slots; omega) dL_restore_15
