theorem wf_877 : Cond.methodLink "SwitchboardLaw" 154 ⟨"SwitchboardLaw", "addSwitch", "(LSwitchboard;[J)I"⟩ ∈ WT := wt_of (i := 877) (by decide +kernel) rfl
theorem wf_1633 : Cond.methodLink "SwitchboardLaw" 159 ⟨"SwitchboardModel", "addSwitch", "()I"⟩ ∈ WT := wt_of (i := 1633) (by decide +kernel) rfl
theorem wf_1636 : Cond.code ⟨"SwitchboardModel", "addSwitch", "()I"⟩ prog_10_method_20_code 1 (some .int) ∈ WT := wt_of (i := 1636) (by decide +kernel) rfl
theorem wf_1634 : Cond.instanceMethod ⟨"SwitchboardModel", "addSwitch", "()I"⟩ ∈ WT := wt_of (i := 1634) (by decide +kernel) rfl
theorem wf_1635 : Cond.selects "SwitchboardModel" ⟨"SwitchboardModel", "addSwitch", "()I"⟩ ⟨"SwitchboardModel", "addSwitch", "()I"⟩ ∈ WT := wt_of (i := 1635) (by decide +kernel) rfl
theorem fV_X8_addSwitch : cfV yX8_addSwitch cX8_addSwitch 1 (some .int) 0 := ⟨⟨⟨by decide +kernel, by decide +kernel, by decide +kernel⟩, wf_13, wf_1636⟩, wf_1634, wf_1635⟩
theorem wf_1078 : Cond.methodLink "SwitchboardLaw" 163 ⟨"SwitchboardLaw", "addTrunk", "(LSwitchboard;III[J)I"⟩ ∈ WT := wt_of (i := 1078) (by decide +kernel) rfl
theorem wf_1656 : Cond.methodLink "SwitchboardLaw" 166 ⟨"SwitchboardModel", "addTrunk", "(III)I"⟩ ∈ WT := wt_of (i := 1656) (by decide +kernel) rfl
theorem wf_1659 : Cond.code ⟨"SwitchboardModel", "addTrunk", "(III)I"⟩ prog_10_method_23_code 5 (some .int) ∈ WT := wt_of (i := 1659) (by decide +kernel) rfl
theorem wf_1657 : Cond.instanceMethod ⟨"SwitchboardModel", "addTrunk", "(III)I"⟩ ∈ WT := wt_of (i := 1657) (by decide +kernel) rfl
theorem wf_1658 : Cond.selects "SwitchboardModel" ⟨"SwitchboardModel", "addTrunk", "(III)I"⟩ ⟨"SwitchboardModel", "addTrunk", "(III)I"⟩ ∈ WT := wt_of (i := 1658) (by decide +kernel) rfl
theorem fV_X8_addTrunk : cfV yX8_addTrunk cX8_addTrunk 5 (some .int) 3 := ⟨⟨⟨by decide +kernel, by decide +kernel, by decide +kernel⟩, wf_13, wf_1659⟩, wf_1657, wf_1658⟩
theorem wf_1089 : Cond.methodLink "SwitchboardLaw" 167 ⟨"SwitchboardLaw", "addSubscriber", "(LSwitchboard;II[J)I"⟩ ∈ WT := wt_of (i := 1089) (by decide +kernel) rfl
theorem wf_1679 : Cond.methodLink "SwitchboardLaw" 170 ⟨"SwitchboardModel", "addSubscriber", "(II)I"⟩ ∈ WT := wt_of (i := 1679) (by decide +kernel) rfl
theorem wf_1682 : Cond.code ⟨"SwitchboardModel", "addSubscriber", "(II)I"⟩ prog_10_method_26_code 4 (some .int) ∈ WT := wt_of (i := 1682) (by decide +kernel) rfl
theorem wf_1680 : Cond.instanceMethod ⟨"SwitchboardModel", "addSubscriber", "(II)I"⟩ ∈ WT := wt_of (i := 1680) (by decide +kernel) rfl
theorem wf_1681 : Cond.selects "SwitchboardModel" ⟨"SwitchboardModel", "addSubscriber", "(II)I"⟩ ⟨"SwitchboardModel", "addSubscriber", "(II)I"⟩ ∈ WT := wt_of (i := 1681) (by decide +kernel) rfl
theorem fV_X8_addSubscriber : cfV yX8_addSubscriber cX8_addSubscriber 4 (some .int) 2 := ⟨⟨⟨by decide +kernel, by decide +kernel, by decide +kernel⟩, wf_13, wf_1682⟩, wf_1680, wf_1681⟩
theorem wf_1096 : Cond.methodLink "SwitchboardLaw" 171 ⟨"SwitchboardLaw", "cut", "(LSwitchboard;I[J)I"⟩ ∈ WT := wt_of (i := 1096) (by decide +kernel) rfl
theorem wf_1691 : Cond.methodLink "SwitchboardLaw" 174 ⟨"SwitchboardModel", "cut", "(I)Z"⟩ ∈ WT := wt_of (i := 1691) (by decide +kernel) rfl
theorem wf_1694 : Cond.code ⟨"SwitchboardModel", "cut", "(I)Z"⟩ prog_10_method_39_code 3 (some .boolean) ∈ WT := wt_of (i := 1694) (by decide +kernel) rfl
theorem wf_1692 : Cond.instanceMethod ⟨"SwitchboardModel", "cut", "(I)Z"⟩ ∈ WT := wt_of (i := 1692) (by decide +kernel) rfl
theorem wf_1693 : Cond.selects "SwitchboardModel" ⟨"SwitchboardModel", "cut", "(I)Z"⟩ ⟨"SwitchboardModel", "cut", "(I)Z"⟩ ∈ WT := wt_of (i := 1693) (by decide +kernel) rfl
theorem fV_X8_cut : cfV yX8_cut cX8_cut 3 (some .boolean) 1 := ⟨⟨⟨by decide +kernel, by decide +kernel, by decide +kernel⟩, wf_13, wf_1694⟩, wf_1692, wf_1693⟩
theorem wf_1103 : Cond.methodLink "SwitchboardLaw" 175 ⟨"SwitchboardLaw", "mend", "(LSwitchboard;I[J)I"⟩ ∈ WT := wt_of (i := 1103) (by decide +kernel) rfl
theorem wf_1771 : Cond.methodLink "SwitchboardLaw" 177 ⟨"SwitchboardModel", "mend", "(I)I"⟩ ∈ WT := wt_of (i := 1771) (by decide +kernel) rfl
theorem wf_1774 : Cond.code ⟨"SwitchboardModel", "mend", "(I)I"⟩ prog_10_method_42_code 3 (some .int) ∈ WT := wt_of (i := 1774) (by decide +kernel) rfl
theorem wf_1772 : Cond.instanceMethod ⟨"SwitchboardModel", "mend", "(I)I"⟩ ∈ WT := wt_of (i := 1772) (by decide +kernel) rfl
theorem wf_1773 : Cond.selects "SwitchboardModel" ⟨"SwitchboardModel", "mend", "(I)I"⟩ ⟨"SwitchboardModel", "mend", "(I)I"⟩ ∈ WT := wt_of (i := 1773) (by decide +kernel) rfl
theorem fV_X8_mend : cfV yX8_mend cX8_mend 3 (some .int) 1 := ⟨⟨⟨by decide +kernel, by decide +kernel, by decide +kernel⟩, wf_13, wf_1774⟩, wf_1772, wf_1773⟩
theorem wf_1110 : Cond.methodLink "SwitchboardLaw" 178 ⟨"SwitchboardLaw", "call", "(LSwitchboard;II[J)I"⟩ ∈ WT := wt_of (i := 1110) (by decide +kernel) rfl
theorem wf_1783 : Cond.methodLink "SwitchboardLaw" 180 ⟨"SwitchboardModel", "call", "(II)I"⟩ ∈ WT := wt_of (i := 1783) (by decide +kernel) rfl
theorem wf_1786 : Cond.code ⟨"SwitchboardModel", "call", "(II)I"⟩ prog_10_method_46_code 4 (some .int) ∈ WT := wt_of (i := 1786) (by decide +kernel) rfl
theorem wf_1784 : Cond.instanceMethod ⟨"SwitchboardModel", "call", "(II)I"⟩ ∈ WT := wt_of (i := 1784) (by decide +kernel) rfl
theorem wf_1785 : Cond.selects "SwitchboardModel" ⟨"SwitchboardModel", "call", "(II)I"⟩ ⟨"SwitchboardModel", "call", "(II)I"⟩ ∈ WT := wt_of (i := 1785) (by decide +kernel) rfl
theorem fV_X8_call : cfV yX8_call cX8_call 4 (some .int) 2 := ⟨⟨⟨by decide +kernel, by decide +kernel, by decide +kernel⟩, wf_13, wf_1786⟩, wf_1784, wf_1785⟩
theorem wf_1118 : Cond.methodLink "SwitchboardLaw" 181 ⟨"SwitchboardLaw", "hangUp", "(LSwitchboard;I[J)I"⟩ ∈ WT := wt_of (i := 1118) (by decide +kernel) rfl
theorem wf_1807 : Cond.methodLink "SwitchboardLaw" 183 ⟨"SwitchboardModel", "hangUp", "(I)I"⟩ ∈ WT := wt_of (i := 1807) (by decide +kernel) rfl
theorem wf_1810 : Cond.code ⟨"SwitchboardModel", "hangUp", "(I)I"⟩ prog_10_method_48_code 3 (some .int) ∈ WT := wt_of (i := 1810) (by decide +kernel) rfl
theorem wf_1808 : Cond.instanceMethod ⟨"SwitchboardModel", "hangUp", "(I)I"⟩ ∈ WT := wt_of (i := 1808) (by decide +kernel) rfl
theorem wf_1809 : Cond.selects "SwitchboardModel" ⟨"SwitchboardModel", "hangUp", "(I)I"⟩ ⟨"SwitchboardModel", "hangUp", "(I)I"⟩ ∈ WT := wt_of (i := 1809) (by decide +kernel) rfl
theorem fV_X8_hangUp : cfV yX8_hangUp cX8_hangUp 3 (some .int) 1 := ⟨⟨⟨by decide +kernel, by decide +kernel, by decide +kernel⟩, wf_13, wf_1810⟩, wf_1808, wf_1809⟩
theorem wf_1125 : Cond.methodLink "SwitchboardLaw" 184 ⟨"SwitchboardLaw", "pass", "(LSwitchboard;I[J)I"⟩ ∈ WT := wt_of (i := 1125) (by decide +kernel) rfl
theorem wf_1815 : Cond.methodLink "SwitchboardLaw" 186 ⟨"SwitchboardModel", "pass", "(I)I"⟩ ∈ WT := wt_of (i := 1815) (by decide +kernel) rfl
theorem wf_1818 : Cond.code ⟨"SwitchboardModel", "pass", "(I)I"⟩ prog_10_method_50_code 2 (some .int) ∈ WT := wt_of (i := 1818) (by decide +kernel) rfl
theorem wf_1816 : Cond.instanceMethod ⟨"SwitchboardModel", "pass", "(I)I"⟩ ∈ WT := wt_of (i := 1816) (by decide +kernel) rfl
theorem wf_1817 : Cond.selects "SwitchboardModel" ⟨"SwitchboardModel", "pass", "(I)I"⟩ ⟨"SwitchboardModel", "pass", "(I)I"⟩ ∈ WT := wt_of (i := 1817) (by decide +kernel) rfl
theorem fV_X8_pass : cfV yX8_pass cX8_pass 2 (some .int) 1 := ⟨⟨⟨by decide +kernel, by decide +kernel, by decide +kernel⟩, wf_13, wf_1818⟩, wf_1816, wf_1817⟩
theorem wf_344 : Cond.methodLink "SwitchboardLaw" 187 ⟨"Switchboard", "switches", "()I"⟩ ∈ WT := wt_of (i := 344) (by decide +kernel) rfl
theorem wf_1823 : Cond.methodLink "SwitchboardLaw" 190 ⟨"SwitchboardModel", "switches", "()I"⟩ ∈ WT := wt_of (i := 1823) (by decide +kernel) rfl
theorem wf_347 : Cond.code ⟨"Switchboard", "switches", "()I"⟩ prog_1_method_17_code 1 (some .int) ∈ WT := wt_of (i := 347) (by decide +kernel) rfl
theorem wf_345 : Cond.instanceMethod ⟨"Switchboard", "switches", "()I"⟩ ∈ WT := wt_of (i := 345) (by decide +kernel) rfl
theorem wf_346 : Cond.selects "Switchboard" ⟨"Switchboard", "switches", "()I"⟩ ⟨"Switchboard", "switches", "()I"⟩ ∈ WT := wt_of (i := 346) (by decide +kernel) rfl
theorem fV_X7_switches : cfV yX7_switches cX7_switches 1 (some .int) 0 := ⟨⟨⟨by decide +kernel, by decide +kernel, by decide +kernel⟩, wf_1, wf_347⟩, wf_345, wf_346⟩
theorem wf_1826 : Cond.code ⟨"SwitchboardModel", "switches", "()I"⟩ prog_10_method_53_code 1 (some .int) ∈ WT := wt_of (i := 1826) (by decide +kernel) rfl
theorem wf_1824 : Cond.instanceMethod ⟨"SwitchboardModel", "switches", "()I"⟩ ∈ WT := wt_of (i := 1824) (by decide +kernel) rfl
theorem wf_1825 : Cond.selects "SwitchboardModel" ⟨"SwitchboardModel", "switches", "()I"⟩ ⟨"SwitchboardModel", "switches", "()I"⟩ ∈ WT := wt_of (i := 1825) (by decide +kernel) rfl
theorem fV_X8_switches : cfV yX8_switches cX8_switches 1 (some .int) 0 := ⟨⟨⟨by decide +kernel, by decide +kernel, by decide +kernel⟩, wf_13, wf_1826⟩, wf_1824, wf_1825⟩
theorem wf_348 : Cond.methodLink "SwitchboardLaw" 191 ⟨"Switchboard", "trunks", "()I"⟩ ∈ WT := wt_of (i := 348) (by decide +kernel) rfl
theorem wf_1831 : Cond.methodLink "SwitchboardLaw" 194 ⟨"SwitchboardModel", "trunks", "()I"⟩ ∈ WT := wt_of (i := 1831) (by decide +kernel) rfl
theorem wf_351 : Cond.code ⟨"Switchboard", "trunks", "()I"⟩ prog_1_method_18_code 1 (some .int) ∈ WT := wt_of (i := 351) (by decide +kernel) rfl
theorem wf_349 : Cond.instanceMethod ⟨"Switchboard", "trunks", "()I"⟩ ∈ WT := wt_of (i := 349) (by decide +kernel) rfl
theorem wf_350 : Cond.selects "Switchboard" ⟨"Switchboard", "trunks", "()I"⟩ ⟨"Switchboard", "trunks", "()I"⟩ ∈ WT := wt_of (i := 350) (by decide +kernel) rfl
theorem fV_X7_trunks : cfV yX7_trunks cX7_trunks 1 (some .int) 0 := ⟨⟨⟨by decide +kernel, by decide +kernel, by decide +kernel⟩, wf_1, wf_351⟩, wf_349, wf_350⟩
theorem wf_1834 : Cond.code ⟨"SwitchboardModel", "trunks", "()I"⟩ prog_10_method_54_code 1 (some .int) ∈ WT := wt_of (i := 1834) (by decide +kernel) rfl
theorem wf_1832 : Cond.instanceMethod ⟨"SwitchboardModel", "trunks", "()I"⟩ ∈ WT := wt_of (i := 1832) (by decide +kernel) rfl
theorem wf_1833 : Cond.selects "SwitchboardModel" ⟨"SwitchboardModel", "trunks", "()I"⟩ ⟨"SwitchboardModel", "trunks", "()I"⟩ ∈ WT := wt_of (i := 1833) (by decide +kernel) rfl
theorem fV_X8_trunks : cfV yX8_trunks cX8_trunks 1 (some .int) 0 := ⟨⟨⟨by decide +kernel, by decide +kernel, by decide +kernel⟩, wf_13, wf_1834⟩, wf_1832, wf_1833⟩
theorem wf_1132 : Cond.methodLink "SwitchboardLaw" 195 ⟨"SwitchboardLaw", "trunkLength", "(LSwitchboard;I[J)I"⟩ ∈ WT := wt_of (i := 1132) (by decide +kernel) rfl
theorem wf_1835 : Cond.methodLink "SwitchboardLaw" 197 ⟨"SwitchboardModel", "trunkLength", "(I)I"⟩ ∈ WT := wt_of (i := 1835) (by decide +kernel) rfl
theorem wf_1838 : Cond.code ⟨"SwitchboardModel", "trunkLength", "(I)I"⟩ prog_10_method_55_code 2 (some .int) ∈ WT := wt_of (i := 1838) (by decide +kernel) rfl
theorem wf_1836 : Cond.instanceMethod ⟨"SwitchboardModel", "trunkLength", "(I)I"⟩ ∈ WT := wt_of (i := 1836) (by decide +kernel) rfl
theorem wf_1837 : Cond.selects "SwitchboardModel" ⟨"SwitchboardModel", "trunkLength", "(I)I"⟩ ⟨"SwitchboardModel", "trunkLength", "(I)I"⟩ ∈ WT := wt_of (i := 1837) (by decide +kernel) rfl
theorem fV_X8_trunkLength : cfV yX8_trunkLength cX8_trunkLength 2 (some .int) 1 := ⟨⟨⟨by decide +kernel, by decide +kernel, by decide +kernel⟩, wf_13, wf_1838⟩, wf_1836, wf_1837⟩
theorem wf_1145 : Cond.methodLink "SwitchboardLaw" 198 ⟨"SwitchboardLaw", "otherEnd", "(LSwitchboard;II[J)I"⟩ ∈ WT := wt_of (i := 1145) (by decide +kernel) rfl
theorem wf_1843 : Cond.methodLink "SwitchboardLaw" 200 ⟨"SwitchboardModel", "otherEnd", "(II)I"⟩ ∈ WT := wt_of (i := 1843) (by decide +kernel) rfl
theorem wf_1846 : Cond.code ⟨"SwitchboardModel", "otherEnd", "(II)I"⟩ prog_10_method_56_code 3 (some .int) ∈ WT := wt_of (i := 1846) (by decide +kernel) rfl
theorem wf_1844 : Cond.instanceMethod ⟨"SwitchboardModel", "otherEnd", "(II)I"⟩ ∈ WT := wt_of (i := 1844) (by decide +kernel) rfl
theorem wf_1845 : Cond.selects "SwitchboardModel" ⟨"SwitchboardModel", "otherEnd", "(II)I"⟩ ⟨"SwitchboardModel", "otherEnd", "(II)I"⟩ ∈ WT := wt_of (i := 1845) (by decide +kernel) rfl
theorem fV_X8_otherEnd : cfV yX8_otherEnd cX8_otherEnd 3 (some .int) 2 := ⟨⟨⟨by decide +kernel, by decide +kernel, by decide +kernel⟩, wf_13, wf_1846⟩, wf_1844, wf_1845⟩
theorem wf_1154 : Cond.methodLink "SwitchboardLaw" 201 ⟨"SwitchboardLaw", "isCut", "(LSwitchboard;I[J)I"⟩ ∈ WT := wt_of (i := 1154) (by decide +kernel) rfl
theorem wf_1847 : Cond.methodLink "SwitchboardLaw" 203 ⟨"SwitchboardModel", "isCut", "(I)Z"⟩ ∈ WT := wt_of (i := 1847) (by decide +kernel) rfl
theorem wf_1850 : Cond.code ⟨"SwitchboardModel", "isCut", "(I)Z"⟩ prog_10_method_57_code 2 (some .boolean) ∈ WT := wt_of (i := 1850) (by decide +kernel) rfl
theorem wf_1848 : Cond.instanceMethod ⟨"SwitchboardModel", "isCut", "(I)Z"⟩ ∈ WT := wt_of (i := 1848) (by decide +kernel) rfl
theorem wf_1849 : Cond.selects "SwitchboardModel" ⟨"SwitchboardModel", "isCut", "(I)Z"⟩ ⟨"SwitchboardModel", "isCut", "(I)Z"⟩ ∈ WT := wt_of (i := 1849) (by decide +kernel) rfl
theorem fV_X8_isCut : cfV yX8_isCut cX8_isCut 2 (some .boolean) 1 := ⟨⟨⟨by decide +kernel, by decide +kernel, by decide +kernel⟩, wf_13, wf_1850⟩, wf_1848, wf_1849⟩
theorem wf_1162 : Cond.methodLink "SwitchboardLaw" 204 ⟨"SwitchboardLaw", "userOf", "(LSwitchboard;I[J)I"⟩ ∈ WT := wt_of (i := 1162) (by decide +kernel) rfl
theorem wf_1851 : Cond.methodLink "SwitchboardLaw" 206 ⟨"SwitchboardModel", "userOf", "(I)I"⟩ ∈ WT := wt_of (i := 1851) (by decide +kernel) rfl
theorem wf_1854 : Cond.code ⟨"SwitchboardModel", "userOf", "(I)I"⟩ prog_10_method_58_code 2 (some .int) ∈ WT := wt_of (i := 1854) (by decide +kernel) rfl
theorem wf_1852 : Cond.instanceMethod ⟨"SwitchboardModel", "userOf", "(I)I"⟩ ∈ WT := wt_of (i := 1852) (by decide +kernel) rfl
theorem wf_1853 : Cond.selects "SwitchboardModel" ⟨"SwitchboardModel", "userOf", "(I)I"⟩ ⟨"SwitchboardModel", "userOf", "(I)I"⟩ ∈ WT := wt_of (i := 1853) (by decide +kernel) rfl
theorem fV_X8_userOf : cfV yX8_userOf cX8_userOf 2 (some .int) 1 := ⟨⟨⟨by decide +kernel, by decide +kernel, by decide +kernel⟩, wf_13, wf_1854⟩, wf_1852, wf_1853⟩
theorem wf_1186 : Cond.methodLink "SwitchboardLaw" 207 ⟨"SwitchboardLaw", "minutesOn", "(LSwitchboard;I[J)I"⟩ ∈ WT := wt_of (i := 1186) (by decide +kernel) rfl
theorem wf_1855 : Cond.methodLink "SwitchboardLaw" 209 ⟨"SwitchboardModel", "minutesOn", "(I)I"⟩ ∈ WT := wt_of (i := 1855) (by decide +kernel) rfl
theorem wf_1858 : Cond.code ⟨"SwitchboardModel", "minutesOn", "(I)I"⟩ prog_10_method_59_code 2 (some .int) ∈ WT := wt_of (i := 1858) (by decide +kernel) rfl
theorem wf_1856 : Cond.instanceMethod ⟨"SwitchboardModel", "minutesOn", "(I)I"⟩ ∈ WT := wt_of (i := 1856) (by decide +kernel) rfl
theorem wf_1857 : Cond.selects "SwitchboardModel" ⟨"SwitchboardModel", "minutesOn", "(I)I"⟩ ⟨"SwitchboardModel", "minutesOn", "(I)I"⟩ ∈ WT := wt_of (i := 1857) (by decide +kernel) rfl
theorem fV_X8_minutesOn : cfV yX8_minutesOn cX8_minutesOn 2 (some .int) 1 := ⟨⟨⟨by decide +kernel, by decide +kernel, by decide +kernel⟩, wf_13, wf_1858⟩, wf_1856, wf_1857⟩
theorem wf_1193 : Cond.methodLink "SwitchboardLaw" 210 ⟨"SwitchboardLaw", "routeLength", "(LSwitchboard;II[J)I"⟩ ∈ WT := wt_of (i := 1193) (by decide +kernel) rfl
theorem wf_1859 : Cond.methodLink "SwitchboardLaw" 212 ⟨"SwitchboardModel", "routeLength", "(II)I"⟩ ∈ WT := wt_of (i := 1859) (by decide +kernel) rfl
theorem wf_1862 : Cond.code ⟨"SwitchboardModel", "routeLength", "(II)I"⟩ prog_10_method_61_code 3 (some .int) ∈ WT := wt_of (i := 1862) (by decide +kernel) rfl
theorem wf_1860 : Cond.instanceMethod ⟨"SwitchboardModel", "routeLength", "(II)I"⟩ ∈ WT := wt_of (i := 1860) (by decide +kernel) rfl
theorem wf_1861 : Cond.selects "SwitchboardModel" ⟨"SwitchboardModel", "routeLength", "(II)I"⟩ ⟨"SwitchboardModel", "routeLength", "(II)I"⟩ ∈ WT := wt_of (i := 1861) (by decide +kernel) rfl
theorem fV_X8_routeLength : cfV yX8_routeLength cX8_routeLength 3 (some .int) 2 := ⟨⟨⟨by decide +kernel, by decide +kernel, by decide +kernel⟩, wf_13, wf_1862⟩, wf_1860, wf_1861⟩
theorem wf_1210 : Cond.methodLink "SwitchboardLaw" 213 ⟨"SwitchboardLaw", "routeLengthByRelaxation", "(LSwitchboard;II[J)I"⟩ ∈ WT := wt_of (i := 1210) (by decide +kernel) rfl
theorem wf_1867 : Cond.methodLink "SwitchboardLaw" 215 ⟨"SwitchboardModel", "routeLengthByRelaxation", "(II)I"⟩ ∈ WT := wt_of (i := 1867) (by decide +kernel) rfl
theorem wf_1870 : Cond.code ⟨"SwitchboardModel", "routeLengthByRelaxation", "(II)I"⟩ prog_10_method_62_code 3 (some .int) ∈ WT := wt_of (i := 1870) (by decide +kernel) rfl
theorem wf_1868 : Cond.instanceMethod ⟨"SwitchboardModel", "routeLengthByRelaxation", "(II)I"⟩ ∈ WT := wt_of (i := 1868) (by decide +kernel) rfl
theorem wf_1869 : Cond.selects "SwitchboardModel" ⟨"SwitchboardModel", "routeLengthByRelaxation", "(II)I"⟩ ⟨"SwitchboardModel", "routeLengthByRelaxation", "(II)I"⟩ ∈ WT := wt_of (i := 1869) (by decide +kernel) rfl
theorem fV_X8_routeLengthByRelaxation : cfV yX8_routeLengthByRelaxation cX8_routeLengthByRelaxation 3 (some .int) 2 := ⟨⟨⟨by decide +kernel, by decide +kernel, by decide +kernel⟩, wf_13, wf_1870⟩, wf_1868, wf_1869⟩
theorem wf_1218 : Cond.methodLink "SwitchboardLaw" 216 ⟨"SwitchboardLaw", "disjointRoutes", "(LSwitchboard;II[J)I"⟩ ∈ WT := wt_of (i := 1218) (by decide +kernel) rfl
theorem wf_1871 : Cond.methodLink "SwitchboardLaw" 218 ⟨"SwitchboardModel", "disjointRoutes", "(II)I"⟩ ∈ WT := wt_of (i := 1871) (by decide +kernel) rfl
theorem wf_1874 : Cond.code ⟨"SwitchboardModel", "disjointRoutes", "(II)I"⟩ prog_10_method_65_code 3 (some .int) ∈ WT := wt_of (i := 1874) (by decide +kernel) rfl
theorem wf_1872 : Cond.instanceMethod ⟨"SwitchboardModel", "disjointRoutes", "(II)I"⟩ ∈ WT := wt_of (i := 1872) (by decide +kernel) rfl
theorem wf_1873 : Cond.selects "SwitchboardModel" ⟨"SwitchboardModel", "disjointRoutes", "(II)I"⟩ ⟨"SwitchboardModel", "disjointRoutes", "(II)I"⟩ ∈ WT := wt_of (i := 1873) (by decide +kernel) rfl
theorem fV_X8_disjointRoutes : cfV yX8_disjointRoutes cX8_disjointRoutes 3 (some .int) 2 := ⟨⟨⟨by decide +kernel, by decide +kernel, by decide +kernel⟩, wf_13, wf_1874⟩, wf_1872, wf_1873⟩
theorem wf_1230 : Cond.methodLink "SwitchboardLaw" 219 ⟨"SwitchboardLaw", "minimalCut", "(LSwitchboard;II[J)I"⟩ ∈ WT := wt_of (i := 1230) (by decide +kernel) rfl
theorem wf_1883 : Cond.methodLink "SwitchboardLaw" 221 ⟨"SwitchboardModel", "minimalCut", "(II)I"⟩ ∈ WT := wt_of (i := 1883) (by decide +kernel) rfl
theorem wf_1886 : Cond.code ⟨"SwitchboardModel", "minimalCut", "(II)I"⟩ prog_10_method_66_code 3 (some .int) ∈ WT := wt_of (i := 1886) (by decide +kernel) rfl
theorem wf_1884 : Cond.instanceMethod ⟨"SwitchboardModel", "minimalCut", "(II)I"⟩ ∈ WT := wt_of (i := 1884) (by decide +kernel) rfl
theorem wf_1885 : Cond.selects "SwitchboardModel" ⟨"SwitchboardModel", "minimalCut", "(II)I"⟩ ⟨"SwitchboardModel", "minimalCut", "(II)I"⟩ ∈ WT := wt_of (i := 1885) (by decide +kernel) rfl
theorem fV_X8_minimalCut : cfV yX8_minimalCut cX8_minimalCut 3 (some .int) 2 := ⟨⟨⟨by decide +kernel, by decide +kernel, by decide +kernel⟩, wf_13, wf_1886⟩, wf_1884, wf_1885⟩
theorem wf_352 : Cond.methodLink "SwitchboardLaw" 222 ⟨"Switchboard", "subscribers", "()I"⟩ ∈ WT := wt_of (i := 352) (by decide +kernel) rfl
theorem wf_1887 : Cond.methodLink "SwitchboardLaw" 225 ⟨"SwitchboardModel", "subscribers", "()I"⟩ ∈ WT := wt_of (i := 1887) (by decide +kernel) rfl
theorem wf_355 : Cond.code ⟨"Switchboard", "subscribers", "()I"⟩ prog_1_method_32_code 1 (some .int) ∈ WT := wt_of (i := 355) (by decide +kernel) rfl
theorem wf_353 : Cond.instanceMethod ⟨"Switchboard", "subscribers", "()I"⟩ ∈ WT := wt_of (i := 353) (by decide +kernel) rfl
theorem wf_354 : Cond.selects "Switchboard" ⟨"Switchboard", "subscribers", "()I"⟩ ⟨"Switchboard", "subscribers", "()I"⟩ ∈ WT := wt_of (i := 354) (by decide +kernel) rfl
theorem fV_X7_subscribers : cfV yX7_subscribers cX7_subscribers 1 (some .int) 0 := ⟨⟨⟨by decide +kernel, by decide +kernel, by decide +kernel⟩, wf_1, wf_355⟩, wf_353, wf_354⟩
theorem wf_1890 : Cond.code ⟨"SwitchboardModel", "subscribers", "()I"⟩ prog_10_method_67_code 1 (some .int) ∈ WT := wt_of (i := 1890) (by decide +kernel) rfl
theorem wf_1888 : Cond.instanceMethod ⟨"SwitchboardModel", "subscribers", "()I"⟩ ∈ WT := wt_of (i := 1888) (by decide +kernel) rfl
theorem wf_1889 : Cond.selects "SwitchboardModel" ⟨"SwitchboardModel", "subscribers", "()I"⟩ ⟨"SwitchboardModel", "subscribers", "()I"⟩ ∈ WT := wt_of (i := 1889) (by decide +kernel) rfl
theorem fV_X8_subscribers : cfV yX8_subscribers cX8_subscribers 1 (some .int) 0 := ⟨⟨⟨by decide +kernel, by decide +kernel, by decide +kernel⟩, wf_13, wf_1890⟩, wf_1888, wf_1889⟩
theorem wf_1238 : Cond.methodLink "SwitchboardLaw" 226 ⟨"SwitchboardLaw", "home", "(LSwitchboard;I[J)I"⟩ ∈ WT := wt_of (i := 1238) (by decide +kernel) rfl
theorem wf_1891 : Cond.methodLink "SwitchboardLaw" 228 ⟨"SwitchboardModel", "home", "(I)I"⟩ ∈ WT := wt_of (i := 1891) (by decide +kernel) rfl
theorem wf_1894 : Cond.code ⟨"SwitchboardModel", "home", "(I)I"⟩ prog_10_method_69_code 2 (some .int) ∈ WT := wt_of (i := 1894) (by decide +kernel) rfl
theorem wf_1892 : Cond.instanceMethod ⟨"SwitchboardModel", "home", "(I)I"⟩ ∈ WT := wt_of (i := 1892) (by decide +kernel) rfl
theorem wf_1893 : Cond.selects "SwitchboardModel" ⟨"SwitchboardModel", "home", "(I)I"⟩ ⟨"SwitchboardModel", "home", "(I)I"⟩ ∈ WT := wt_of (i := 1893) (by decide +kernel) rfl
theorem fV_X8_home : cfV yX8_home cX8_home 2 (some .int) 1 := ⟨⟨⟨by decide +kernel, by decide +kernel, by decide +kernel⟩, wf_13, wf_1894⟩, wf_1892, wf_1893⟩
theorem wf_1250 : Cond.methodLink "SwitchboardLaw" 229 ⟨"SwitchboardLaw", "tariff", "(LSwitchboard;I[J)I"⟩ ∈ WT := wt_of (i := 1250) (by decide +kernel) rfl
theorem wf_1899 : Cond.methodLink "SwitchboardLaw" 231 ⟨"SwitchboardModel", "tariff", "(I)I"⟩ ∈ WT := wt_of (i := 1899) (by decide +kernel) rfl
theorem wf_1902 : Cond.code ⟨"SwitchboardModel", "tariff", "(I)I"⟩ prog_10_method_70_code 2 (some .int) ∈ WT := wt_of (i := 1902) (by decide +kernel) rfl
theorem wf_1900 : Cond.instanceMethod ⟨"SwitchboardModel", "tariff", "(I)I"⟩ ∈ WT := wt_of (i := 1900) (by decide +kernel) rfl
theorem wf_1901 : Cond.selects "SwitchboardModel" ⟨"SwitchboardModel", "tariff", "(I)I"⟩ ⟨"SwitchboardModel", "tariff", "(I)I"⟩ ∈ WT := wt_of (i := 1901) (by decide +kernel) rfl
theorem fV_X8_tariff : cfV yX8_tariff cX8_tariff 2 (some .int) 1 := ⟨⟨⟨by decide +kernel, by decide +kernel, by decide +kernel⟩, wf_13, wf_1902⟩, wf_1900, wf_1901⟩
theorem wf_1257 : Cond.methodLink "SwitchboardLaw" 232 ⟨"SwitchboardLaw", "bill", "(LSwitchboard;I[J)I"⟩ ∈ WT := wt_of (i := 1257) (by decide +kernel) rfl
theorem wf_1903 : Cond.methodLink "SwitchboardLaw" 234 ⟨"SwitchboardModel", "bill", "(I)I"⟩ ∈ WT := wt_of (i := 1903) (by decide +kernel) rfl
theorem wf_1906 : Cond.code ⟨"SwitchboardModel", "bill", "(I)I"⟩ prog_10_method_71_code 2 (some .int) ∈ WT := wt_of (i := 1906) (by decide +kernel) rfl
theorem wf_1904 : Cond.instanceMethod ⟨"SwitchboardModel", "bill", "(I)I"⟩ ∈ WT := wt_of (i := 1904) (by decide +kernel) rfl
theorem wf_1905 : Cond.selects "SwitchboardModel" ⟨"SwitchboardModel", "bill", "(I)I"⟩ ⟨"SwitchboardModel", "bill", "(I)I"⟩ ∈ WT := wt_of (i := 1905) (by decide +kernel) rfl
theorem fV_X8_bill : cfV yX8_bill cX8_bill 2 (some .int) 1 := ⟨⟨⟨by decide +kernel, by decide +kernel, by decide +kernel⟩, wf_13, wf_1906⟩, wf_1904, wf_1905⟩
theorem wf_1264 : Cond.methodLink "SwitchboardLaw" 235 ⟨"SwitchboardLaw", "isTalking", "(LSwitchboard;I[J)I"⟩ ∈ WT := wt_of (i := 1264) (by decide +kernel) rfl
theorem wf_1907 : Cond.methodLink "SwitchboardLaw" 237 ⟨"SwitchboardModel", "isTalking", "(I)Z"⟩ ∈ WT := wt_of (i := 1907) (by decide +kernel) rfl
theorem wf_1910 : Cond.code ⟨"SwitchboardModel", "isTalking", "(I)Z"⟩ prog_10_method_72_code 2 (some .boolean) ∈ WT := wt_of (i := 1910) (by decide +kernel) rfl
theorem wf_1908 : Cond.instanceMethod ⟨"SwitchboardModel", "isTalking", "(I)Z"⟩ ∈ WT := wt_of (i := 1908) (by decide +kernel) rfl
theorem wf_1909 : Cond.selects "SwitchboardModel" ⟨"SwitchboardModel", "isTalking", "(I)Z"⟩ ⟨"SwitchboardModel", "isTalking", "(I)Z"⟩ ∈ WT := wt_of (i := 1909) (by decide +kernel) rfl
theorem fV_X8_isTalking : cfV yX8_isTalking cX8_isTalking 2 (some .boolean) 1 := ⟨⟨⟨by decide +kernel, by decide +kernel, by decide +kernel⟩, wf_13, wf_1910⟩, wf_1908, wf_1909⟩
theorem wf_1271 : Cond.methodLink "SwitchboardLaw" 238 ⟨"SwitchboardLaw", "partner", "(LSwitchboard;I[J)I"⟩ ∈ WT := wt_of (i := 1271) (by decide +kernel) rfl
theorem wf_1911 : Cond.methodLink "SwitchboardLaw" 240 ⟨"SwitchboardModel", "partner", "(I)I"⟩ ∈ WT := wt_of (i := 1911) (by decide +kernel) rfl
theorem wf_1914 : Cond.code ⟨"SwitchboardModel", "partner", "(I)I"⟩ prog_10_method_74_code 3 (some .int) ∈ WT := wt_of (i := 1914) (by decide +kernel) rfl
theorem wf_1912 : Cond.instanceMethod ⟨"SwitchboardModel", "partner", "(I)I"⟩ ∈ WT := wt_of (i := 1912) (by decide +kernel) rfl
theorem wf_1913 : Cond.selects "SwitchboardModel" ⟨"SwitchboardModel", "partner", "(I)I"⟩ ⟨"SwitchboardModel", "partner", "(I)I"⟩ ∈ WT := wt_of (i := 1913) (by decide +kernel) rfl
theorem fV_X8_partner : cfV yX8_partner cX8_partner 3 (some .int) 1 := ⟨⟨⟨by decide +kernel, by decide +kernel, by decide +kernel⟩, wf_13, wf_1914⟩, wf_1912, wf_1913⟩
theorem wf_1283 : Cond.methodLink "SwitchboardLaw" 241 ⟨"SwitchboardLaw", "minutes", "(LSwitchboard;I[J)I"⟩ ∈ WT := wt_of (i := 1283) (by decide +kernel) rfl
theorem wf_1919 : Cond.methodLink "SwitchboardLaw" 243 ⟨"SwitchboardModel", "minutes", "(I)I"⟩ ∈ WT := wt_of (i := 1919) (by decide +kernel) rfl
theorem wf_1922 : Cond.code ⟨"SwitchboardModel", "minutes", "(I)I"⟩ prog_10_method_75_code 3 (some .int) ∈ WT := wt_of (i := 1922) (by decide +kernel) rfl
theorem wf_1920 : Cond.instanceMethod ⟨"SwitchboardModel", "minutes", "(I)I"⟩ ∈ WT := wt_of (i := 1920) (by decide +kernel) rfl
theorem wf_1921 : Cond.selects "SwitchboardModel" ⟨"SwitchboardModel", "minutes", "(I)I"⟩ ⟨"SwitchboardModel", "minutes", "(I)I"⟩ ∈ WT := wt_of (i := 1921) (by decide +kernel) rfl
theorem fV_X8_minutes : cfV yX8_minutes cX8_minutes 3 (some .int) 1 := ⟨⟨⟨by decide +kernel, by decide +kernel, by decide +kernel⟩, wf_13, wf_1922⟩, wf_1920, wf_1921⟩
theorem wf_1290 : Cond.methodLink "SwitchboardLaw" 244 ⟨"SwitchboardLaw", "routeSize", "(LSwitchboard;I[J)I"⟩ ∈ WT := wt_of (i := 1290) (by decide +kernel) rfl
theorem wf_1923 : Cond.methodLink "SwitchboardLaw" 246 ⟨"SwitchboardModel", "routeSize", "(I)I"⟩ ∈ WT := wt_of (i := 1923) (by decide +kernel) rfl
theorem wf_1926 : Cond.code ⟨"SwitchboardModel", "routeSize", "(I)I"⟩ prog_10_method_76_code 3 (some .int) ∈ WT := wt_of (i := 1926) (by decide +kernel) rfl
theorem wf_1924 : Cond.instanceMethod ⟨"SwitchboardModel", "routeSize", "(I)I"⟩ ∈ WT := wt_of (i := 1924) (by decide +kernel) rfl
theorem wf_1925 : Cond.selects "SwitchboardModel" ⟨"SwitchboardModel", "routeSize", "(I)I"⟩ ⟨"SwitchboardModel", "routeSize", "(I)I"⟩ ∈ WT := wt_of (i := 1925) (by decide +kernel) rfl
theorem fV_X8_routeSize : cfV yX8_routeSize cX8_routeSize 3 (some .int) 1 := ⟨⟨⟨by decide +kernel, by decide +kernel, by decide +kernel⟩, wf_13, wf_1926⟩, wf_1924, wf_1925⟩
theorem wf_1297 : Cond.methodLink "SwitchboardLaw" 247 ⟨"SwitchboardLaw", "routeTrunk", "(LSwitchboard;II[J)I"⟩ ∈ WT := wt_of (i := 1297) (by decide +kernel) rfl
theorem wf_1927 : Cond.methodLink "SwitchboardLaw" 249 ⟨"SwitchboardModel", "routeTrunk", "(II)I"⟩ ∈ WT := wt_of (i := 1927) (by decide +kernel) rfl
theorem wf_1930 : Cond.code ⟨"SwitchboardModel", "routeTrunk", "(II)I"⟩ prog_10_method_77_code 4 (some .int) ∈ WT := wt_of (i := 1930) (by decide +kernel) rfl
theorem wf_1928 : Cond.instanceMethod ⟨"SwitchboardModel", "routeTrunk", "(II)I"⟩ ∈ WT := wt_of (i := 1928) (by decide +kernel) rfl
theorem wf_1929 : Cond.selects "SwitchboardModel" ⟨"SwitchboardModel", "routeTrunk", "(II)I"⟩ ⟨"SwitchboardModel", "routeTrunk", "(II)I"⟩ ∈ WT := wt_of (i := 1929) (by decide +kernel) rfl
theorem fV_X8_routeTrunk : cfV yX8_routeTrunk cX8_routeTrunk 4 (some .int) 2 := ⟨⟨⟨by decide +kernel, by decide +kernel, by decide +kernel⟩, wf_13, wf_1930⟩, wf_1928, wf_1929⟩
theorem wf_1305 : Cond.methodLink "SwitchboardLaw" 250 ⟨"SwitchboardLaw", "chargeNow", "(LSwitchboard;I[J)I"⟩ ∈ WT := wt_of (i := 1305) (by decide +kernel) rfl
theorem wf_1931 : Cond.methodLink "SwitchboardLaw" 252 ⟨"SwitchboardModel", "chargeNow", "(I)I"⟩ ∈ WT := wt_of (i := 1931) (by decide +kernel) rfl
theorem wf_1934 : Cond.code ⟨"SwitchboardModel", "chargeNow", "(I)I"⟩ prog_10_method_78_code 3 (some .int) ∈ WT := wt_of (i := 1934) (by decide +kernel) rfl
theorem wf_1932 : Cond.instanceMethod ⟨"SwitchboardModel", "chargeNow", "(I)I"⟩ ∈ WT := wt_of (i := 1932) (by decide +kernel) rfl
theorem wf_1933 : Cond.selects "SwitchboardModel" ⟨"SwitchboardModel", "chargeNow", "(I)I"⟩ ⟨"SwitchboardModel", "chargeNow", "(I)I"⟩ ∈ WT := wt_of (i := 1933) (by decide +kernel) rfl
theorem fV_X8_chargeNow : cfV yX8_chargeNow cX8_chargeNow 3 (some .int) 1 := ⟨⟨⟨by decide +kernel, by decide +kernel, by decide +kernel⟩, wf_13, wf_1934⟩, wf_1932, wf_1933⟩
theorem wf_356 : Cond.methodLink "SwitchboardLaw" 253 ⟨"Switchboard", "calls", "()I"⟩ ∈ WT := wt_of (i := 356) (by decide +kernel) rfl
theorem wf_1935 : Cond.methodLink "SwitchboardLaw" 256 ⟨"SwitchboardModel", "calls", "()I"⟩ ∈ WT := wt_of (i := 1935) (by decide +kernel) rfl
theorem wf_359 : Cond.code ⟨"Switchboard", "calls", "()I"⟩ prog_1_method_42_code 1 (some .int) ∈ WT := wt_of (i := 359) (by decide +kernel) rfl
theorem wf_357 : Cond.instanceMethod ⟨"Switchboard", "calls", "()I"⟩ ∈ WT := wt_of (i := 357) (by decide +kernel) rfl
theorem wf_358 : Cond.selects "Switchboard" ⟨"Switchboard", "calls", "()I"⟩ ⟨"Switchboard", "calls", "()I"⟩ ∈ WT := wt_of (i := 358) (by decide +kernel) rfl
theorem fV_X7_calls : cfV yX7_calls cX7_calls 1 (some .int) 0 := ⟨⟨⟨by decide +kernel, by decide +kernel, by decide +kernel⟩, wf_1, wf_359⟩, wf_357, wf_358⟩
theorem wf_1938 : Cond.code ⟨"SwitchboardModel", "calls", "()I"⟩ prog_10_method_79_code 1 (some .int) ∈ WT := wt_of (i := 1938) (by decide +kernel) rfl
theorem wf_1936 : Cond.instanceMethod ⟨"SwitchboardModel", "calls", "()I"⟩ ∈ WT := wt_of (i := 1936) (by decide +kernel) rfl
theorem wf_1937 : Cond.selects "SwitchboardModel" ⟨"SwitchboardModel", "calls", "()I"⟩ ⟨"SwitchboardModel", "calls", "()I"⟩ ∈ WT := wt_of (i := 1937) (by decide +kernel) rfl
theorem fV_X8_calls : cfV yX8_calls cX8_calls 1 (some .int) 0 := ⟨⟨⟨by decide +kernel, by decide +kernel, by decide +kernel⟩, wf_13, wf_1938⟩, wf_1936, wf_1937⟩
theorem wf_360 : Cond.methodLink "SwitchboardLaw" 257 ⟨"Switchboard", "blockedCalls", "()I"⟩ ∈ WT := wt_of (i := 360) (by decide +kernel) rfl
theorem wf_1939 : Cond.methodLink "SwitchboardLaw" 260 ⟨"SwitchboardModel", "blockedCalls", "()I"⟩ ∈ WT := wt_of (i := 1939) (by decide +kernel) rfl
theorem wf_363 : Cond.code ⟨"Switchboard", "blockedCalls", "()I"⟩ prog_1_method_45_code 1 (some .int) ∈ WT := wt_of (i := 363) (by decide +kernel) rfl
theorem wf_361 : Cond.instanceMethod ⟨"Switchboard", "blockedCalls", "()I"⟩ ∈ WT := wt_of (i := 361) (by decide +kernel) rfl
theorem wf_362 : Cond.selects "Switchboard" ⟨"Switchboard", "blockedCalls", "()I"⟩ ⟨"Switchboard", "blockedCalls", "()I"⟩ ∈ WT := wt_of (i := 362) (by decide +kernel) rfl
theorem fV_X7_blockedCalls : cfV yX7_blockedCalls cX7_blockedCalls 1 (some .int) 0 := ⟨⟨⟨by decide +kernel, by decide +kernel, by decide +kernel⟩, wf_1, wf_363⟩, wf_361, wf_362⟩
theorem wf_1942 : Cond.code ⟨"SwitchboardModel", "blockedCalls", "()I"⟩ prog_10_method_80_code 1 (some .int) ∈ WT := wt_of (i := 1942) (by decide +kernel) rfl
theorem wf_1940 : Cond.instanceMethod ⟨"SwitchboardModel", "blockedCalls", "()I"⟩ ∈ WT := wt_of (i := 1940) (by decide +kernel) rfl
theorem wf_1941 : Cond.selects "SwitchboardModel" ⟨"SwitchboardModel", "blockedCalls", "()I"⟩ ⟨"SwitchboardModel", "blockedCalls", "()I"⟩ ∈ WT := wt_of (i := 1941) (by decide +kernel) rfl
theorem fV_X8_blockedCalls : cfV yX8_blockedCalls cX8_blockedCalls 1 (some .int) 0 := ⟨⟨⟨by decide +kernel, by decide +kernel, by decide +kernel⟩, wf_13, wf_1942⟩, wf_1940, wf_1941⟩
theorem wf_1313 : Cond.methodLink "SwitchboardLaw" 261 ⟨"SwitchboardLaw", "blockedCaller", "(LSwitchboard;I[J)I"⟩ ∈ WT := wt_of (i := 1313) (by decide +kernel) rfl
theorem wf_1943 : Cond.methodLink "SwitchboardLaw" 263 ⟨"SwitchboardModel", "blockedCaller", "(I)I"⟩ ∈ WT := wt_of (i := 1943) (by decide +kernel) rfl
theorem wf_1946 : Cond.code ⟨"SwitchboardModel", "blockedCaller", "(I)I"⟩ prog_10_method_82_code 2 (some .int) ∈ WT := wt_of (i := 1946) (by decide +kernel) rfl
theorem wf_1944 : Cond.instanceMethod ⟨"SwitchboardModel", "blockedCaller", "(I)I"⟩ ∈ WT := wt_of (i := 1944) (by decide +kernel) rfl
theorem wf_1945 : Cond.selects "SwitchboardModel" ⟨"SwitchboardModel", "blockedCaller", "(I)I"⟩ ⟨"SwitchboardModel", "blockedCaller", "(I)I"⟩ ∈ WT := wt_of (i := 1945) (by decide +kernel) rfl
theorem fV_X8_blockedCaller : cfV yX8_blockedCaller cX8_blockedCaller 2 (some .int) 1 := ⟨⟨⟨by decide +kernel, by decide +kernel, by decide +kernel⟩, wf_13, wf_1946⟩, wf_1944, wf_1945⟩
theorem wf_1325 : Cond.methodLink "SwitchboardLaw" 264 ⟨"SwitchboardLaw", "blockedCallee", "(LSwitchboard;I[J)I"⟩ ∈ WT := wt_of (i := 1325) (by decide +kernel) rfl
theorem wf_1951 : Cond.methodLink "SwitchboardLaw" 266 ⟨"SwitchboardModel", "blockedCallee", "(I)I"⟩ ∈ WT := wt_of (i := 1951) (by decide +kernel) rfl
theorem wf_1954 : Cond.code ⟨"SwitchboardModel", "blockedCallee", "(I)I"⟩ prog_10_method_83_code 2 (some .int) ∈ WT := wt_of (i := 1954) (by decide +kernel) rfl
theorem wf_1952 : Cond.instanceMethod ⟨"SwitchboardModel", "blockedCallee", "(I)I"⟩ ∈ WT := wt_of (i := 1952) (by decide +kernel) rfl
theorem wf_1953 : Cond.selects "SwitchboardModel" ⟨"SwitchboardModel", "blockedCallee", "(I)I"⟩ ⟨"SwitchboardModel", "blockedCallee", "(I)I"⟩ ∈ WT := wt_of (i := 1953) (by decide +kernel) rfl
theorem fV_X8_blockedCallee : cfV yX8_blockedCallee cX8_blockedCallee 2 (some .int) 1 := ⟨⟨⟨by decide +kernel, by decide +kernel, by decide +kernel⟩, wf_13, wf_1954⟩, wf_1952, wf_1953⟩
theorem wf_1332 : Cond.methodLink "SwitchboardLaw" 267 ⟨"SwitchboardLaw", "blockedReason", "(LSwitchboard;I[J)I"⟩ ∈ WT := wt_of (i := 1332) (by decide +kernel) rfl
theorem wf_1955 : Cond.methodLink "SwitchboardLaw" 269 ⟨"SwitchboardModel", "blockedReason", "(I)C"⟩ ∈ WT := wt_of (i := 1955) (by decide +kernel) rfl
theorem wf_1958 : Cond.code ⟨"SwitchboardModel", "blockedReason", "(I)C"⟩ prog_10_method_84_code 3 (some .char) ∈ WT := wt_of (i := 1958) (by decide +kernel) rfl
theorem wf_1956 : Cond.instanceMethod ⟨"SwitchboardModel", "blockedReason", "(I)C"⟩ ∈ WT := wt_of (i := 1956) (by decide +kernel) rfl
theorem wf_1957 : Cond.selects "SwitchboardModel" ⟨"SwitchboardModel", "blockedReason", "(I)C"⟩ ⟨"SwitchboardModel", "blockedReason", "(I)C"⟩ ∈ WT := wt_of (i := 1957) (by decide +kernel) rfl
theorem fV_X8_blockedReason : cfV yX8_blockedReason cX8_blockedReason 3 (some .char) 1 := ⟨⟨⟨by decide +kernel, by decide +kernel, by decide +kernel⟩, wf_13, wf_1958⟩, wf_1956, wf_1957⟩
theorem wf_364 : Cond.methodLink "SwitchboardLaw" 270 ⟨"Switchboard", "totalBills", "()J"⟩ ∈ WT := wt_of (i := 364) (by decide +kernel) rfl
theorem wf_1959 : Cond.methodLink "SwitchboardLaw" 274 ⟨"SwitchboardModel", "totalBills", "()J"⟩ ∈ WT := wt_of (i := 1959) (by decide +kernel) rfl
theorem wf_367 : Cond.code ⟨"Switchboard", "totalBills", "()J"⟩ prog_1_method_50_code 1 (some .long) ∈ WT := wt_of (i := 367) (by decide +kernel) rfl
theorem wf_365 : Cond.instanceMethod ⟨"Switchboard", "totalBills", "()J"⟩ ∈ WT := wt_of (i := 365) (by decide +kernel) rfl
theorem wf_366 : Cond.selects "Switchboard" ⟨"Switchboard", "totalBills", "()J"⟩ ⟨"Switchboard", "totalBills", "()J"⟩ ∈ WT := wt_of (i := 366) (by decide +kernel) rfl
theorem fV_X7_totalBills : cfV yX7_totalBills cX7_totalBills 1 (some .long) 0 := ⟨⟨⟨by decide +kernel, by decide +kernel, by decide +kernel⟩, wf_1, wf_367⟩, wf_365, wf_366⟩
theorem wf_1962 : Cond.code ⟨"SwitchboardModel", "totalBills", "()J"⟩ prog_10_method_85_code 1 (some .long) ∈ WT := wt_of (i := 1962) (by decide +kernel) rfl
theorem wf_1960 : Cond.instanceMethod ⟨"SwitchboardModel", "totalBills", "()J"⟩ ∈ WT := wt_of (i := 1960) (by decide +kernel) rfl
theorem wf_1961 : Cond.selects "SwitchboardModel" ⟨"SwitchboardModel", "totalBills", "()J"⟩ ⟨"SwitchboardModel", "totalBills", "()J"⟩ ∈ WT := wt_of (i := 1961) (by decide +kernel) rfl
theorem fV_X8_totalBills : cfV yX8_totalBills cX8_totalBills 1 (some .long) 0 := ⟨⟨⟨by decide +kernel, by decide +kernel, by decide +kernel⟩, wf_13, wf_1962⟩, wf_1960, wf_1961⟩
theorem wf_372 : Cond.methodLink "SwitchboardLaw" 275 ⟨"Switchboard", "totalCharges", "()J"⟩ ∈ WT := wt_of (i := 372) (by decide +kernel) rfl
theorem wf_1963 : Cond.methodLink "SwitchboardLaw" 278 ⟨"SwitchboardModel", "totalCharges", "()J"⟩ ∈ WT := wt_of (i := 1963) (by decide +kernel) rfl
theorem wf_375 : Cond.code ⟨"Switchboard", "totalCharges", "()J"⟩ prog_1_method_51_code 1 (some .long) ∈ WT := wt_of (i := 375) (by decide +kernel) rfl
theorem wf_373 : Cond.instanceMethod ⟨"Switchboard", "totalCharges", "()J"⟩ ∈ WT := wt_of (i := 373) (by decide +kernel) rfl
theorem wf_374 : Cond.selects "Switchboard" ⟨"Switchboard", "totalCharges", "()J"⟩ ⟨"Switchboard", "totalCharges", "()J"⟩ ∈ WT := wt_of (i := 374) (by decide +kernel) rfl
theorem fV_X7_totalCharges : cfV yX7_totalCharges cX7_totalCharges 1 (some .long) 0 := ⟨⟨⟨by decide +kernel, by decide +kernel, by decide +kernel⟩, wf_1, wf_375⟩, wf_373, wf_374⟩
theorem wf_1966 : Cond.code ⟨"SwitchboardModel", "totalCharges", "()J"⟩ prog_10_method_86_code 1 (some .long) ∈ WT := wt_of (i := 1966) (by decide +kernel) rfl
theorem wf_1964 : Cond.instanceMethod ⟨"SwitchboardModel", "totalCharges", "()J"⟩ ∈ WT := wt_of (i := 1964) (by decide +kernel) rfl
theorem wf_1965 : Cond.selects "SwitchboardModel" ⟨"SwitchboardModel", "totalCharges", "()J"⟩ ⟨"SwitchboardModel", "totalCharges", "()J"⟩ ∈ WT := wt_of (i := 1965) (by decide +kernel) rfl
theorem fV_X8_totalCharges : cfV yX8_totalCharges cX8_totalCharges 1 (some .long) 0 := ⟨⟨⟨by decide +kernel, by decide +kernel, by decide +kernel⟩, wf_13, wf_1966⟩, wf_1964, wf_1965⟩
theorem wf_1339 : Cond.methodLink "SwitchboardLaw" 279 ⟨"SwitchboardLaw", "subscriberByBill", "(LSwitchboard;I[J)I"⟩ ∈ WT := wt_of (i := 1339) (by decide +kernel) rfl
theorem wf_1967 : Cond.methodLink "SwitchboardLaw" 281 ⟨"SwitchboardModel", "subscriberByBill", "(I)I"⟩ ∈ WT := wt_of (i := 1967) (by decide +kernel) rfl
theorem wf_1970 : Cond.code ⟨"SwitchboardModel", "subscriberByBill", "(I)I"⟩ prog_10_method_87_code 5 (some .int) ∈ WT := wt_of (i := 1970) (by decide +kernel) rfl
theorem wf_1968 : Cond.instanceMethod ⟨"SwitchboardModel", "subscriberByBill", "(I)I"⟩ ∈ WT := wt_of (i := 1968) (by decide +kernel) rfl
theorem wf_1969 : Cond.selects "SwitchboardModel" ⟨"SwitchboardModel", "subscriberByBill", "(I)I"⟩ ⟨"SwitchboardModel", "subscriberByBill", "(I)I"⟩ ∈ WT := wt_of (i := 1969) (by decide +kernel) rfl
theorem fV_X8_subscriberByBill : cfV yX8_subscriberByBill cX8_subscriberByBill 5 (some .int) 1 := ⟨⟨⟨by decide +kernel, by decide +kernel, by decide +kernel⟩, wf_13, wf_1970⟩, wf_1968, wf_1969⟩
theorem wf_1351 : Cond.methodLink "SwitchboardLaw" 282 ⟨"SwitchboardLaw", "meanCharge", "(LSwitchboard;[D)I"⟩ ∈ WT := wt_of (i := 1351) (by decide +kernel) rfl
theorem wf_1971 : Cond.methodLink "SwitchboardLaw" 285 ⟨"SwitchboardModel", "meanCharge", "()D"⟩ ∈ WT := wt_of (i := 1971) (by decide +kernel) rfl
theorem wf_1974 : Cond.code ⟨"SwitchboardModel", "meanCharge", "()D"⟩ prog_10_method_88_code 1 (some .double) ∈ WT := wt_of (i := 1974) (by decide +kernel) rfl
theorem wf_1972 : Cond.instanceMethod ⟨"SwitchboardModel", "meanCharge", "()D"⟩ ∈ WT := wt_of (i := 1972) (by decide +kernel) rfl
theorem wf_1973 : Cond.selects "SwitchboardModel" ⟨"SwitchboardModel", "meanCharge", "()D"⟩ ⟨"SwitchboardModel", "meanCharge", "()D"⟩ ∈ WT := wt_of (i := 1973) (by decide +kernel) rfl
theorem fV_X8_meanCharge : cfV yX8_meanCharge cX8_meanCharge 1 (some .double) 0 := ⟨⟨⟨by decide +kernel, by decide +kernel, by decide +kernel⟩, wf_13, wf_1974⟩, wf_1972, wf_1973⟩
theorem wf_1375 : Cond.methodLink "SwitchboardLaw" 286 ⟨"SwitchboardLaw", "usedShare", "(LSwitchboard;[D)I"⟩ ∈ WT := wt_of (i := 1375) (by decide +kernel) rfl
theorem wf_1975 : Cond.methodLink "SwitchboardLaw" 288 ⟨"SwitchboardModel", "usedShare", "()F"⟩ ∈ WT := wt_of (i := 1975) (by decide +kernel) rfl
theorem wf_1978 : Cond.code ⟨"SwitchboardModel", "usedShare", "()F"⟩ prog_10_method_89_code 3 (some .float) ∈ WT := wt_of (i := 1978) (by decide +kernel) rfl
theorem wf_1976 : Cond.instanceMethod ⟨"SwitchboardModel", "usedShare", "()F"⟩ ∈ WT := wt_of (i := 1976) (by decide +kernel) rfl
theorem wf_1977 : Cond.selects "SwitchboardModel" ⟨"SwitchboardModel", "usedShare", "()F"⟩ ⟨"SwitchboardModel", "usedShare", "()F"⟩ ∈ WT := wt_of (i := 1977) (by decide +kernel) rfl
theorem fV_X8_usedShare : cfV yX8_usedShare cX8_usedShare 3 (some .float) 0 := ⟨⟨⟨by decide +kernel, by decide +kernel, by decide +kernel⟩, wf_13, wf_1978⟩, wf_1976, wf_1977⟩
theorem wf_376 : Cond.methodLink "SwitchboardLaw" 289 ⟨"Switchboard", "isConsistent", "()Z"⟩ ∈ WT := wt_of (i := 376) (by decide +kernel) rfl
theorem wf_1979 : Cond.methodLink "SwitchboardLaw" 293 ⟨"SwitchboardModel", "isConsistent", "()Z"⟩ ∈ WT := wt_of (i := 1979) (by decide +kernel) rfl
theorem wf_379 : Cond.code ⟨"Switchboard", "isConsistent", "()Z"⟩ prog_1_method_55_code 1 (some .boolean) ∈ WT := wt_of (i := 379) (by decide +kernel) rfl
theorem wf_377 : Cond.instanceMethod ⟨"Switchboard", "isConsistent", "()Z"⟩ ∈ WT := wt_of (i := 377) (by decide +kernel) rfl
theorem wf_378 : Cond.selects "Switchboard" ⟨"Switchboard", "isConsistent", "()Z"⟩ ⟨"Switchboard", "isConsistent", "()Z"⟩ ∈ WT := wt_of (i := 378) (by decide +kernel) rfl
theorem fV_X7_isConsistent : cfV yX7_isConsistent cX7_isConsistent 1 (some .boolean) 0 := ⟨⟨⟨by decide +kernel, by decide +kernel, by decide +kernel⟩, wf_1, wf_379⟩, wf_377, wf_378⟩
theorem wf_1982 : Cond.code ⟨"SwitchboardModel", "isConsistent", "()Z"⟩ prog_10_method_90_code 1 (some .boolean) ∈ WT := wt_of (i := 1982) (by decide +kernel) rfl
theorem wf_1980 : Cond.instanceMethod ⟨"SwitchboardModel", "isConsistent", "()Z"⟩ ∈ WT := wt_of (i := 1980) (by decide +kernel) rfl
theorem wf_1981 : Cond.selects "SwitchboardModel" ⟨"SwitchboardModel", "isConsistent", "()Z"⟩ ⟨"SwitchboardModel", "isConsistent", "()Z"⟩ ∈ WT := wt_of (i := 1981) (by decide +kernel) rfl
theorem fV_X8_isConsistent : cfV yX8_isConsistent cX8_isConsistent 1 (some .boolean) 0 := ⟨⟨⟨by decide +kernel, by decide +kernel, by decide +kernel⟩, wf_13, wf_1982⟩, wf_1980, wf_1981⟩
theorem wf_1385 : Cond.methodLink "SwitchboardLaw" 294 ⟨"SwitchboardLaw", "writeTrunk", "(LSwitchboard;I[J)I"⟩ ∈ WT := wt_of (i := 1385) (by decide +kernel) rfl
theorem wf_1983 : Cond.methodLink "SwitchboardLaw" 296 ⟨"SwitchboardModel", "writeTrunk", "(I)I"⟩ ∈ WT := wt_of (i := 1983) (by decide +kernel) rfl
theorem wf_1986 : Cond.code ⟨"SwitchboardModel", "writeTrunk", "(I)I"⟩ prog_10_method_93_code 3 (some .int) ∈ WT := wt_of (i := 1986) (by decide +kernel) rfl
theorem wf_1984 : Cond.instanceMethod ⟨"SwitchboardModel", "writeTrunk", "(I)I"⟩ ∈ WT := wt_of (i := 1984) (by decide +kernel) rfl
theorem wf_1985 : Cond.selects "SwitchboardModel" ⟨"SwitchboardModel", "writeTrunk", "(I)I"⟩ ⟨"SwitchboardModel", "writeTrunk", "(I)I"⟩ ∈ WT := wt_of (i := 1985) (by decide +kernel) rfl
theorem fV_X8_writeTrunk : cfV yX8_writeTrunk cX8_writeTrunk 3 (some .int) 1 := ⟨⟨⟨by decide +kernel, by decide +kernel, by decide +kernel⟩, wf_13, wf_1986⟩, wf_1984, wf_1985⟩
theorem wf_481 : Cond.methodLink "SwitchboardLaw" 297 ⟨"Switchboard", "writeCalls", "()I"⟩ ∈ WT := wt_of (i := 481) (by decide +kernel) rfl
theorem wf_1995 : Cond.methodLink "SwitchboardLaw" 300 ⟨"SwitchboardModel", "writeCalls", "()I"⟩ ∈ WT := wt_of (i := 1995) (by decide +kernel) rfl
theorem wf_484 : Cond.code ⟨"Switchboard", "writeCalls", "()I"⟩ prog_1_method_57_code 3 (some .int) ∈ WT := wt_of (i := 484) (by decide +kernel) rfl
theorem wf_482 : Cond.instanceMethod ⟨"Switchboard", "writeCalls", "()I"⟩ ∈ WT := wt_of (i := 482) (by decide +kernel) rfl
theorem wf_483 : Cond.selects "Switchboard" ⟨"Switchboard", "writeCalls", "()I"⟩ ⟨"Switchboard", "writeCalls", "()I"⟩ ∈ WT := wt_of (i := 483) (by decide +kernel) rfl
theorem fV_X7_writeCalls : cfV yX7_writeCalls cX7_writeCalls 3 (some .int) 0 := ⟨⟨⟨by decide +kernel, by decide +kernel, by decide +kernel⟩, wf_1, wf_484⟩, wf_482, wf_483⟩
theorem wf_1998 : Cond.code ⟨"SwitchboardModel", "writeCalls", "()I"⟩ prog_10_method_94_code 2 (some .int) ∈ WT := wt_of (i := 1998) (by decide +kernel) rfl
theorem wf_1996 : Cond.instanceMethod ⟨"SwitchboardModel", "writeCalls", "()I"⟩ ∈ WT := wt_of (i := 1996) (by decide +kernel) rfl
theorem wf_1997 : Cond.selects "SwitchboardModel" ⟨"SwitchboardModel", "writeCalls", "()I"⟩ ⟨"SwitchboardModel", "writeCalls", "()I"⟩ ∈ WT := wt_of (i := 1997) (by decide +kernel) rfl
theorem fV_X8_writeCalls : cfV yX8_writeCalls cX8_writeCalls 2 (some .int) 0 := ⟨⟨⟨by decide +kernel, by decide +kernel, by decide +kernel⟩, wf_13, wf_1998⟩, wf_1996, wf_1997⟩
theorem wf_1393 : Cond.methodLink "SwitchboardLaw" 301 ⟨"SwitchboardLaw", "charAt", "(LSwitchboard;I[J)I"⟩ ∈ WT := wt_of (i := 1393) (by decide +kernel) rfl
theorem wf_1999 : Cond.methodLink "SwitchboardLaw" 303 ⟨"SwitchboardModel", "charAt", "(I)C"⟩ ∈ WT := wt_of (i := 1999) (by decide +kernel) rfl
theorem wf_2002 : Cond.code ⟨"SwitchboardModel", "charAt", "(I)C"⟩ prog_10_method_95_code 2 (some .char) ∈ WT := wt_of (i := 2002) (by decide +kernel) rfl
theorem wf_2000 : Cond.instanceMethod ⟨"SwitchboardModel", "charAt", "(I)C"⟩ ∈ WT := wt_of (i := 2000) (by decide +kernel) rfl
theorem wf_2001 : Cond.selects "SwitchboardModel" ⟨"SwitchboardModel", "charAt", "(I)C"⟩ ⟨"SwitchboardModel", "charAt", "(I)C"⟩ ∈ WT := wt_of (i := 2001) (by decide +kernel) rfl
theorem fV_X8_charAt : cfV yX8_charAt cX8_charAt 2 (some .char) 1 := ⟨⟨⟨by decide +kernel, by decide +kernel, by decide +kernel⟩, wf_13, wf_2002⟩, wf_2000, wf_2001⟩
theorem wf_1411 : Cond.methodLink "SwitchboardLaw" 304 ⟨"SwitchboardLaw", "type", "(LSwitchboard;C[J)I"⟩ ∈ WT := wt_of (i := 1411) (by decide +kernel) rfl
theorem wf_2003 : Cond.methodLink "SwitchboardLaw" 307 ⟨"SwitchboardModel", "type", "(C)I"⟩ ∈ WT := wt_of (i := 2003) (by decide +kernel) rfl
theorem wf_2006 : Cond.code ⟨"SwitchboardModel", "type", "(C)I"⟩ prog_10_method_96_code 2 (some .int) ∈ WT := wt_of (i := 2006) (by decide +kernel) rfl
theorem wf_2004 : Cond.instanceMethod ⟨"SwitchboardModel", "type", "(C)I"⟩ ∈ WT := wt_of (i := 2004) (by decide +kernel) rfl
theorem wf_2005 : Cond.selects "SwitchboardModel" ⟨"SwitchboardModel", "type", "(C)I"⟩ ⟨"SwitchboardModel", "type", "(C)I"⟩ ∈ WT := wt_of (i := 2005) (by decide +kernel) rfl
theorem fV_X8_type : cfV yX8_type cX8_type 2 (some .int) 1 := ⟨⟨⟨by decide +kernel, by decide +kernel, by decide +kernel⟩, wf_13, wf_2006⟩, wf_2004, wf_2005⟩
theorem wf_1423 : Cond.methodLink "SwitchboardLaw" 308 ⟨"SwitchboardLaw", "run", "(LSwitchboard;[J)I"⟩ ∈ WT := wt_of (i := 1423) (by decide +kernel) rfl
theorem wf_2007 : Cond.methodLink "SwitchboardLaw" 310 ⟨"SwitchboardModel", "run", "()I"⟩ ∈ WT := wt_of (i := 2007) (by decide +kernel) rfl
theorem wf_2010 : Cond.code ⟨"SwitchboardModel", "run", "()I"⟩ prog_10_method_106_code 2 (some .int) ∈ WT := wt_of (i := 2010) (by decide +kernel) rfl
theorem wf_2008 : Cond.instanceMethod ⟨"SwitchboardModel", "run", "()I"⟩ ∈ WT := wt_of (i := 2008) (by decide +kernel) rfl
theorem wf_2009 : Cond.selects "SwitchboardModel" ⟨"SwitchboardModel", "run", "()I"⟩ ⟨"SwitchboardModel", "run", "()I"⟩ ∈ WT := wt_of (i := 2009) (by decide +kernel) rfl
theorem fV_X8_run : cfV yX8_run cX8_run 2 (some .int) 0 := ⟨⟨⟨by decide +kernel, by decide +kernel, by decide +kernel⟩, wf_13, wf_2010⟩, wf_2008, wf_2009⟩
theorem wf_1507 : Cond.methodLink "SwitchboardLaw" 311 ⟨"SwitchboardLaw", "errorPosition", "(LSwitchboard;[J)I"⟩ ∈ WT := wt_of (i := 1507) (by decide +kernel) rfl
theorem wf_2045 : Cond.methodLink "SwitchboardLaw" 313 ⟨"SwitchboardModel", "errorPosition", "()I"⟩ ∈ WT := wt_of (i := 2045) (by decide +kernel) rfl
theorem wf_2048 : Cond.code ⟨"SwitchboardModel", "errorPosition", "()I"⟩ prog_10_method_108_code 1 (some .int) ∈ WT := wt_of (i := 2048) (by decide +kernel) rfl
theorem wf_2046 : Cond.instanceMethod ⟨"SwitchboardModel", "errorPosition", "()I"⟩ ∈ WT := wt_of (i := 2046) (by decide +kernel) rfl
theorem wf_2047 : Cond.selects "SwitchboardModel" ⟨"SwitchboardModel", "errorPosition", "()I"⟩ ⟨"SwitchboardModel", "errorPosition", "()I"⟩ ∈ WT := wt_of (i := 2047) (by decide +kernel) rfl
theorem fV_X8_errorPosition : cfV yX8_errorPosition cX8_errorPosition 1 (some .int) 0 := ⟨⟨⟨by decide +kernel, by decide +kernel, by decide +kernel⟩, wf_13, wf_2048⟩, wf_2046, wf_2047⟩
theorem wf_1515 : Cond.methodLink "SwitchboardLaw" 314 ⟨"SwitchboardLaw", "failedCommand", "(LSwitchboard;[J)I"⟩ ∈ WT := wt_of (i := 1515) (by decide +kernel) rfl
theorem wf_2053 : Cond.methodLink "SwitchboardLaw" 316 ⟨"SwitchboardModel", "failedCommand", "()I"⟩ ∈ WT := wt_of (i := 2053) (by decide +kernel) rfl
theorem wf_2056 : Cond.code ⟨"SwitchboardModel", "failedCommand", "()I"⟩ prog_10_method_109_code 1 (some .int) ∈ WT := wt_of (i := 2056) (by decide +kernel) rfl
theorem wf_2054 : Cond.instanceMethod ⟨"SwitchboardModel", "failedCommand", "()I"⟩ ∈ WT := wt_of (i := 2054) (by decide +kernel) rfl
theorem wf_2055 : Cond.selects "SwitchboardModel" ⟨"SwitchboardModel", "failedCommand", "()I"⟩ ⟨"SwitchboardModel", "failedCommand", "()I"⟩ ∈ WT := wt_of (i := 2055) (by decide +kernel) rfl
theorem fV_X8_failedCommand : cfV yX8_failedCommand cX8_failedCommand 1 (some .int) 0 := ⟨⟨⟨by decide +kernel, by decide +kernel, by decide +kernel⟩, wf_13, wf_2056⟩, wf_2054, wf_2055⟩
theorem wf_1523 : Cond.methodLink "SwitchboardLaw" 317 ⟨"SwitchboardLaw", "undo", "(LSwitchboard;[J)I"⟩ ∈ WT := wt_of (i := 1523) (by decide +kernel) rfl
theorem wf_2057 : Cond.methodLink "SwitchboardLaw" 319 ⟨"SwitchboardModel", "undo", "()I"⟩ ∈ WT := wt_of (i := 2057) (by decide +kernel) rfl
theorem wf_2060 : Cond.code ⟨"SwitchboardModel", "undo", "()I"⟩ prog_10_method_110_code 1 (some .int) ∈ WT := wt_of (i := 2060) (by decide +kernel) rfl
theorem wf_2058 : Cond.instanceMethod ⟨"SwitchboardModel", "undo", "()I"⟩ ∈ WT := wt_of (i := 2058) (by decide +kernel) rfl
theorem wf_2059 : Cond.selects "SwitchboardModel" ⟨"SwitchboardModel", "undo", "()I"⟩ ⟨"SwitchboardModel", "undo", "()I"⟩ ∈ WT := wt_of (i := 2059) (by decide +kernel) rfl
theorem fV_X8_undo : cfV yX8_undo cX8_undo 1 (some .int) 0 := ⟨⟨⟨by decide +kernel, by decide +kernel, by decide +kernel⟩, wf_13, wf_2060⟩, wf_2058, wf_2059⟩
theorem wf_854 : Cond.methodLink "SwitchboardLaw" 320 ⟨"Switchboard", "save", "()I"⟩ ∈ WT := wt_of (i := 854) (by decide +kernel) rfl
theorem wf_2061 : Cond.methodLink "SwitchboardLaw" 323 ⟨"SwitchboardModel", "save", "()I"⟩ ∈ WT := wt_of (i := 2061) (by decide +kernel) rfl
theorem wf_857 : Cond.code ⟨"Switchboard", "save", "()I"⟩ prog_1_method_65_code 1 (some .int) ∈ WT := wt_of (i := 857) (by decide +kernel) rfl
theorem wf_855 : Cond.instanceMethod ⟨"Switchboard", "save", "()I"⟩ ∈ WT := wt_of (i := 855) (by decide +kernel) rfl
theorem wf_856 : Cond.selects "Switchboard" ⟨"Switchboard", "save", "()I"⟩ ⟨"Switchboard", "save", "()I"⟩ ∈ WT := wt_of (i := 856) (by decide +kernel) rfl
theorem fV_X7_save : cfV yX7_save cX7_save 1 (some .int) 0 := ⟨⟨⟨by decide +kernel, by decide +kernel, by decide +kernel⟩, wf_1, wf_857⟩, wf_855, wf_856⟩
theorem wf_2064 : Cond.code ⟨"SwitchboardModel", "save", "()I"⟩ prog_10_method_111_code 1 (some .int) ∈ WT := wt_of (i := 2064) (by decide +kernel) rfl
theorem wf_2062 : Cond.instanceMethod ⟨"SwitchboardModel", "save", "()I"⟩ ∈ WT := wt_of (i := 2062) (by decide +kernel) rfl
theorem wf_2063 : Cond.selects "SwitchboardModel" ⟨"SwitchboardModel", "save", "()I"⟩ ⟨"SwitchboardModel", "save", "()I"⟩ ∈ WT := wt_of (i := 2063) (by decide +kernel) rfl
theorem fV_X8_save : cfV yX8_save cX8_save 1 (some .int) 0 := ⟨⟨⟨by decide +kernel, by decide +kernel, by decide +kernel⟩, wf_13, wf_2064⟩, wf_2062, wf_2063⟩
theorem wf_1535 : Cond.methodLink "SwitchboardLaw" 324 ⟨"SwitchboardLaw", "restore", "(LSwitchboard;[J)I"⟩ ∈ WT := wt_of (i := 1535) (by decide +kernel) rfl
theorem wf_2065 : Cond.methodLink "SwitchboardLaw" 326 ⟨"SwitchboardModel", "restore", "()I"⟩ ∈ WT := wt_of (i := 2065) (by decide +kernel) rfl
theorem wf_2068 : Cond.code ⟨"SwitchboardModel", "restore", "()I"⟩ prog_10_method_112_code 1 (some .int) ∈ WT := wt_of (i := 2068) (by decide +kernel) rfl
theorem wf_2066 : Cond.instanceMethod ⟨"SwitchboardModel", "restore", "()I"⟩ ∈ WT := wt_of (i := 2066) (by decide +kernel) rfl
theorem wf_2067 : Cond.selects "SwitchboardModel" ⟨"SwitchboardModel", "restore", "()I"⟩ ⟨"SwitchboardModel", "restore", "()I"⟩ ∈ WT := wt_of (i := 2067) (by decide +kernel) rfl
theorem fV_X8_restore : cfV yX8_restore cX8_restore 1 (some .int) 0 := ⟨⟨⟨by decide +kernel, by decide +kernel, by decide +kernel⟩, wf_13, wf_2068⟩, wf_2066, wf_2067⟩
/-! cases of the law *)-/
section LCA
variable {p : Program} {l : Launch} {e : Env} {s : State} {m : MethodId} {below : List Frame} {meth : Method} {c : Code} {Q : State → Prop} {D : va_G} {dA : Nat → ClassId} {sa : String → Nat → Nat} {cells slots pc : Nat} {w w2 : va_W} {lv lv' : List (Nat × Value)} {st st0 : List Value} {cw : Cond} {b L : Nat} {xs : Nat → Int32} {a a' : Nat → Nat} {ao od j : Nat}
variable {Zc Zc' Zr Zr' : ZZ} {g g1 : Nat → Int64} {gD gD1 : Nat → UInt64} {ws ws' : va_W} {q : Nat} {lw : LW} {W : Nat}
set_option maxRecDepth 100000 in
theorem lc_0 (C : lC p l s m b meth c D dA sa cw) (hl : l.stackTraces = false) (hX : va_X b L xs s s.heap) (hbl : b < s.heap.size) (hj : j + 4 ≤ L) (hL : L ≤ 2048) (hG : G lw W Zc Zr) (hs : sbT dA (a 300) lw ws) (hW : W + 13 ≤ 7000) (hc : cells + 40 ≤ 603072) (hq : slots + 6400 ≤ 7190634) (K : ∀ (lw' : LW) (W' : Nat) (Zc' Zr' : ZZ) (g' : Nat → Int64) (ws' : va_W) (gD' : Nat → UInt64), W' ≤ W + 13 → G lw' W' Zc' Zr' → sbT dA (a 300) lw' ws' → xL p l e s m b below meth c D Q (wLw dA a a' ao od Zc' g' Zr' ws' gD') (cells + 40) (slots + 6400) 2722 (lvL b a a' ao od j) []) : xL p l e s m b below meth c D Q (wLw dA a a' ao od Zc g Zr ws gD) cells slots 260 (lvL b a a' ao od j) [] := by
  obtain ⟨rc, Zc', rr, Zr', h1, h2, hG', h4, h5⟩ := w_addSwitch  hG (by omega)
  refine xv_aload_n (pc := 260) C dW_260 4 rfl rfl ?_
  refine xv_aload_n (pc := 261) C dW_261 2 rfl rfl ?_
  refine xl_wr (As := [.ref (a 0), .ref ao]) (pc := 262) C (kW_addSwitch hl (kX7_addSwitch hl h1) h4 (rcv_7 dA a Zc)) fW_addSwitch wf_877 rfl ⟨(Nat.le_of_ble_eq_true rfl), (Nat.le_of_ble_eq_true rfl)⟩ rfl (Nat.le_of_ble_eq_true rfl) dW_262 ⟨(Nat.le_of_ble_eq_true rfl), (Nat.le_of_ble_eq_true rfl)⟩ hc hq (fun r g1 hr => ?_)
  refine xv_istore (pc := 265) (lv' := (6, .int r) :: lvL b a a' ao od j) C dW_265 (by decide) rfl ?_
  refine xv_aload_n (pc := 267) C dW_267 4 rfl rfl ?_
  refine xl_rf (As := []) (pc := 268) (n := 0) C (kX8_addSwitch hl h2) rfl fV_X8_addSwitch wf_1633 rfl ⟨(Nat.le_of_ble_eq_true rfl), (Nat.le_of_ble_eq_true rfl)⟩ rfl (Nat.le_of_ble_eq_true rfl) dW_268 ⟨rfl, rfl⟩ hc hq ?_
  exact tl_int (q := 271) C hl dW_271 dW_273 dW_274 dW_277 dW_279 dW_284 dW_286 dW_289 dW_290 dW_291 dW_292 dW_294 dW_295 dW_296 dW_301 (by decide) hc hq (res_of hr h4 h5 (by decide)) (K lw _ Zc' Zr' g1 ws gD (by omega) hG' hs)
set_option maxRecDepth 100000 in
theorem lc_1 (C : lC p l s m b meth c D dA sa cw) (hl : l.stackTraces = false) (hX : va_X b L xs s s.heap) (hbl : b < s.heap.size) (hj : j + 4 ≤ L) (hL : L ≤ 2048) (hG : G lw W Zc Zr) (hs : sbT dA (a 300) lw ws) (hW : W + 13 ≤ 7000) (hc : cells + 40 ≤ 603072) (hq : slots + 6400 ≤ 7190634) (K : ∀ (lw' : LW) (W' : Nat) (Zc' Zr' : ZZ) (g' : Nat → Int64) (ws' : va_W) (gD' : Nat → UInt64), W' ≤ W + 13 → G lw' W' Zc' Zr' → sbT dA (a 300) lw' ws' → xL p l e s m b below meth c D Q (wLw dA a a' ao od Zc' g' Zr' ws' gD') (cells + 40) (slots + 6400) 2722 (lvL b a a' ao od j) []) : xL p l e s m b below meth c D Q (wLw dA a a' ao od Zc g Zr ws gD) cells slots 304 (lvL b a a' ao od j) [] := by
  obtain ⟨rc, Zc', rr, Zr', h1, h2, hG', h4, h5⟩ := w_addTrunk (a := (xs (j + 1))) (b := (xs (j + 2))) (l := (xs (j + 3))) hG (by omega)
  refine xv_aload_n (pc := 304) C dW_304 4 rfl rfl ?_
  refine xl_arg (q := 305) C hX hbl hL hj 1 5 0 (by decide) rfl rfl (by decide) dW_305 dW_306 dW_308 dW_309 dW_310 ?_
  refine xl_arg (q := 311) C hX hbl hL hj 2 5 0 (by decide) rfl rfl (by decide) dW_311 dW_312 dW_314 dW_315 dW_316 ?_
  refine xl_arg (q := 317) C hX hbl hL hj 3 5 0 (by decide) rfl rfl (by decide) dW_317 dW_318 dW_320 dW_321 dW_322 ?_
  refine xv_aload_n (pc := 323) C dW_323 2 rfl rfl ?_
  refine xl_wr (As := [.ref (a 0), .int (xs (j + 1)), .int (xs (j + 2)), .int (xs (j + 3)), .ref ao]) (pc := 324) C (kW_addTrunk hl (kX7_addTrunk hl h1) h4 (rcv_7 dA a Zc)) fW_addTrunk wf_1078 rfl ⟨(Nat.le_of_ble_eq_true rfl), (Nat.le_of_ble_eq_true rfl)⟩ rfl (Nat.le_of_ble_eq_true rfl) dW_324 ⟨(Nat.le_of_ble_eq_true rfl), (Nat.le_of_ble_eq_true rfl)⟩ hc hq (fun r g1 hr => ?_)
  refine xv_istore (pc := 327) (lv' := (6, .int r) :: lvL b a a' ao od j) C dW_327 (by decide) rfl ?_
  refine xv_aload_n (pc := 329) C dW_329 4 rfl rfl ?_
  refine xl_arg (q := 330) C hX hbl hL hj 1 6 1 (by decide) rfl rfl (by decide) dW_330 dW_331 dW_333 dW_334 dW_335 ?_
  refine xl_arg (q := 336) C hX hbl hL hj 2 6 1 (by decide) rfl rfl (by decide) dW_336 dW_337 dW_339 dW_340 dW_341 ?_
  refine xl_arg (q := 342) C hX hbl hL hj 3 6 1 (by decide) rfl rfl (by decide) dW_342 dW_343 dW_345 dW_346 dW_347 ?_
  refine xl_rf (As := [.int (xs (j + 1)), .int (xs (j + 2)), .int (xs (j + 3))]) (pc := 348) (n := 3) C (kX8_addTrunk hl h2) rfl fV_X8_addTrunk wf_1656 rfl ⟨(Nat.le_of_ble_eq_true rfl), (Nat.le_of_ble_eq_true rfl)⟩ rfl (Nat.le_of_ble_eq_true rfl) dW_348 ⟨rfl, rfl⟩ hc hq ?_
  exact tl_int (q := 351) C hl dW_351 dW_353 dW_354 dW_357 dW_359 dW_364 dW_366 dW_369 dW_370 dW_371 dW_372 dW_374 dW_375 dW_376 dW_381 (by decide) hc hq (res_of hr h4 h5 (by decide)) (K lw _ Zc' Zr' g1 ws gD (by omega) hG' hs)
set_option maxRecDepth 100000 in
theorem lc_3 (C : lC p l s m b meth c D dA sa cw) (hl : l.stackTraces = false) (hX : va_X b L xs s s.heap) (hbl : b < s.heap.size) (hj : j + 4 ≤ L) (hL : L ≤ 2048) (hG : G lw W Zc Zr) (hs : sbT dA (a 300) lw ws) (hW : W + 13 ≤ 7000) (hc : cells + 40 ≤ 603072) (hq : slots + 6400 ≤ 7190634) (K : ∀ (lw' : LW) (W' : Nat) (Zc' Zr' : ZZ) (g' : Nat → Int64) (ws' : va_W) (gD' : Nat → UInt64), W' ≤ W + 13 → G lw' W' Zc' Zr' → sbT dA (a 300) lw' ws' → xL p l e s m b below meth c D Q (wLw dA a a' ao od Zc' g' Zr' ws' gD') (cells + 40) (slots + 6400) 2722 (lvL b a a' ao od j) []) : xL p l e s m b below meth c D Q (wLw dA a a' ao od Zc g Zr ws gD) cells slots 452 (lvL b a a' ao od j) [] := by
  obtain ⟨rc, Zc', rr, Zr', h1, h2, hG', h4, h5⟩ := w_cut (a := (xs (j + 1))) hG (by omega)
  refine xv_aload_n (pc := 452) C dW_452 4 rfl rfl ?_
  refine xl_arg (q := 453) C hX hbl hL hj 1 5 0 (by decide) rfl rfl (by decide) dW_453 dW_454 dW_456 dW_457 dW_458 ?_
  refine xv_aload_n (pc := 459) C dW_459 2 rfl rfl ?_
  refine xl_wr (As := [.ref (a 0), .int (xs (j + 1)), .ref ao]) (pc := 460) C (kW_cut hl (kX7_cut hl h1) h4 (rcv_7 dA a Zc)) fW_cut wf_1096 rfl ⟨(Nat.le_of_ble_eq_true rfl), (Nat.le_of_ble_eq_true rfl)⟩ rfl (Nat.le_of_ble_eq_true rfl) dW_460 ⟨(Nat.le_of_ble_eq_true rfl), (Nat.le_of_ble_eq_true rfl)⟩ hc hq (fun r g1 hr => ?_)
  refine xv_istore (pc := 463) (lv' := (6, .int r) :: lvL b a a' ao od j) C dW_463 (by decide) rfl ?_
  refine xv_aload_n (pc := 465) C dW_465 4 rfl rfl ?_
  refine xl_arg (q := 466) C hX hbl hL hj 1 6 1 (by decide) rfl rfl (by decide) dW_466 dW_467 dW_469 dW_470 dW_471 ?_
  refine xl_rf (As := [.int (xs (j + 1))]) (pc := 472) (n := 1) C (kX8_cut hl h2) rfl fV_X8_cut wf_1691 rfl ⟨(Nat.le_of_ble_eq_true rfl), (Nat.le_of_ble_eq_true rfl)⟩ rfl (Nat.le_of_ble_eq_true rfl) dW_472 ⟨rfl, rfl⟩ hc hq ?_
  exact tl_bool (q := 475) C hl dW_475 dW_477 dW_478 dW_481 dW_483 dW_488 dW_490 dW_493 dW_494 dW_495 dW_496 dW_498 dW_501 dW_502 dW_505 dW_506 dW_507 dW_512 (by decide) hc hq (res_of hr h4 h5 (by decide)) (K lw _ Zc' Zr' g1 ws gD (by omega) hG' hs)
set_option maxRecDepth 100000 in
theorem lc_37 (C : lC p l s m b meth c D dA sa cw) (hl : l.stackTraces = false) (hX : va_X b L xs s s.heap) (hbl : b < s.heap.size) (hj : j + 4 ≤ L) (hL : L ≤ 2048) (hG : G lw W Zc Zr) (hs : sbT dA (a 300) lw ws) (hW : W + 13 ≤ 7000) (hc : cells + 40 ≤ 603072) (hq : slots + 6400 ≤ 7190634) (K : ∀ (lw' : LW) (W' : Nat) (Zc' Zr' : ZZ) (g' : Nat → Int64) (ws' : va_W) (gD' : Nat → UInt64), W' ≤ W + 13 → G lw' W' Zc' Zr' → sbT dA (a 300) lw' ws' → xL p l e s m b below meth c D Q (wLw dA a a' ao od Zc' g' Zr' ws' gD') (cells + 40) (slots + 6400) 2722 (lvL b a a' ao od j) []) : xL p l e s m b below meth c D Q (wLw dA a a' ao od Zc g Zr ws gD) cells slots 2162 (lvL b a a' ao od j) [] := by
  have hG0 := hG
  obtain ⟨N, Hs, n, ⟨hB, hA, hI, hu⟩, -, hre⟩ := hG
  have h16 := hI.1.2.1
  refine xv_aload_n (pc := 2162) C dW_2162 4 rfl rfl ?_
  refine xv_aload (pc := 2163) C dW_2163 1 rfl ?_
  by_cases h4 : N 4 = 0
  · refine xl_wd (As := [.ref (a 0), .ref od]) (pc := 2165) C (kW_meanCharge hl (kF_mc_f hl hB hI h4) (fun k hk => by cases hk; rfl) (rcv_7 dA a Zc)) fW_meanCharge wf_1351 rfl ⟨(Nat.le_of_ble_eq_true rfl), (Nat.le_of_ble_eq_true rfl)⟩ rfl (Nat.le_of_ble_eq_true rfl) dW_2165 ⟨(Nat.le_of_ble_eq_true rfl), (Nat.le_of_ble_eq_true rfl)⟩ hc hq (fun r w1 hr => ?_)
    rcases hr with ⟨-, rfl, rfl⟩ | ⟨v9, g1, e1, -⟩
    · refine xl_bkD ?_
      refine xv_istore (pc := 2168) (lv' := (6, .int 1) :: lvL b a a' ao od j) C dW_2168 (by decide) rfl ?_
      refine xv_aload_n (pc := 2170) C dW_2170 4 rfl rfl ?_
      refine xl_rd (As := []) (pc := 2171) (n := 0) C (kG_mc_f hl hA hI h4) rfl fV_X8_meanCharge wf_1971 rfl ⟨(Nat.le_of_ble_eq_true rfl), (Nat.le_of_ble_eq_true rfl)⟩ rfl (Nat.le_of_ble_eq_true rfl) dW_2171 (show cells + 20 + 2 ≤ 603072 by omega) (show slots + 3000 + 12 ≤ 7190634 by omega) ?_
      refine xv_dstore (pc := 2174) (lv' := ((7, .double FP.dconst0) :: (6, .int 1) :: lvL b a a' ao od j)) C dW_2174 (by decide) rfl ?_
      refine xv_aload_n (pc := 2176) C dW_2176 5 rfl rfl ?_
      refine xl_rf (As := []) (pc := 2177) (n := 0) C (kX8_thrown hl rfl) rfl fV_X8_thrown wf_1629 rfl ⟨(Nat.le_of_ble_eq_true rfl), (Nat.le_of_ble_eq_true rfl)⟩ rfl (Nat.le_of_ble_eq_true rfl) dW_2177 ⟨rfl, rfl⟩ (show cells + 20 + 2 ≤ 603072 by omega) (show slots + 3000 + 12 ≤ 7190634 by omega) ?_
      refine xv_iload (pc := 2180) C dW_2180 1 rfl ?_
      refine xv_icmp_eq (tgt := 2187) (pc := 2182) C dW_2182 (by decide) (fun _ => ?_) (fun c9 => absurd (gI_pI_s _ _ _ _) c9)
      refine xv_iload (pc := 2187) C dW_2187 1 rfl ?_
      refine xv_if_ne (tgt := 2224) (pc := 2189) C dW_2189 (by decide) (fun _ => ?_) (fun c9 => absurd c9 (by decide))
      refine xv_goto (tgt := 2722) (pc := 2224) C dW_2224 (by decide) ?_
      exact xv_sub [2, 3, 4, 5, 6, 7] rfl (xl_wid (show cells + 20 + 2 ≤ cells + 40 by omega) (show slots + 3000 + 12 ≤ slots + 6400 by omega) (K lw W Zc (pI Zr 0 8 1) g ws gD (by omega) (G_look hG0 (onlyR_rf _) (onlyX_8 _ _)) hs))
    · cases e1
  · refine xl_wd (As := [.ref (a 0), .ref od]) (pc := 2165) C (kW_meanCharge hl (kF_mc_t hl hB hI (show W ≤ 7000 by omega) h4) (fun k hk => by cases hk) (rcv_7 dA a Zc)) fW_meanCharge wf_1351 rfl ⟨(Nat.le_of_ble_eq_true rfl), (Nat.le_of_ble_eq_true rfl)⟩ rfl (Nat.le_of_ble_eq_true rfl) dW_2165 ⟨(Nat.le_of_ble_eq_true rfl), (Nat.le_of_ble_eq_true rfl)⟩ hc hq (fun r w1 hr => ?_)
    rcases hr with ⟨e1, -⟩ | ⟨v9, g1, e1, rfl, rfl, hg⟩
    · cases e1
    · cases e1
      refine xl_bkD ?_
      refine xv_istore (pc := 2168) (lv' := (6, .int 0) :: lvL b a a' ao od j) C dW_2168 (by decide) rfl ?_
      refine xv_aload_n (pc := 2170) C dW_2170 4 rfl rfl ?_
      refine xl_rd (As := []) (pc := 2171) (n := 0) C (kG_mc_t hl hA hI (show W ≤ 7000 by omega) h4) rfl fV_X8_meanCharge wf_1971 rfl ⟨(Nat.le_of_ble_eq_true rfl), (Nat.le_of_ble_eq_true rfl)⟩ rfl (Nat.le_of_ble_eq_true rfl) dW_2171 (show cells + 20 + 2 ≤ 603072 by omega) (show slots + 3000 + 12 ≤ 7190634 by omega) ?_
      refine xv_dstore (pc := 2174) (lv' := ((7, .double (mch N)) :: (6, .int 0) :: lvL b a a' ao od j)) C dW_2174 (by decide) rfl ?_
      refine xv_aload_n (pc := 2176) C dW_2176 5 rfl rfl ?_
      refine xl_rf (As := []) (pc := 2177) (n := 0) C (kX8_thrown hl rfl) rfl fV_X8_thrown wf_1629 rfl ⟨(Nat.le_of_ble_eq_true rfl), (Nat.le_of_ble_eq_true rfl)⟩ rfl (Nat.le_of_ble_eq_true rfl) dW_2177 ⟨rfl, rfl⟩ (show cells + 20 + 2 ≤ 603072 by omega) (show slots + 3000 + 12 ≤ 7190634 by omega) ?_
      refine xv_iload (pc := 2180) C dW_2180 1 rfl ?_
      refine xv_icmp_eq (tgt := 2187) (pc := 2182) C dW_2182 (by decide) (fun _ => ?_) (fun c9 => absurd (gI_pI_s _ _ _ _) c9)
      refine xv_iload (pc := 2187) C dW_2187 1 rfl ?_
      refine xv_if_ne (tgt := 2224) (pc := 2189) C dW_2189 (by decide) (fun c9 => absurd rfl c9) (fun _ => ?_)
      refine xv_aload (pc := 2192) C dW_2192 3 rfl ?_
      refine xv_iconst (v := 0) (pc := 2194) C dW_2194 (by decide) ?_
      refine xl_outD (pc := 2195) C dW_2195 ?_
      refine xv_dload (pc := 2196) C dW_2196 0 rfl ?_
      refine xv_dcmp (pc := 2198) C dW_2198 ?_
      refine xv_if_eq (tgt := 2224) (pc := 2199) C dW_2199 (by decide) (fun _ => ?_) (fun c9 => absurd (dc_same hg (n64_dv (nI_ne0 (show 0 < N 4 by omega) (show N 4 < 2 ^ 31 by have h5 := hI.1.2.2.2.2; omega)))) c9)
      refine xv_goto (tgt := 2722) (pc := 2224) C dW_2224 (by decide) ?_
      exact xv_sub [2, 3, 4, 5, 6, 7] rfl (xl_wid (show cells + 20 + 2 ≤ cells + 40 by omega) (show slots + 3000 + 12 ≤ slots + 6400 by omega) (K lw W Zc (pI Zr 0 8 0) g ws g1 (by omega) (G_look hG0 (onlyR_rf _) (onlyX_8 _ _)) hs))
set_option maxRecDepth 100000 in
theorem lc_38 (C : lC p l s m b meth c D dA sa cw) (hl : l.stackTraces = false) (hX : va_X b L xs s s.heap) (hbl : b < s.heap.size) (hj : j + 4 ≤ L) (hL : L ≤ 2048) (hG : G lw W Zc Zr) (hs : sbT dA (a 300) lw ws) (hW : W + 13 ≤ 7000) (hc : cells + 40 ≤ 603072) (hq : slots + 6400 ≤ 7190634) (K : ∀ (lw' : LW) (W' : Nat) (Zc' Zr' : ZZ) (g' : Nat → Int64) (ws' : va_W) (gD' : Nat → UInt64), W' ≤ W + 13 → G lw' W' Zc' Zr' → sbT dA (a 300) lw' ws' → xL p l e s m b below meth c D Q (wLw dA a a' ao od Zc' g' Zr' ws' gD') (cells + 40) (slots + 6400) 2722 (lvL b a a' ao od j) []) : xL p l e s m b below meth c D Q (wLw dA a a' ao od Zc g Zr ws gD) cells slots 2227 (lvL b a a' ao od j) [] := by
  have hG0 := hG
  obtain ⟨N, Hs, n, ⟨hB, hA, hI, hu⟩, -, hre⟩ := hG
  have h16 := hI.1.2.1
  refine xv_aload_n (pc := 2227) C dW_2227 4 rfl rfl ?_
  refine xv_aload (pc := 2228) C dW_2228 1 rfl ?_
  by_cases h4 : N 1 = 0
  · refine xl_wd (As := [.ref (a 0), .ref od]) (pc := 2230) C (kW_usedShare hl (kF_us_f hl hB hI h4) (fun k hk => by cases hk; rfl) (fun v hv => by cases hv) (rcv_7 dA a Zc)) fW_usedShare wf_1375 rfl ⟨(Nat.le_of_ble_eq_true rfl), (Nat.le_of_ble_eq_true rfl)⟩ rfl (Nat.le_of_ble_eq_true rfl) dW_2230 ⟨(Nat.le_of_ble_eq_true rfl), (Nat.le_of_ble_eq_true rfl)⟩ hc hq (fun r w1 hr => ?_)
    rcases hr with ⟨-, rfl, rfl⟩ | ⟨v9, g1, e1, -⟩
    · refine xl_bkD ?_
      refine xv_istore (pc := 2233) (lv' := (6, .int 1) :: lvL b a a' ao od j) C dW_2233 (by decide) rfl ?_
      refine xv_aload_n (pc := 2235) C dW_2235 4 rfl rfl ?_
      refine xl_rfl (As := []) (pc := 2236) (n := 0) C (kG_us_f hl hA hI h4) rfl fV_X8_usedShare wf_1975 rfl ⟨(Nat.le_of_ble_eq_true rfl), (Nat.le_of_ble_eq_true rfl)⟩ rfl (Nat.le_of_ble_eq_true rfl) dW_2236 (show cells + 20 + 2 ≤ 603072 by omega) (show slots + 3000 + 12 ≤ 7190634 by omega) ?_
      refine xv_fstore (pc := 2239) (lv' := ((7, .float FP.fconst0) :: (6, .int 1) :: lvL b a a' ao od j)) C dW_2239 (by decide) rfl ?_
      refine xv_aload_n (pc := 2241) C dW_2241 5 rfl rfl ?_
      refine xl_rf (As := []) (pc := 2242) (n := 0) C (kX8_thrown hl rfl) rfl fV_X8_thrown wf_1629 rfl ⟨(Nat.le_of_ble_eq_true rfl), (Nat.le_of_ble_eq_true rfl)⟩ rfl (Nat.le_of_ble_eq_true rfl) dW_2242 ⟨rfl, rfl⟩ (show cells + 20 + 2 ≤ 603072 by omega) (show slots + 3000 + 12 ≤ 7190634 by omega) ?_
      refine xv_iload (pc := 2245) C dW_2245 1 rfl ?_
      refine xv_icmp_eq (tgt := 2252) (pc := 2247) C dW_2247 (by decide) (fun _ => ?_) (fun c9 => absurd (gI_pI_s _ _ _ _) c9)
      refine xv_iload (pc := 2252) C dW_2252 1 rfl ?_
      refine xv_if_ne (tgt := 2290) (pc := 2254) C dW_2254 (by decide) (fun _ => ?_) (fun c9 => absurd c9 (by decide))
      refine xv_goto (tgt := 2722) (pc := 2290) C dW_2290 (by decide) ?_
      exact xv_sub [2, 3, 4, 5, 6, 7] rfl (xl_wid (show cells + 20 + 2 ≤ cells + 40 by omega) (show slots + 3000 + 12 ≤ slots + 6400 by omega) (K lw W Zc (pI Zr 0 8 1) g ws gD (by omega) (G_look hG0 (onlyR_rf _) (onlyX_8 _ _)) hs))
    · cases e1
  · refine xl_wd (As := [.ref (a 0), .ref od]) (pc := 2230) C (kW_usedShare hl (kF_us_t hl hB hI h4) (fun k hk => by cases hk) (fun v hv => by cases hv; exact n64_fd (nI_ne0 (show 0 < N 1 by omega) (by omega))) (rcv_7 dA a Zc)) fW_usedShare wf_1375 rfl ⟨(Nat.le_of_ble_eq_true rfl), (Nat.le_of_ble_eq_true rfl)⟩ rfl (Nat.le_of_ble_eq_true rfl) dW_2230 ⟨(Nat.le_of_ble_eq_true rfl), (Nat.le_of_ble_eq_true rfl)⟩ hc hq (fun r w1 hr => ?_)
    rcases hr with ⟨e1, -⟩ | ⟨v9, g1, e1, rfl, rfl, hg⟩
    · cases e1
    · cases e1
      refine xl_bkD ?_
      refine xv_istore (pc := 2233) (lv' := (6, .int 0) :: lvL b a a' ao od j) C dW_2233 (by decide) rfl ?_
      refine xv_aload_n (pc := 2235) C dW_2235 4 rfl rfl ?_
      refine xl_rfl (As := []) (pc := 2236) (n := 0) C (kG_us_t hl hA hI h4) rfl fV_X8_usedShare wf_1975 rfl ⟨(Nat.le_of_ble_eq_true rfl), (Nat.le_of_ble_eq_true rfl)⟩ rfl (Nat.le_of_ble_eq_true rfl) dW_2236 (show cells + 20 + 2 ≤ 603072 by omega) (show slots + 3000 + 12 ≤ 7190634 by omega) ?_
      refine xv_fstore (pc := 2239) (lv' := ((7, .float (ush N)) :: (6, .int 0) :: lvL b a a' ao od j)) C dW_2239 (by decide) rfl ?_
      refine xv_aload_n (pc := 2241) C dW_2241 5 rfl rfl ?_
      refine xl_rf (As := []) (pc := 2242) (n := 0) C (kX8_thrown hl rfl) rfl fV_X8_thrown wf_1629 rfl ⟨(Nat.le_of_ble_eq_true rfl), (Nat.le_of_ble_eq_true rfl)⟩ rfl (Nat.le_of_ble_eq_true rfl) dW_2242 ⟨rfl, rfl⟩ (show cells + 20 + 2 ≤ 603072 by omega) (show slots + 3000 + 12 ≤ 7190634 by omega) ?_
      refine xv_iload (pc := 2245) C dW_2245 1 rfl ?_
      refine xv_icmp_eq (tgt := 2252) (pc := 2247) C dW_2247 (by decide) (fun _ => ?_) (fun c9 => absurd (gI_pI_s _ _ _ _) c9)
      refine xv_iload (pc := 2252) C dW_2252 1 rfl ?_
      refine xv_if_ne (tgt := 2290) (pc := 2254) C dW_2254 (by decide) (fun c9 => absurd rfl c9) (fun _ => ?_)
      refine xv_aload (pc := 2257) C dW_2257 3 rfl ?_
      refine xv_iconst (v := 0) (pc := 2259) C dW_2259 (by decide) ?_
      refine xl_outD (pc := 2260) C dW_2260 ?_
      refine xv_fload (pc := 2261) C dW_2261 0 rfl ?_
      refine xv_f2d (pc := 2263) C dW_2263 (n64_fd (nI_ne0 (show 0 < N 1 by omega) (by omega))) ?_
      refine xv_dcmp (pc := 2264) C dW_2264 ?_
      refine xv_if_eq (tgt := 2290) (pc := 2265) C dW_2265 (by decide) (fun _ => ?_) (fun c9 => absurd (dc_same hg (n64_fd (nI_ne0 (show 0 < N 1 by omega) (by omega)))) c9)
      refine xv_goto (tgt := 2722) (pc := 2290) C dW_2290 (by decide) ?_
      exact xv_sub [2, 3, 4, 5, 6, 7] rfl (xl_wid (show cells + 20 + 2 ≤ cells + 40 by omega) (show slots + 3000 + 12 ≤ slots + 6400 by omega) (K lw W Zc (pI Zr 0 8 0) g ws g1 (by omega) (G_look hG0 (onlyR_rf _) (onlyX_8 _ _)) hs))
set_option maxRecDepth 100000 in
theorem lc_40 (C : lC p l s m b meth c D dA sa cw) (hl : l.stackTraces = false) (hX : va_X b L xs s s.heap) (hbl : b < s.heap.size) (hj : j + 4 ≤ L) (hL : L ≤ 2048) (hG : G lw W Zc Zr) (hs : sbT dA (a 300) lw ws) (hW : W + 13 ≤ 7000) (hc : cells + 40 ≤ 603072) (hq : slots + 6400 ≤ 7190634) (K : ∀ (lw' : LW) (W' : Nat) (Zc' Zr' : ZZ) (g' : Nat → Int64) (ws' : va_W) (gD' : Nat → UInt64), W' ≤ W + 13 → G lw' W' Zc' Zr' → sbT dA (a 300) lw' ws' → xL p l e s m b below meth c D Q (wLw dA a a' ao od Zc' g' Zr' ws' gD') (cells + 40) (slots + 6400) 2722 (lvL b a a' ao od j) []) : xL p l e s m b below meth c D Q (wLw dA a a' ao od Zc g Zr ws gD) cells slots 2306 (lvL b a a' ao od j) [] := by
  have hG0 := hG
  obtain ⟨N, Hs, n, ⟨hB, hA, hI, hu⟩, -, hre⟩ := hG
  obtain ⟨v, cap, f, ml, rfl, s1, s2, s3, s4⟩ := id hs
  have h16 := hI.1.2.1
  refine xv_aload_n (pc := 2306) C dW_2306 4 rfl rfl ?_
  refine xl_arg (q := 2307) C hX hbl hL hj 1 5 0 (by decide) rfl rfl (by decide) dW_2307 dW_2308 dW_2310 dW_2311 dW_2312 ?_
  refine xv_aload_n (pc := 2313) C dW_2313 2 rfl rfl ?_
  cases hv : viB (xs (j + 1)) (N 1) with
  | false =>
    refine xl_ws (As := [.ref (a 0), .int (xs (j + 1)), .ref ao]) (pc := 2314) C (kW_writeTrunk hl (kL_wt_f (post := sbW dA (a 300) v cap f lw.1 ml) hl hB hv) (fun k hk => by cases hk; exact List.mem_cons_self) (rcv_app (rcv_7 dA a Zc))) fW_writeTrunk wf_1385 rfl ⟨(Nat.le_of_ble_eq_true rfl), (Nat.le_of_ble_eq_true rfl)⟩ rfl (Nat.le_of_ble_eq_true rfl) dW_2314 ⟨(Nat.le_of_ble_eq_true rfl), (Nat.le_of_ble_eq_true rfl)⟩ hc hq (fun r w1 hr => ?_)
    rcases hr with ⟨k9, e1, rfl, rfl⟩ | ⟨v9, g1, e1, -⟩
    · cases e1
      refine xl_bk ?_
      refine xv_istore (pc := 2317) (lv' := (6, .int (nI (cdL [1] 1))) :: lvL b a a' ao od j) C dW_2317 (by decide) rfl ?_
      refine xv_aload_n (pc := 2319) C dW_2319 4 rfl rfl ?_
      refine xl_arg (q := 2320) C hX hbl hL hj 1 6 1 (by decide) rfl rfl (by decide) dW_2320 dW_2321 dW_2323 dW_2324 dW_2325 ?_
      refine xl_rf (As := [.int (xs (j + 1))]) (pc := 2326) (n := 1) C (kX8_writeTrunk hl (r_trunk_f hA h16 hv)) rfl fV_X8_writeTrunk wf_1983 rfl ⟨(Nat.le_of_ble_eq_true rfl), (Nat.le_of_ble_eq_true rfl)⟩ rfl (Nat.le_of_ble_eq_true rfl) dW_2326 ⟨rfl, rfl⟩ hc hq ?_
      exact tl_int (q := 2329) C hl dW_2329 dW_2331 dW_2332 dW_2335 dW_2337 dW_2342 dW_2344 dW_2347 dW_2348 dW_2349 dW_2350 dW_2352 dW_2353 dW_2354 dW_2359 (by decide) hc hq ⟨(gI_pI_s _ _ _ _).trans (by decide), fun h => absurd h (by decide)⟩ (K lw W Zc (pI Zr 0 8 1) g _ gD (by omega) (G_look hG0 (onlyR_rf _) (onlyX_8 _ _)) hs)
    · cases e1
  | true =>
    obtain ⟨i, i1, hi⟩ := viB_t (by omega) hv
    obtain ⟨Zr', r1, r2, r3, r4⟩ := r_trunk (lw := lw) hA hI i1
    refine xl_ws (As := [.ref (a 0), .int (xs (j + 1)), .ref ao]) (pc := 2314) C (by rw [hi]; exact kW_writeTrunk_p hl (kL_wt hl i1 hB hI s1 s2 s3 s4) (rcv_app (rcv_7 dA a Zc))) fW_writeTrunk wf_1385 rfl ⟨(Nat.le_of_ble_eq_true rfl), (Nat.le_of_ble_eq_true rfl)⟩ rfl (Nat.le_of_ble_eq_true rfl) dW_2314 ⟨(Nat.le_of_ble_eq_true rfl), (Nat.le_of_ble_eq_true rfl)⟩ hc hq (fun r w1 hr => ?_)
    obtain ⟨v9, w9, g1, ⟨rfl, ws', hs', rfl⟩, rfl, rfl, hg⟩ := hr
    refine xl_bk ?_
    refine xv_istore (pc := 2317) (lv' := (6, .int 0) :: lvL b a a' ao od j) C dW_2317 (by decide) rfl ?_
    refine xv_aload_n (pc := 2319) C dW_2319 4 rfl rfl ?_
    refine xl_arg (q := 2320) C hX hbl hL hj 1 6 1 (by decide) rfl rfl (by decide) dW_2320 dW_2321 dW_2323 dW_2324 dW_2325 ?_
    refine xl_rf (As := [.int (xs (j + 1))]) (pc := 2326) (n := 1) C (kX8_writeTrunk hl (by rw [hi]; exact r1)) rfl fV_X8_writeTrunk wf_1983 rfl ⟨(Nat.le_of_ble_eq_true rfl), (Nat.le_of_ble_eq_true rfl)⟩ rfl (Nat.le_of_ble_eq_true rfl) dW_2326 ⟨rfl, rfl⟩ hc hq ?_
    exact tl_int (q := 2329) C hl dW_2329 dW_2331 dW_2332 dW_2335 dW_2337 dW_2342 dW_2344 dW_2347 dW_2348 dW_2349 dW_2350 dW_2352 dW_2353 dW_2354 dW_2359 (by decide) hc hq ⟨r3, fun _ => hg⟩ (K _ W Zc Zr' g1 _ gD (by omega) (G_line hG0 r4 r2) hs')
set_option maxRecDepth 100000 in
theorem lc_41 (C : lC p l s m b meth c D dA sa cw) (hl : l.stackTraces = false) (hX : va_X b L xs s s.heap) (hbl : b < s.heap.size) (hj : j + 4 ≤ L) (hL : L ≤ 2048) (hG : G lw W Zc Zr) (hs : sbT dA (a 300) lw ws) (hW : W + 13 ≤ 7000) (hc : cells + 40 ≤ 603072) (hq : slots + 6400 ≤ 7190634) (K : ∀ (lw' : LW) (W' : Nat) (Zc' Zr' : ZZ) (g' : Nat → Int64) (ws' : va_W) (gD' : Nat → UInt64), W' ≤ W + 13 → G lw' W' Zc' Zr' → sbT dA (a 300) lw' ws' → xL p l e s m b below meth c D Q (wLw dA a a' ao od Zc' g' Zr' ws' gD') (cells + 40) (slots + 6400) 2722 (lvL b a a' ao od j) []) : xL p l e s m b below meth c D Q (wLw dA a a' ao od Zc g Zr ws gD) cells slots 2362 (lvL b a a' ao od j) [] := by
  have hG0 := hG
  obtain ⟨N, Hs, n, ⟨hB, hA, hI, hu⟩, -, hre⟩ := hG
  obtain ⟨v, cap, f, ml, rfl, s1, s2, s3, s4⟩ := id hs
  obtain ⟨Zr', r1, r2, r3, r4⟩ := r_calls (lw := lw) hA hI (show W ≤ 7000 by omega)
  refine xv_aload_n (pc := 2362) C dW_2362 4 rfl rfl ?_
  refine xl_cs (As := []) (pc := 2363) (n := 0) C (kL_wc hl (show W ≤ 7000 by omega) hB hI s1 s2 s3 s4) rfl fV_X7_writeCalls wf_481 rfl ⟨(Nat.le_of_ble_eq_true rfl), (Nat.le_of_ble_eq_true rfl)⟩ rfl (Nat.le_of_ble_eq_true rfl) dW_2363 ⟨(Nat.le_of_ble_eq_true rfl), (Nat.le_of_ble_eq_true rfl)⟩ hc hq (fun r ws' hr => ?_) (fun r w1 h9 => by obtain ⟨-, ws9, -, e9⟩ := h9; exact ⟨ws9, e9⟩)
  obtain ⟨rfl, ws9, hs', e9⟩ := hr
  have e8 := List.append_cancel_left e9
  subst e8
  refine xv_aload_n (pc := 2366) C dW_2366 3 rfl rfl ?_
  refine xl_rf (As := []) (pc := 2367) (n := 0) C (kX8_writeCalls hl r1) rfl fV_X8_writeCalls wf_1995 rfl ⟨(Nat.le_of_ble_eq_true rfl), (Nat.le_of_ble_eq_true rfl)⟩ rfl (Nat.le_of_ble_eq_true rfl) dW_2367 ⟨rfl, rfl⟩ hc hq ?_
  exact xv_icmp_eq (tgt := 2722) (pc := 2370) C dW_2370 (by decide) (fun _ => K _ W Zc Zr' g _ gD (by omega) (G_line hG0 r4 r2) hs') (fun c9 => absurd rfl c9)
set_option maxRecDepth 100000 in
theorem lc_42 (C : lC p l s m b meth c D dA sa cw) (hl : l.stackTraces = false) (hX : va_X b L xs s s.heap) (hbl : b < s.heap.size) (hj : j + 4 ≤ L) (hL : L ≤ 2048) (hG : G lw W Zc Zr) (hs : sbT dA (a 300) lw ws) (hW : W + 13 ≤ 7000) (hc : cells + 40 ≤ 603072) (hq : slots + 6400 ≤ 7190634) (K : ∀ (lw' : LW) (W' : Nat) (Zc' Zr' : ZZ) (g' : Nat → Int64) (ws' : va_W) (gD' : Nat → UInt64), W' ≤ W + 13 → G lw' W' Zc' Zr' → sbT dA (a 300) lw' ws' → xL p l e s m b below meth c D Q (wLw dA a a' ao od Zc' g' Zr' ws' gD') (cells + 40) (slots + 6400) 2722 (lvL b a a' ao od j) []) : xL p l e s m b below meth c D Q (wLw dA a a' ao od Zc g Zr ws gD) cells slots 2375 (lvL b a a' ao od j) [] := by
  have hG0 := hG
  obtain ⟨N, Hs, n, -, -, hre⟩ := hG
  have hok : oK lw Zr := hre.2.2.2.2.2.2
  have h80 := hok.1
  obtain ⟨v, cap, f, ml, rfl, s1, s2, s3, s4⟩ := id hs
  refine xv_aload_n (pc := 2375) C dW_2375 4 rfl rfl ?_
  refine xl_arg (q := 2376) C hX hbl hL hj 1 5 0 (by decide) rfl rfl (by decide) dW_2376 dW_2377 dW_2379 dW_2380 dW_2381 ?_
  refine xv_aload_n (pc := 2382) C dW_2382 2 rfl rfl ?_
  by_cases hx : (xs (j + 1)) < 0 ∨ nI lw.1 ≤ (xs (j + 1))
  · refine xl_ws (As := [.ref (a 0), .int (xs (j + 1)), .ref ao]) (pc := 2383) C (kW_charAt hl (kL_ch_f hl hx) (fun k hk => by cases hk; exact List.mem_cons_self) (rcv_app (rcv_7 dA a Zc))) fW_charAt wf_1393 rfl ⟨(Nat.le_of_ble_eq_true rfl), (Nat.le_of_ble_eq_true rfl)⟩ rfl (Nat.le_of_ble_eq_true rfl) dW_2383 ⟨(Nat.le_of_ble_eq_true rfl), (Nat.le_of_ble_eq_true rfl)⟩ hc hq (fun r w1 hr => ?_)
    rcases hr with ⟨k9, e1, rfl, rfl⟩ | ⟨v9, g1, e1, -⟩
    · cases e1
      refine xl_bk ?_
      refine xv_istore (pc := 2386) (lv' := (6, .int (nI (cdL [1] 1))) :: lvL b a a' ao od j) C dW_2386 (by decide) rfl ?_
      refine xv_aload_n (pc := 2388) C dW_2388 4 rfl rfl ?_
      refine xl_arg (q := 2389) C hX hbl hL hj 1 6 1 (by decide) rfl rfl (by decide) dW_2389 dW_2390 dW_2392 dW_2393 dW_2394 ?_
      refine xl_rf (As := [.int (xs (j + 1))]) (pc := 2395) (n := 1) C (kX8_charAt hl (r_charAt_f hok hx)) rfl fV_X8_charAt wf_1999 rfl ⟨(Nat.le_of_ble_eq_true rfl), (Nat.le_of_ble_eq_true rfl)⟩ rfl (Nat.le_of_ble_eq_true rfl) dW_2395 ⟨rfl, rfl⟩ hc hq ?_
      exact tl_int (q := 2398) C hl dW_2398 dW_2400 dW_2401 dW_2404 dW_2406 dW_2411 dW_2413 dW_2416 dW_2417 dW_2418 dW_2419 dW_2421 dW_2422 dW_2423 dW_2428 (by decide) hc hq ⟨(gI_pI_s _ _ _ _).trans (by decide), fun h => absurd h (by decide)⟩ (K lw W Zc (pI Zr 0 8 1) g _ gD (by omega) (G_look hG0 (onlyR_rf _) (onlyX_8 _ _)) hs)
    · cases e1
  · have hx0 : ¬ (xs (j + 1)) < 0 := fun q => hx (Or.inl q)
    obtain ⟨i, i1, hi⟩ := nI_of hx0
    have i2 : i < lw.1 := by
      rcases Nat.lt_or_ge i lw.1 with q | q
      · exact q
      · exact absurd (Or.inr (by rw [hi]; exact nI_le q i1)) hx
    refine xl_ws (As := [.ref (a 0), .int (xs (j + 1)), .ref ao]) (pc := 2383) C (by rw [hi]; exact kW_charAt hl (kL_ch_t hl i2 s1 s2 (s4 i i2) (hok.2.2 i i2).2) (fun k hk => by cases hk) (rcv_app (rcv_7 dA a Zc))) fW_charAt wf_1393 rfl ⟨(Nat.le_of_ble_eq_true rfl), (Nat.le_of_ble_eq_true rfl)⟩ rfl (Nat.le_of_ble_eq_true rfl) dW_2383 ⟨(Nat.le_of_ble_eq_true rfl), (Nat.le_of_ble_eq_true rfl)⟩ hc hq (fun r w1 hr => ?_)
    rcases hr with ⟨k9, e1, -⟩ | ⟨v9, g1, e1, rfl, rfl, hg⟩
    · cases e1
    · cases e1
      refine xl_bk ?_
      refine xv_istore (pc := 2386) (lv' := (6, .int 0) :: lvL b a a' ao od j) C dW_2386 (by decide) rfl ?_
      refine xv_aload_n (pc := 2388) C dW_2388 4 rfl rfl ?_
      refine xl_arg (q := 2389) C hX hbl hL hj 1 6 1 (by decide) rfl rfl (by decide) dW_2389 dW_2390 dW_2392 dW_2393 dW_2394 ?_
      refine xl_rf (As := [.int (xs (j + 1))]) (pc := 2395) (n := 1) C (kX8_charAt hl (by rw [hi]; exact r_charAt_t hok i2)) rfl fV_X8_charAt wf_1999 rfl ⟨(Nat.le_of_ble_eq_true rfl), (Nat.le_of_ble_eq_true rfl)⟩ rfl (Nat.le_of_ble_eq_true rfl) dW_2395 ⟨rfl, rfl⟩ hc hq ?_
      exact tl_int (q := 2398) C hl dW_2398 dW_2400 dW_2401 dW_2404 dW_2406 dW_2411 dW_2413 dW_2416 dW_2417 dW_2418 dW_2419 dW_2421 dW_2422 dW_2423 dW_2428 (by decide) hc hq ⟨gI_pI_s _ _ _ _, fun _ => hg⟩ (K lw W Zc (pI Zr 0 8 0) g1 _ gD (by omega) (G_look hG0 (onlyR_rf _) (onlyX_8 _ _)) hs)
end LCA
