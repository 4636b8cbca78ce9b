theorem wf_839 : Cond.code ⟨"java/lang/StringLatin1", "canEncode", "(C)Z"⟩ prog_30_method_3_code 1 (some .boolean) ∈ WT := wt_of (i := 839) (by decide +kernel) rfl
theorem wf_838 : Cond.static ⟨"java/lang/StringLatin1", "canEncode", "(C)Z"⟩ ∈ WT := wt_of (i := 838) (by decide +kernel) rfl
theorem fS_J1_canEncode_fc78d : cfS ⟨"java/lang/StringLatin1", "canEncode", "(C)Z"⟩ prog_30_method_3_code 1 (some .boolean) 1 := ⟨⟨⟨by decide +kernel, by decide +kernel, by decide +kernel⟩, wf_32, wf_839⟩, wf_838⟩
theorem wf_627 : Cond.code ⟨"java/lang/Integer", "stringSize", "(I)I"⟩ prog_23_method_13_code 4 (some .int) ∈ WT := wt_of (i := 627) (by decide +kernel) rfl
theorem wf_626 : Cond.static ⟨"java/lang/Integer", "stringSize", "(I)I"⟩ ∈ WT := wt_of (i := 626) (by decide +kernel) rfl
theorem fS_J6_stringSize_0f7a4 : cfS ⟨"java/lang/Integer", "stringSize", "(I)I"⟩ prog_23_method_13_code 4 (some .int) 1 := ⟨⟨⟨by decide +kernel, by decide +kernel, by decide +kernel⟩, wf_25, wf_627⟩, wf_626⟩
theorem wf_630 : Cond.code ⟨"java/lang/Integer", "getChars", "(II[B)I"⟩ prog_23_method_12_code 7 (some .int) ∈ WT := wt_of (i := 630) (by decide +kernel) rfl
theorem wf_629 : Cond.static ⟨"java/lang/Integer", "getChars", "(II[B)I"⟩ ∈ WT := wt_of (i := 629) (by decide +kernel) rfl
theorem fS_J6_getChars_ba4f3 : cfS ⟨"java/lang/Integer", "getChars", "(II[B)I"⟩ prog_23_method_12_code 7 (some .int) 3 := ⟨⟨⟨by decide +kernel, by decide +kernel, by decide +kernel⟩, wf_25, wf_630⟩, wf_629⟩
theorem wf_30 : Cond.initialized "jdk/internal/util/ArraysSupport" ∈ WT := wt_of (i := 30) (by decide +kernel) rfl
theorem wf_521 : Cond.code ⟨"jdk/internal/util/ArraysSupport", "newLength", "(III)I"⟩ prog_39_method_27_code 4 (some .int) ∈ WT := wt_of (i := 521) (by decide +kernel) rfl
theorem wf_520 : Cond.static ⟨"jdk/internal/util/ArraysSupport", "newLength", "(III)I"⟩ ∈ WT := wt_of (i := 520) (by decide +kernel) rfl
theorem fS_J8_newLength_cabcc : cfS ⟨"jdk/internal/util/ArraysSupport", "newLength", "(III)I"⟩ prog_39_method_27_code 4 (some .int) 3 := ⟨⟨⟨by decide +kernel, by decide +kernel, by decide +kernel⟩, wf_30, wf_521⟩, wf_520⟩
theorem wf_532 : Cond.code ⟨"java/util/Arrays", "copyOf", "([BI)[B"⟩ prog_37_method_121_code 3 (some (.array .byte)) ∈ WT := wt_of (i := 532) (by decide +kernel) rfl
theorem wf_531 : Cond.static ⟨"java/util/Arrays", "copyOf", "([BI)[B"⟩ ∈ WT := wt_of (i := 531) (by decide +kernel) rfl
theorem fS_J7_copyOf_9075b : cfS ⟨"java/util/Arrays", "copyOf", "([BI)[B"⟩ prog_37_method_121_code 3 (some (.array .byte)) 2 := ⟨⟨⟨by decide +kernel, by decide +kernel, by decide +kernel⟩, wf_14, wf_532⟩, wf_531⟩
theorem wf_10 : Cond.initialized "java/lang/StringBuilder" ∈ WT := wt_of (i := 10) (by decide +kernel) rfl
theorem wf_833 : Cond.code ⟨"java/lang/StringBuilder", "append", "(C)Ljava/lang/StringBuilder;"⟩ prog_28_method_14_code 2 (some (.object "java/lang/StringBuilder")) ∈ WT := wt_of (i := 833) (by decide +kernel) rfl
theorem wf_831 : Cond.instanceMethod ⟨"java/lang/StringBuilder", "append", "(C)Ljava/lang/StringBuilder;"⟩ ∈ WT := wt_of (i := 831) (by decide +kernel) rfl
theorem wf_832 : Cond.selects "java/lang/StringBuilder" ⟨"java/lang/StringBuilder", "append", "(C)Ljava/lang/StringBuilder;"⟩ ⟨"java/lang/StringBuilder", "append", "(C)Ljava/lang/StringBuilder;"⟩ ∈ WT := wt_of (i := 832) (by decide +kernel) rfl
theorem fV_J4_append_cf468 : cfV ⟨"java/lang/StringBuilder", "append", "(C)Ljava/lang/StringBuilder;"⟩ prog_28_method_14_code 2 (some (.object "java/lang/StringBuilder")) 1 := ⟨⟨⟨by decide +kernel, by decide +kernel, by decide +kernel⟩, wf_10, wf_833⟩, wf_831, wf_832⟩
theorem wf_621 : Cond.code ⟨"java/lang/StringBuilder", "append", "(I)Ljava/lang/StringBuilder;"⟩ prog_28_method_15_code 2 (some (.object "java/lang/StringBuilder")) ∈ WT := wt_of (i := 621) (by decide +kernel) rfl
theorem wf_619 : Cond.instanceMethod ⟨"java/lang/StringBuilder", "append", "(I)Ljava/lang/StringBuilder;"⟩ ∈ WT := wt_of (i := 619) (by decide +kernel) rfl
theorem wf_620 : Cond.selects "java/lang/StringBuilder" ⟨"java/lang/StringBuilder", "append", "(I)Ljava/lang/StringBuilder;"⟩ ⟨"java/lang/StringBuilder", "append", "(I)Ljava/lang/StringBuilder;"⟩ ∈ WT := wt_of (i := 620) (by decide +kernel) rfl
theorem fV_J4_append_bf812 : cfV ⟨"java/lang/StringBuilder", "append", "(I)Ljava/lang/StringBuilder;"⟩ prog_28_method_15_code 2 (some (.object "java/lang/StringBuilder")) 1 := ⟨⟨⟨by decide +kernel, by decide +kernel, by decide +kernel⟩, wf_10, wf_621⟩, wf_619, wf_620⟩
theorem wf_488 : Cond.code ⟨"java/lang/StringBuilder", "setLength", "(I)V"⟩ prog_28_method_89_code 2 none ∈ WT := wt_of (i := 488) (by decide +kernel) rfl
theorem wf_486 : Cond.instanceMethod ⟨"java/lang/StringBuilder", "setLength", "(I)V"⟩ ∈ WT := wt_of (i := 486) (by decide +kernel) rfl
theorem wf_487 : Cond.selects "java/lang/StringBuilder" ⟨"java/lang/StringBuilder", "setLength", "(I)V"⟩ ⟨"java/lang/StringBuilder", "setLength", "(I)V"⟩ ∈ WT := wt_of (i := 487) (by decide +kernel) rfl
theorem fV_J4_setLength_d00df : cfV ⟨"java/lang/StringBuilder", "setLength", "(I)V"⟩ prog_28_method_89_code 2 none 1 := ⟨⟨⟨by decide +kernel, by decide +kernel, by decide +kernel⟩, wf_10, wf_488⟩, wf_486, wf_487⟩
theorem wf_666 : Cond.code ⟨"java/lang/StringBuilder", "length", "()I"⟩ prog_28_method_93_code 1 (some .int) ∈ WT := wt_of (i := 666) (by decide +kernel) rfl
theorem wf_665 : Cond.instanceMethod ⟨"java/lang/StringBuilder", "length", "()I"⟩ ∈ WT := wt_of (i := 665) (by decide +kernel) rfl
theorem wf_2082 : Cond.selects "java/lang/StringBuilder" ⟨"java/lang/StringBuilder", "length", "()I"⟩ ⟨"java/lang/StringBuilder", "length", "()I"⟩ ∈ WT := wt_of (i := 2082) (by decide +kernel) rfl
theorem fV_J4_length_8abf5 : cfV ⟨"java/lang/StringBuilder", "length", "()I"⟩ prog_28_method_93_code 1 (some .int) 0 := ⟨⟨⟨by decide +kernel, by decide +kernel, by decide +kernel⟩, wf_10, wf_666⟩, wf_665, wf_2082⟩
theorem wf_1404 : Cond.code ⟨"java/lang/StringBuilder", "charAt", "(I)C"⟩ prog_28_method_88_code 2 (some .char) ∈ WT := wt_of (i := 1404) (by decide +kernel) rfl
theorem wf_1402 : Cond.instanceMethod ⟨"java/lang/StringBuilder", "charAt", "(I)C"⟩ ∈ WT := wt_of (i := 1402) (by decide +kernel) rfl
theorem wf_1403 : Cond.selects "java/lang/StringBuilder" ⟨"java/lang/StringBuilder", "charAt", "(I)C"⟩ ⟨"java/lang/StringBuilder", "charAt", "(I)C"⟩ ∈ WT := wt_of (i := 1403) (by decide +kernel) rfl
theorem fV_J4_charAt_5068e : cfV ⟨"java/lang/StringBuilder", "charAt", "(I)C"⟩ prog_28_method_88_code 2 (some .char) 1 := ⟨⟨⟨by decide +kernel, by decide +kernel, by decide +kernel⟩, wf_10, wf_1404⟩, wf_1402, wf_1403⟩
theorem wf_9 : Cond.initialized "java/lang/AbstractStringBuilder" ∈ WT := wt_of (i := 9) (by decide +kernel) rfl
theorem wf_548 : Cond.code ⟨"java/lang/AbstractStringBuilder", "isLatin1", "()Z"⟩ prog_12_method_68_code 1 (some .boolean) ∈ WT := wt_of (i := 548) (by decide +kernel) rfl
theorem wf_545 : Cond.instanceMethod ⟨"java/lang/AbstractStringBuilder", "isLatin1", "()Z"⟩ ∈ WT := wt_of (i := 545) (by decide +kernel) rfl
theorem wf_546 : Cond.sameMethod "java/lang/AbstractStringBuilder" "java/lang/AbstractStringBuilder" "isLatin1" "()Z" ∈ WT := wt_of (i := 546) (by decide +kernel) rfl
theorem wf_547 : Cond.selects "java/lang/StringBuilder" ⟨"java/lang/AbstractStringBuilder", "isLatin1", "()Z"⟩ ⟨"java/lang/AbstractStringBuilder", "isLatin1", "()Z"⟩ ∈ WT := wt_of (i := 547) (by decide +kernel) rfl
theorem fU_lat : cfU RJ4 ⟨"java/lang/AbstractStringBuilder", "isLatin1", "()Z"⟩ prog_12_method_68_code 1 (some .boolean) 0 := ⟨⟨⟨by decide +kernel, by decide +kernel, by decide +kernel⟩, wf_9, wf_548⟩, wf_546, wf_545, wf_547⟩
theorem wf_518 : Cond.code ⟨"java/lang/AbstractStringBuilder", "newCapacity", "(I)I"⟩ prog_12_method_10_code 6 (some .int) ∈ WT := wt_of (i := 518) (by decide +kernel) rfl
theorem wf_517 : Cond.instanceMethod ⟨"java/lang/AbstractStringBuilder", "newCapacity", "(I)I"⟩ ∈ WT := wt_of (i := 517) (by decide +kernel) rfl
theorem wf_2075 : Cond.sameMethod "java/lang/AbstractStringBuilder" "java/lang/AbstractStringBuilder" "newCapacity" "(I)I" ∈ WT := wt_of (i := 2075) (by decide +kernel) rfl
theorem fQ_nca : cfU RJ4 ⟨"java/lang/AbstractStringBuilder", "newCapacity", "(I)I"⟩ prog_12_method_10_code 6 (some .int) 1 := ⟨⟨⟨by decide +kernel, by decide +kernel, by decide +kernel⟩, wf_9, wf_518⟩, wf_2075, wf_517, wt_x1⟩
theorem wf_514 : Cond.code ⟨"java/lang/AbstractStringBuilder", "ensureCapacityInternal", "(I)V"⟩ prog_12_method_9_code 3 none ∈ WT := wt_of (i := 514) (by decide +kernel) rfl
theorem wf_513 : Cond.instanceMethod ⟨"java/lang/AbstractStringBuilder", "ensureCapacityInternal", "(I)V"⟩ ∈ WT := wt_of (i := 513) (by decide +kernel) rfl
theorem wf_2074 : Cond.sameMethod "java/lang/AbstractStringBuilder" "java/lang/AbstractStringBuilder" "ensureCapacityInternal" "(I)V" ∈ WT := wt_of (i := 2074) (by decide +kernel) rfl
theorem fQ_ens : cfU RJ4 ⟨"java/lang/AbstractStringBuilder", "ensureCapacityInternal", "(I)V"⟩ prog_12_method_9_code 3 none 1 := ⟨⟨⟨by decide +kernel, by decide +kernel, by decide +kernel⟩, wf_9, wf_514⟩, wf_2074, wf_513, wt_x0⟩
theorem wf_836 : Cond.code ⟨"java/lang/AbstractStringBuilder", "append", "(C)Ljava/lang/AbstractStringBuilder;"⟩ prog_12_method_31_code 2 (some (.object "java/lang/AbstractStringBuilder")) ∈ WT := wt_of (i := 836) (by decide +kernel) rfl
theorem wf_835 : Cond.instanceMethod ⟨"java/lang/AbstractStringBuilder", "append", "(C)Ljava/lang/AbstractStringBuilder;"⟩ ∈ WT := wt_of (i := 835) (by decide +kernel) rfl
theorem wf_2081 : Cond.sameMethod "java/lang/AbstractStringBuilder" "java/lang/AbstractStringBuilder" "append" "(C)Ljava/lang/AbstractStringBuilder;" ∈ WT := wt_of (i := 2081) (by decide +kernel) rfl
theorem wf_308 : Cond.superclass "java/lang/StringBuilder" "java/lang/AbstractStringBuilder" ∈ WT := wt_of (i := 308) (by decide +kernel) rfl
theorem fP_apc : cfP RJ4 ⟨"java/lang/AbstractStringBuilder", "append", "(C)Ljava/lang/AbstractStringBuilder;"⟩ prog_12_method_31_code 2 (some (.object "java/lang/AbstractStringBuilder")) 1 := ⟨⟨⟨by decide +kernel, by decide +kernel, by decide +kernel⟩, wf_9, wf_836⟩, wf_2081, wf_835, wf_308, by decide +kernel⟩
theorem wf_624 : Cond.code ⟨"java/lang/AbstractStringBuilder", "append", "(I)Ljava/lang/AbstractStringBuilder;"⟩ prog_12_method_32_code 4 (some (.object "java/lang/AbstractStringBuilder")) ∈ WT := wt_of (i := 624) (by decide +kernel) rfl
theorem wf_623 : Cond.instanceMethod ⟨"java/lang/AbstractStringBuilder", "append", "(I)Ljava/lang/AbstractStringBuilder;"⟩ ∈ WT := wt_of (i := 623) (by decide +kernel) rfl
theorem wf_2079 : Cond.sameMethod "java/lang/AbstractStringBuilder" "java/lang/AbstractStringBuilder" "append" "(I)Ljava/lang/AbstractStringBuilder;" ∈ WT := wt_of (i := 2079) (by decide +kernel) rfl
theorem fP_api : cfP RJ4 ⟨"java/lang/AbstractStringBuilder", "append", "(I)Ljava/lang/AbstractStringBuilder;"⟩ prog_12_method_32_code 4 (some (.object "java/lang/AbstractStringBuilder")) 1 := ⟨⟨⟨by decide +kernel, by decide +kernel, by decide +kernel⟩, wf_9, wf_624⟩, wf_2079, wf_623, wf_308, by decide +kernel⟩
theorem wf_491 : Cond.code ⟨"java/lang/AbstractStringBuilder", "setLength", "(I)V"⟩ prog_12_method_13_code 2 none ∈ WT := wt_of (i := 491) (by decide +kernel) rfl
theorem wf_490 : Cond.instanceMethod ⟨"java/lang/AbstractStringBuilder", "setLength", "(I)V"⟩ ∈ WT := wt_of (i := 490) (by decide +kernel) rfl
theorem wf_2071 : Cond.sameMethod "java/lang/AbstractStringBuilder" "java/lang/AbstractStringBuilder" "setLength" "(I)V" ∈ WT := wt_of (i := 2071) (by decide +kernel) rfl
theorem fP_sle : cfP RJ4 ⟨"java/lang/AbstractStringBuilder", "setLength", "(I)V"⟩ prog_12_method_13_code 2 none 1 := ⟨⟨⟨by decide +kernel, by decide +kernel, by decide +kernel⟩, wf_9, wf_491⟩, wf_2071, wf_490, wf_308, by decide +kernel⟩
theorem wf_668 : Cond.code ⟨"java/lang/AbstractStringBuilder", "length", "()I"⟩ prog_12_method_6_code 1 (some .int) ∈ WT := wt_of (i := 668) (by decide +kernel) rfl
theorem wf_662 : Cond.instanceMethod ⟨"java/lang/AbstractStringBuilder", "length", "()I"⟩ ∈ WT := wt_of (i := 662) (by decide +kernel) rfl
theorem wf_663 : Cond.sameMethod "java/lang/AbstractStringBuilder" "java/lang/AbstractStringBuilder" "length" "()I" ∈ WT := wt_of (i := 663) (by decide +kernel) rfl
theorem fP_len : cfP RJ4 ⟨"java/lang/AbstractStringBuilder", "length", "()I"⟩ prog_12_method_6_code 1 (some .int) 0 := ⟨⟨⟨by decide +kernel, by decide +kernel, by decide +kernel⟩, wf_9, wf_668⟩, wf_663, wf_662, wf_308, by decide +kernel⟩
theorem wf_1407 : Cond.code ⟨"java/lang/AbstractStringBuilder", "charAt", "(I)C"⟩ prog_12_method_14_code 5 (some .char) ∈ WT := wt_of (i := 1407) (by decide +kernel) rfl
theorem wf_1406 : Cond.instanceMethod ⟨"java/lang/AbstractStringBuilder", "charAt", "(I)C"⟩ ∈ WT := wt_of (i := 1406) (by decide +kernel) rfl
theorem wf_2083 : Cond.sameMethod "java/lang/AbstractStringBuilder" "java/lang/AbstractStringBuilder" "charAt" "(I)C" ∈ WT := wt_of (i := 2083) (by decide +kernel) rfl
theorem fP_cha : cfP RJ4 ⟨"java/lang/AbstractStringBuilder", "charAt", "(I)C"⟩ prog_12_method_14_code 5 (some .char) 1 := ⟨⟨⟨by decide +kernel, by decide +kernel, by decide +kernel⟩, wf_9, wf_1407⟩, wf_2083, wf_1406, wf_308, by decide +kernel⟩
theorem wf_631 : Cond.fieldLink "java/lang/Integer" 83 "java/lang/Integer" "DigitOnes" "[B" ∈ WT := wt_of (i := 631) (by decide +kernel) rfl
theorem wf_633 : Cond.fieldLink "java/lang/Integer" 87 "java/lang/Integer" "DigitTens" "[B" ∈ WT := wt_of (i := 633) (by decide +kernel) rfl
/-! the JDK's walks: canEncode, stringSize, getChars -/
theorem ng_toInt {a : Nat} (h : a < 2 ^ 31) : (-nI a).toInt = -(a : Int) := by
  rw [Int32.toInt_neg, nI_toInt h, Int.bmod_def]
  split <;> omega
theorem ng_le {a b : Nat} (ha : a < 2 ^ 31) (hb : b < 2 ^ 31) : (-nI a ≤ -nI b) = (b ≤ a) := by
  apply propext
  rw [Int32.le_iff_toInt_le, ng_toInt ha, ng_toInt hb]
  omega
theorem ng_lt {a b : Nat} (ha : a < 2 ^ 31) (hb : b < 2 ^ 31) : (-nI a < -nI b) = (b < a) := by
  apply propext
  rw [Int32.lt_iff_toInt_lt, ng_toInt ha, ng_toInt hb]
  omega
theorem ng_ml {a b : Nat} (h : a * b < 2 ^ 31) (ha : a < 2 ^ 31) (hb : b < 2 ^ 31) : nI a * -nI b = -nI (a * b) := by rw [Int32.mul_neg, ml_nn h ha hb]
theorem ng_dv {a b : Nat} (ha : a < 2 ^ 31) (hb : b < 2 ^ 31) : -nI a / nI b = -nI (a / b) := by
  apply Int32.toInt_inj.mp
  have hq : a / b < 2 ^ 31 := Nat.lt_of_le_of_lt (Nat.div_le_self _ _) ha
  rw [Int32.toInt_div, ng_toInt ha, nI_toInt hb, ng_toInt hq, Int.neg_tdiv, ← Int.ofNat_tdiv]
  generalize a / b = q at hq
  rw [Int.bmod_def]
  split <;> omega
theorem ng_md {a : Nat} (ha : a < 2 ^ 31) : -nI (a / 100) * 100 - -nI a = nI (a % 100) := by
  apply Int32.toInt_inj.mp
  have hq : a / 100 < 2 ^ 31 := Nat.lt_of_le_of_lt (Nat.div_le_self _ _) ha
  rw [show (100 : Int32) = nI 100 from rfl, Int32.neg_mul, ml_nn (by omega) hq (by decide), Int32.toInt_sub, ng_toInt (by omega), ng_toInt ha, nI_toInt (by omega), Int.bmod_def]
  split <;> omega
theorem dc_1 {a : Nat} (h : 1 ≤ a) : nI a + Int32.ofInt (-1) = nI (a - 1) := by
  obtain ⟨b, rfl⟩ : ∃ b, a = b + 1 := ⟨a - 1, by omega⟩
  rw [nI_succ, Int32.add_assoc]
  show nI b + 0 = nI b
  rw [Int32.add_zero]
theorem dl_g {v i : Nat} (hv : v < 10 ^ 7) (h1 : 1 ≤ i) (h : i < dl v) : 10 ^ i ≤ v := by
  have := dl_l (v := v) (k := i - 1) (by omega)
  have hp : 0 < 10 ^ (i - 1) := Nat.pow_pos (by omega)
  rw [Nat.le_div_iff_mul_le hp] at this
  rw [show i = (i - 1) + 1 by omega, Nat.pow_succ, Nat.mul_comm]
  exact this
theorem nar_b {t : Nat} (h : t < 128) : vp_nar .byte (nI t) = nI t := by
  have : ∀ t : Nat, t < 128 → vp_nar .byte (nI t) = nI t := by decide +kernel
  exact this t h
/-- a's digits, that end before pos -/
def fgd (f : Nat → Int32) (a pos : Nat) : Nat → Int32 := fun j => if pos - dl a ≤ j ∧ j < pos then nI (48 + a / 10 ^ (pos - 1 - j) % 10) else f j
theorem dl_100 {a : Nat} (h : 100 ≤ a) (ha : a < 10 ^ 7) : dl a = dl (a / 100) + 2 := by
  unfold dl
  repeat' split
  all_goals omega
theorem fgd_1 (f : Nat → Int32) {a pos : Nat} (h : a < 10) (hp : 1 ≤ pos) : upd f (pos - 1) (nI (48 + a % 10)) = fgd f a pos := by
  funext j
  unfold fgd upd
  rw [dl_1 h]
  by_cases c : j = pos - 1
  · subst c
    rw [if_pos rfl, if_pos (by omega), Nat.sub_self, Nat.pow_zero, Nat.div_one]
  · rw [if_neg c, if_neg (by omega)]
theorem fgd_2 (f : Nat → Int32) {a pos : Nat} (h1 : 10 ≤ a) (h : a < 100) (hp : 2 ≤ pos) : upd (upd f (pos - 1) (nI (48 + a % 10))) (pos - 2) (nI (48 + a / 10)) = fgd f a pos := by
  funext j
  have hd : dl a = 2 := by unfold dl; rw [if_neg (by omega), if_pos h]
  unfold fgd upd
  rw [hd]
  by_cases c : j = pos - 2
  · subst c
    rw [if_pos rfl, if_pos (by omega), show pos - 1 - (pos - 2) = 1 by omega, Nat.pow_one]
    congr 2
    omega
  · rw [if_neg c]
    by_cases c2 : j = pos - 1
    · subst c2
      rw [if_pos rfl, if_pos (by omega), Nat.sub_self, Nat.pow_zero, Nat.div_one]
    · rw [if_neg c2, if_neg (by omega)]
theorem fgd_s (f : Nat → Int32) {a pos : Nat} (h1 : 100 ≤ a) (h : a < 10 ^ 7) (hp : dl a ≤ pos) : fgd (upd (upd f (pos - 1) (nI (48 + a % 100 % 10))) (pos - 2) (nI (48 + a % 100 / 10))) (a / 100) (pos - 2) = fgd f a pos := by
  funext j
  have hd := dl_100 h1 h
  have hb := dl_b (a / 100)
  unfold fgd upd
  rw [hd]
  by_cases c : j = pos - 2
  · subst c
    rw [if_neg (by omega), if_pos rfl, if_pos (by omega), show pos - 1 - (pos - 2) = 1 by omega, Nat.pow_one]
    congr 2
    omega
  · by_cases c2 : j = pos - 1
    · subst c2
      rw [if_neg (by omega), if_neg (by omega), if_pos rfl, if_pos (by omega), Nat.sub_self, Nat.pow_zero, Nat.div_one]
      congr 2
      omega
    · by_cases c3 : pos - 2 - dl (a / 100) ≤ j ∧ j < pos - 2
      · rw [if_pos c3, if_pos (by omega), show pos - 1 - j = (pos - 2 - 1 - j) + 2 by omega, Nat.pow_add, Nat.mul_comm, ← Nat.div_div_eq_div_mul]
      · rw [if_neg c3, if_neg c, if_neg c2, if_neg (by omega)]
set_option maxRecDepth 100000 in
theorem kS_can {l : Launch} {D : va_G} {dA : Nat → ClassId} {sa : String → Nat → Nat} (hl : l.stackTraces = false) {w : va_W} {ch : Nat} (hc : ch < 256) : CTi l D dA sa ⟨"java/lang/StringLatin1", "canEncode", "(C)Z"⟩ (wz ⟨"java/lang/StringLatin1", "canEncode", "(C)Z"⟩ prog_30_method_3_code 1 (some .boolean)) rmJ0 [.int (nI ch)] w 1 w := by
  refine xm_z hl (by decide +kernel) (Nat.le_of_ble_eq_true rfl) rfl ?_
  intro p e s m args below meth c A Q hC hR
  show xv p l e rmJ0 s m args below meth c D A 1 Q w 0 0 0 [(0, .int (nI ch))] []
  refine xv_iload_n (pc := 0) hC dS_can_0 0 rfl rfl ?_
  refine xv_sipush (v := 255) (pc := 1) hC dS_can_1 (by decide) ?_
  refine xv_icmp_gt (tgt := 11) (pc := 4) hC dS_can_4 (by decide) (fun c9 => absurd c9 (show ¬ nI 255 < nI ch from nI_nlt (show ch ≤ 255 by omega) (by decide))) (fun _ => ?_)
  refine xv_iconst (v := 1) (pc := 7) hC dS_can_7 (by decide) ?_
  refine xv_goto (tgt := 12) (pc := 8) hC dS_can_8 (by decide) ?_
  exact hR _ _ _ _ (by decide) (Nat.le_of_ble_eq_true rfl) (Nat.le_of_ble_eq_true rfl) dS_can_12
set_option maxRecDepth 100000 in
theorem kS_siz {l : Launch} {D : va_G} {dA : Nat → ClassId} {sa : String → Nat → Nat} (hl : l.stackTraces = false) {w : va_W} {v : Nat} (hv : v < 10 ^ 7) : CTi l D dA sa ⟨"java/lang/Integer", "stringSize", "(I)I"⟩ (wz ⟨"java/lang/Integer", "stringSize", "(I)I"⟩ prog_23_method_13_code 4 (some .int)) rmJ0 [.int (nI v)] w (nI (dl v)) w := by
  refine xm_i hl (by decide +kernel) (Nat.le_of_ble_eq_true rfl) rfl ?_
  intro p e s m args below meth c A Q hC hR
  show xv p l e rmJ0 s m args below meth c D A 4 Q w 0 0 0 [(0, .int (nI v))] []
  have hb9 := dl_b v
  refine xv_iconst (v := 1) (pc := 0) hC dS_siz_0 (by decide) ?_
  refine xv_istore_n (pc := 1) (lv' := [(1, .int 1), (0, .int (nI v))]) hC dS_siz_1 rfl (by decide) rfl ?_
  refine xv_iload_n (pc := 2) hC dS_siz_2 1 rfl rfl ?_
  refine xv_if_lt (tgt := 11) (pc := 3) hC dS_siz_3 (by decide) (fun c9 => absurd c9 (nI_pos (show v < 2 ^ 31 by omega))) (fun _ => ?_)
  refine xv_iconst (v := 0) (pc := 6) hC dS_siz_6 (by decide) ?_
  refine xv_istore_n (pc := 7) (lv' := [(1, .int 0), (0, .int (nI v))]) hC dS_siz_7 rfl (by decide) rfl ?_
  refine xv_iload_n (pc := 8) hC dS_siz_8 1 rfl rfl ?_
  refine xv_ineg (pc := 9) hC dS_siz_9 ?_
  refine xv_istore_n (pc := 10) (lv' := [(0, .int (-nI v)), (1, .int 0)]) hC dS_siz_10 rfl (by decide) rfl ?_
  refine xv_bipush (v := -10) (pc := 11) hC dS_siz_11 (by decide) ?_
  refine xv_istore_n (pc := 13) (lv' := [(2, .int (-10)), (0, .int (-nI v)), (1, .int 0)]) hC dS_siz_13 rfl (by decide) rfl ?_
  refine xv_iconst (v := 1) (pc := 14) hC dS_siz_14 (by decide) ?_
  refine xv_istore_n (pc := 15) (lv' := [(3, .int 1), (2, .int (-10)), (0, .int (-nI v)), (1, .int 0)]) hC dS_siz_15 rfl (by decide) rfl ?_
  suffices loop : ∀ (e9 i9 : Nat), i9 + e9 = dl v → 1 ≤ i9 → xv p l e rmJ0 s m args below meth c D A 4 Q w 0 0 16 [(3, .int (nI i9)), (2, .int (-nI (10 ^ i9))), (0, .int (-nI v)), (1, .int 0)] [] from loop (dl v - 1) 1 (by omega) (by omega)
  intro e9
  induction e9 with
  | zero =>
    intro i9 hi h1
    have hpw : 10 ^ i9 < 2 ^ 31 := Nat.lt_of_le_of_lt (Nat.pow_le_pow_right (by omega) (show i9 ≤ 7 by omega)) (by decide)
    have hlt : v < 10 ^ i9 := by rw [show i9 = dl v by omega]; exact dl_h hv
    refine xv_iload_n (pc := 16) hC dS_siz_16 0 rfl rfl ?_
    refine xv_bipush (v := 10) (pc := 17) hC dS_siz_17 (by decide) ?_
    refine xv_icmp_ge (tgt := 42) (pc := 19) hC dS_siz_19 (by decide) (fun c9 => absurd c9 (show ¬ nI 10 ≤ nI i9 from nI_ge (by omega) (by decide))) (fun _ => ?_)
    refine xv_iload_n (pc := 22) hC dS_siz_22 2 rfl rfl ?_
    refine xv_iload_n (pc := 23) hC dS_siz_23 1 rfl rfl ?_
    refine xv_icmp_le (tgt := 31) (pc := 24) hC dS_siz_24 (by decide) (fun c9 => absurd c9 (show ¬ -nI v ≤ -nI (10 ^ i9) by rw [ng_le (by omega) hpw]; omega)) (fun _ => ?_)
    refine xv_iload_n (pc := 27) hC dS_siz_27 0 rfl rfl ?_
    refine xv_iload_n (pc := 28) hC dS_siz_28 3 rfl rfl ?_
    refine xv_iadd (pc := 29) hC dS_siz_29 ?_
    rw [Int32.add_zero, show i9 = dl v by omega]
    exact hR _ _ _ _ (Nat.le_of_ble_eq_true rfl) (Nat.le_of_ble_eq_true rfl) dS_siz_30
  | succ e9 ih =>
    intro i9 hi h1
    have hpw : 10 ^ i9 < 2 ^ 31 := Nat.lt_of_le_of_lt (Nat.pow_le_pow_right (by omega) (show i9 ≤ 7 by omega)) (by decide)
    have hpw2 : 10 ^ (i9 + 1) < 2 ^ 31 := Nat.lt_of_le_of_lt (Nat.pow_le_pow_right (by omega) (show i9 + 1 ≤ 7 by omega)) (by decide)
    have hge : 10 ^ i9 ≤ v := dl_g hv h1 (by omega)
    refine xv_iload_n (pc := 16) hC dS_siz_16 0 rfl rfl ?_
    refine xv_bipush (v := 10) (pc := 17) hC dS_siz_17 (by decide) ?_
    refine xv_icmp_ge (tgt := 42) (pc := 19) hC dS_siz_19 (by decide) (fun c9 => absurd c9 (show ¬ nI 10 ≤ nI i9 from nI_ge (by omega) (by decide))) (fun _ => ?_)
    refine xv_iload_n (pc := 22) hC dS_siz_22 2 rfl rfl ?_
    refine xv_iload_n (pc := 23) hC dS_siz_23 1 rfl rfl ?_
    refine xv_icmp_le (tgt := 31) (pc := 24) hC dS_siz_24 (by decide) (fun _ => ?_) (fun c9 => absurd (show -nI v ≤ -nI (10 ^ i9) by rw [ng_le (by omega) hpw]; exact hge) c9)
    refine xv_bipush (v := 10) (pc := 31) hC dS_siz_31 (by decide) ?_
    refine xv_iload_n (pc := 33) hC dS_siz_33 1 rfl rfl ?_
    refine xv_imul (pc := 34) hC dS_siz_34 ?_
    rw [show (10 : Int32) * -nI (10 ^ i9) = -nI (10 ^ (i9 + 1)) by rw [show (10 : Int32) = nI 10 from rfl, ng_ml (by omega) (by decide) hpw, Nat.pow_succ, Nat.mul_comm]]
    refine xv_istore_n (pc := 35) (lv' := [(2, .int (-nI (10 ^ (i9 + 1)))), (3, .int (nI i9)), (0, .int (-nI v)), (1, .int 0)]) hC dS_siz_35 rfl (by decide) rfl ?_
    refine xv_iinc (pc := 36) (v := nI (i9 + 1)) (lv' := [(3, .int (nI (i9 + 1))), (2, .int (-nI (10 ^ (i9 + 1)))), (0, .int (-nI v)), (1, .int 0)]) hC dS_siz_36 1 rfl (nI_1 i9) (by decide) rfl ?_
    refine xv_goto (tgt := 16) (pc := 39) hC dS_siz_39 (by decide) ?_
    exact ih (i9 + 1) (by omega) (by omega)
set_option maxRecDepth 100000 in
theorem kS_gch {l : Launch} {D : va_G} {dA : Nat → ClassId} {sa : String → Nat → Nat} (hl : l.stackTraces = false) {b cap v ix : Nat} {f : Nat → Int32} (hv : v < 10 ^ 7) (hd : dl v ≤ ix) (hx : ix ≤ cap) (hcap : cap ≤ 160) : CTi l D dA sa ⟨"java/lang/Integer", "getChars", "(II[B)I"⟩ (wz ⟨"java/lang/Integer", "getChars", "(II[B)I"⟩ prog_23_method_12_code 7 (some .int)) rmJ0 [.int (nI v), .int (nI ix), .ref b] [(b, .inl (dA 6, cap, .inl (f)))] (nI (ix - dl v)) [(b, .inl (dA 6, cap, .inl (fgd f v ix)))] := by
  refine xm_i hl (by decide +kernel) (Nat.le_of_ble_eq_true rfl) rfl ?_
  intro p e s m args below meth c A Q hC hR
  show xv p l e rmJ0 s m args below meth c D A 7 Q [(b, .inl (dA 6, cap, .inl (f)))] 0 0 0 [(0, .int (nI v)), (1, .int (nI ix)), (2, .ref b)] []
  refine xv_iload_n (pc := 0) hC dS_gch_0 1 rfl rfl ?_
  refine xv_istore (pc := 1) (lv' := [(5, .int (nI ix)), (0, .int (nI v)), (1, .int (nI ix)), (2, .ref b)]) hC dS_gch_1 (by decide) rfl ?_
  refine xv_iload_n (pc := 3) hC dS_gch_3 1 rfl rfl ?_
  refine xv_if_ge (tgt := 11) (pc := 4) hC dS_gch_4 (by decide) (fun _ => ?_) (fun c9 => absurd (nI_pos' (show v < 2 ^ 31 by omega)) c9)
  refine xv_iconst (v := 0) (pc := 11) hC dS_gch_11 (by decide) ?_
  refine xv_istore (pc := 12) (lv' := [(6, .int 0), (5, .int (nI ix)), (0, .int (nI v)), (1, .int (nI ix)), (2, .ref b)]) hC dS_gch_12 (by decide) rfl ?_
  refine xv_iload (pc := 14) hC dS_gch_14 0 rfl ?_
  refine xv_if_ne (tgt := 22) (pc := 16) hC dS_gch_16 (by decide) (fun c9 => absurd c9 (show ¬ ¬ (0 : Int32) = 0 by decide)) (fun _ => ?_)
  refine xv_iload_n (pc := 19) hC dS_gch_19 2 rfl rfl ?_
  refine xv_ineg (pc := 20) hC dS_gch_20 ?_
  refine xv_istore_n (pc := 21) (lv' := [(0, .int (-nI v)), (6, .int 0), (5, .int (nI ix)), (1, .int (nI ix)), (2, .ref b)]) hC dS_gch_21 rfl (by decide) rfl ?_
  refine xv_sub [0, 2, 1, 4] (lv' := [(0, .int (-nI v)), (5, .int (nI ix)), (6, .int 0), (2, .ref b)]) rfl ?_
  suffices loop : ∀ (n9 a pos : Nat) (g : Nat → Int32), a < n9 → a < 10 ^ 7 → dl a ≤ pos → pos ≤ cap → fgd g a pos = fgd f v ix → pos - dl a = ix - dl v → xv p l e rmJ0 s m args below meth c D A 7 Q [(b, .inl (dA 6, cap, .inl (g)))] 0 0 22 [(0, .int (-nI a)), (5, .int (nI pos)), (6, .int 0), (2, .ref b)] [] from loop (v + 1) v ix f (by omega) hv hd hx rfl rfl
  intro n9
  induction n9 with
  | zero => intro a pos g h; omega
  | succ n9 ih =>
    intro a pos g hn ha hp hc9 hF hP
    have hb9 := dl_b a
    by_cases c1 : 100 ≤ a
    · have hd2 := dl_100 c1 ha
      have hb10 := dl_b (a / 100)
      refine xv_iload_n (pc := 22) hC dS_gch_22 0 rfl rfl ?_
      refine xv_bipush (v := -100) (pc := 23) hC dS_gch_23 (by decide) ?_
      refine xv_icmp_gt (tgt := 72) (pc := 25) hC dS_gch_25 (by decide) (fun c9 => absurd c9 (show ¬ -nI 100 < -nI a by rw [ng_lt (by decide) (by omega)]; omega)) (fun _ => ?_)
      refine xv_iload_n (pc := 28) hC dS_gch_28 0 rfl rfl ?_
      refine xv_bipush (v := 100) (pc := 29) hC dS_gch_29 (by decide) ?_
      refine xv_idiv (pc := 31) hC dS_gch_31 (by decide) ?_
      rw [show -nI a / 100 = -nI (a / 100) from ng_dv (by omega) (by decide)]
      refine xv_istore_n (pc := 32) (lv' := [(3, .int (-nI (a / 100))), (0, .int (-nI a)), (5, .int (nI pos)), (6, .int 0), (2, .ref b)]) hC dS_gch_32 rfl (by decide) rfl ?_
      refine xv_iload_n (pc := 33) hC dS_gch_33 0 rfl rfl ?_
      refine xv_bipush (v := 100) (pc := 34) hC dS_gch_34 (by decide) ?_
      refine xv_imul (pc := 36) hC dS_gch_36 ?_
      refine xv_iload_n (pc := 37) hC dS_gch_37 1 rfl rfl ?_
      refine xv_isub (pc := 38) hC dS_gch_38 ?_
      rw [ng_md (by omega)]
      refine xv_istore (pc := 39) (lv' := [(4, .int (nI (a % 100))), (3, .int (-nI (a / 100))), (0, .int (-nI a)), (5, .int (nI pos)), (6, .int 0), (2, .ref b)]) hC dS_gch_39 (by decide) rfl ?_
      refine xv_iload_n (pc := 41) hC dS_gch_41 1 rfl rfl ?_
      refine xv_istore_n (pc := 42) (lv' := [(0, .int (-nI (a / 100))), (4, .int (nI (a % 100))), (3, .int (-nI (a / 100))), (5, .int (nI pos)), (6, .int 0), (2, .ref b)]) hC dS_gch_42 rfl (by decide) rfl ?_
      refine xv_aload_n (pc := 43) hC dS_gch_43 5 rfl rfl ?_
      refine xv_iinc (pc := 44) (v := nI (pos - 1)) (lv' := [(5, .int (nI (pos - 1))), (0, .int (-nI (a / 100))), (4, .int (nI (a % 100))), (3, .int (-nI (a / 100))), (6, .int 0), (2, .ref b)]) hC dS_gch_44 3 rfl (dc_1 (by omega)) (by decide) rfl ?_
      refine xv_iload (pc := 47) hC dS_gch_47 0 rfl ?_
      refine xv_gdo (pc := 49) hC dS_gch_49 wf_631 ?_
      refine xv_iload (pc := 52) hC dS_gch_52 2 rfl ?_
      refine xv_ldo (pc := 54) hC dS_gch_54 (by omega) ?_
      refine xv_bast (pc := 55) (w2 := [(b, .inl (dA 6, cap, .inl (upd g (pos - 1) (nI (48 + a % 100 % 10)))))]) hC dS_gch_55 (q0 := 0) rfl (vin_n (by omega) (by omega)) (by rw [cl_n (by omega), nar_b (by omega)]; rfl) ?_
      refine xv_aload_n (pc := 56) hC dS_gch_56 5 rfl rfl ?_
      refine xv_iinc (pc := 57) (v := nI (pos - 2)) (lv' := [(5, .int (nI (pos - 2))), (0, .int (-nI (a / 100))), (4, .int (nI (a % 100))), (3, .int (-nI (a / 100))), (6, .int 0), (2, .ref b)]) hC dS_gch_57 0 rfl (by rw [dc_1 (by omega)]; rfl) (by decide) rfl ?_
      refine xv_iload (pc := 60) hC dS_gch_60 0 rfl ?_
      refine xv_gdt (pc := 62) hC dS_gch_62 wf_633 ?_
      refine xv_iload (pc := 65) hC dS_gch_65 2 rfl ?_
      refine xv_ldt (pc := 67) hC dS_gch_67 (by omega) ?_
      refine xv_bast (pc := 68) (w2 := [(b, .inl (dA 6, cap, .inl (upd (upd g (pos - 1) (nI (48 + a % 100 % 10))) (pos - 2) (nI (48 + a % 100 / 10)))))]) hC dS_gch_68 (q0 := 0) rfl (vin_n (by omega) (by omega)) (by rw [cl_n (by omega), nar_b (by omega)]; rfl) ?_
      refine xv_goto (tgt := 22) (pc := 69) hC dS_gch_69 (by decide) ?_
      refine xv_sub [1, 0, 4, 5] (lv' := [(0, .int (-nI (a / 100))), (5, .int (nI (pos - 2))), (6, .int 0), (2, .ref b)]) rfl ?_
      exact ih (a / 100) (pos - 2) _ (by omega) (by omega) (by omega) (by omega) (by rw [fgd_s g c1 ha hp]; exact hF) (by omega)
    · rw [← hF, ← hP] at hR
      refine xv_iload_n (pc := 22) hC dS_gch_22 0 rfl rfl ?_
      refine xv_bipush (v := -100) (pc := 23) hC dS_gch_23 (by decide) ?_
      refine xv_icmp_gt (tgt := 72) (pc := 25) hC dS_gch_25 (by decide) (fun _ => ?_) (fun c9 => absurd (show -nI 100 < -nI a by rw [ng_lt (by decide) (by omega)]; omega) c9)
      refine xv_aload_n (pc := 72) hC dS_gch_72 3 rfl rfl ?_
      refine xv_iinc (pc := 73) (v := nI (pos - 1)) (lv' := [(5, .int (nI (pos - 1))), (0, .int (-nI a)), (6, .int 0), (2, .ref b)]) hC dS_gch_73 1 rfl (dc_1 (by omega)) (by decide) rfl ?_
      refine xv_iload (pc := 76) hC dS_gch_76 0 rfl ?_
      refine xv_gdo (pc := 78) hC dS_gch_78 wf_631 ?_
      refine xv_iload_n (pc := 81) hC dS_gch_81 1 rfl rfl ?_
      refine xv_ineg (pc := 82) hC dS_gch_82 ?_
      rw [Int32.neg_neg]
      refine xv_ldo (pc := 83) hC dS_gch_83 (by omega) ?_
      refine xv_bast (pc := 84) (w2 := [(b, .inl (dA 6, cap, .inl (upd g (pos - 1) (nI (48 + a % 10)))))]) hC dS_gch_84 (q0 := 0) rfl (vin_n (by omega) (by omega)) (by rw [cl_n (by omega), nar_b (by omega)]; rfl) ?_
      refine xv_iload_n (pc := 85) hC dS_gch_85 1 rfl rfl ?_
      refine xv_bipush (v := -9) (pc := 86) hC dS_gch_86 (by decide) ?_
      by_cases c2 : a < 10
      · have hd1 := dl_1 c2
        refine xv_icmp_ge (tgt := 104) (pc := 88) hC dS_gch_88 (by decide) (fun _ => ?_) (fun c9 => absurd (show -nI 9 ≤ -nI a by rw [ng_le (by decide) (by omega)]; omega) c9)
        refine xv_iload (pc := 104) hC dS_gch_104 2 rfl ?_
        refine xv_if_eq (tgt := 118) (pc := 106) hC dS_gch_106 (by decide) (fun _ => ?_) (fun c9 => absurd (rfl : (0 : Int32) = 0) c9)
        refine xv_iload (pc := 118) hC dS_gch_118 0 rfl ?_
        rw [fgd_1 g c2 (by omega), ← hd1]
        exact hR _ _ _ _ (Nat.le_of_ble_eq_true rfl) (Nat.le_of_ble_eq_true rfl) dS_gch_120
      · have hd1 : dl a = 2 := by unfold dl; rw [if_neg c2, if_pos (by omega)]
        refine xv_icmp_ge (tgt := 104) (pc := 88) hC dS_gch_88 (by decide) (fun c9 => absurd c9 (show ¬ -nI 9 ≤ -nI a by rw [ng_le (by decide) (by omega)]; omega)) (fun _ => ?_)
        refine xv_aload_n (pc := 91) hC dS_gch_91 3 rfl rfl ?_
        refine xv_iinc (pc := 92) (v := nI (pos - 2)) (lv' := [(5, .int (nI (pos - 2))), (0, .int (-nI a)), (6, .int 0), (2, .ref b)]) hC dS_gch_92 0 rfl (by rw [dc_1 (by omega)]; rfl) (by decide) rfl ?_
        refine xv_iload (pc := 95) hC dS_gch_95 0 rfl ?_
        refine xv_gdt (pc := 97) hC dS_gch_97 wf_633 ?_
        refine xv_iload_n (pc := 100) hC dS_gch_100 1 rfl rfl ?_
        refine xv_ineg (pc := 101) hC dS_gch_101 ?_
        rw [Int32.neg_neg]
        refine xv_ldt (pc := 102) hC dS_gch_102 (by omega) ?_
        refine xv_bast (pc := 103) (w2 := [(b, .inl (dA 6, cap, .inl (upd (upd g (pos - 1) (nI (48 + a % 10))) (pos - 2) (nI (48 + a / 10)))))]) hC dS_gch_103 (q0 := 0) rfl (vin_n (by omega) (by omega)) (by rw [cl_n (by omega), nar_b (by omega)]; rfl) ?_
        refine xv_iload (pc := 104) hC dS_gch_104 2 rfl ?_
        refine xv_if_eq (tgt := 118) (pc := 106) hC dS_gch_106 (by decide) (fun _ => ?_) (fun c9 => absurd (rfl : (0 : Int32) = 0) c9)
        refine xv_iload (pc := 118) hC dS_gch_118 0 rfl ?_
        rw [fgd_2 g (by omega) (by omega) (by omega)]
        rw [hd1] at hR
        exact hR _ _ _ _ (Nat.le_of_ble_eq_true rfl) (Nat.le_of_ble_eq_true rfl) dS_gch_120
