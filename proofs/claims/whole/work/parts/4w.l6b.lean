/-! at the launch: words, classes, Strings, statics *)-/
def nar : List Cond := flatC (Cond.and given_1 narrow_1)
section SLA
variable {args : Array Value} {s : State}
theorem nar_of (hgv : (Cond.and given_1 narrow_1).before args s = true) {i : Nat} {w : Cond} (h : nar[i]? = some w) : w.before args s = true := flat_of_before _ hgv w (List.mem_of_getElem? h)
theorem tab_of (hts : ∀ w ∈ lw_tbl, w.before args s = true) {i : Nat} {w : Cond} (h : tables_1[i]? = some w) : w.before args s = true := hts w (List.mem_append_right _ (List.mem_of_getElem? h))
theorem wt_before (hts : ∀ w ∈ lw_tbl, w.before args s = true) : ∀ x ∈ WT, x.before args s = true := by
  intro x hx
  rcases List.mem_append.mp ((wt_iff x).mp hx).1 with h | h
  · exact hts x h
  · have h0 : (Cond.selects "java/lang/StringBuilder" ⟨"java/lang/AbstractStringBuilder", "isLatin1", "()Z"⟩ ⟨"java/lang/AbstractStringBuilder", "isLatin1", "()Z"⟩).before args s = true := tab_of hts (i := 547) (by decide +kernel)
    simp only [lw_xs, List.mem_cons, List.not_mem_nil, or_false] at h
    rcases h with rfl | rfl
    · exact sel_priv h0 rfl (tab_of hts (i := 512) (by decide +kernel)) (tab_of hts (i := 513) (by decide +kernel)) ⟨by decide, by decide⟩
    · exact sel_priv h0 rfl (tab_of hts (i := 516) (by decide +kernel)) (tab_of hts (i := 517) (by decide +kernel)) ⟨by decide, by decide⟩
theorem ra_arr {ty : FieldType} (hty : ∀ C, ty ≠ .object C) (h : (Cond.arrayClass ty).before args s = true) : ∃ cA : ClassId, ArrOfT s cA ty ∧ va_RA s cA ty := by
  obtain ⟨c, k, comp, h1, h2, h3⟩ := Cond.arrayClass_spec h
  refine ⟨c, fun n z => ⟨fun k h => (by cases h), k, h2, comp, h3⟩, ?_⟩
  cases ty with
  | object C => exact absurd rfl (hty C)
  | _ => exact h1
theorem ra_obj {C : String} (h : (Cond.arrayOver (.object C)).before args s = true) : ∃ cA : ClassId, ArrOfT s cA (.object C) ∧ va_RA s cA (.object C) := by
  obtain ⟨comp, c, k, h1, h2, h3, h4, h5⟩ := Cond.arrayOver_spec h
  exact ⟨c, fun n z => ⟨fun k h => (by cases h), k, h3, comp, h4⟩, k, comp, h3, h4, h1, h5⟩
theorem ks_start (hts : ∀ w ∈ lw_tbl, w.before args s = true) : ∃ (D : va_G) (dA : Nat → ClassId), va_K D vwC (tyl dA) s := by
  have hw := wt_before hts
  obtain ⟨c0, i0, h0⟩ := u_known (C := RX0) (T := TX0) (N := 4) (n := 4) hw in_X0 (tab_of hts (i := 183) (by decide +kernel))
  obtain ⟨c1, i1, h1⟩ := u_known (C := RX1) (T := TX1) (N := 6) (n := 6) hw in_X1 (tab_of hts (i := 91) (by decide +kernel))
  obtain ⟨c2, i2, h2⟩ := u_known (C := RX2) (T := TX2) (N := 3) (n := 3) hw in_X2 (tab_of hts (i := 163) (by decide +kernel))
  obtain ⟨c3, i3, h3⟩ := u_known (C := RX3) (T := TX3) (N := 7) (n := 7) hw in_X3 (tab_of hts (i := 48) (by decide +kernel))
  obtain ⟨c4, i4, h4⟩ := u_known (C := RX4) (T := TX4) (N := 9) (n := 9) hw in_X4 (tab_of hts (i := 207) (by decide +kernel))
  obtain ⟨c5, i5, h5⟩ := u_known (C := RX5) (T := TX5) (N := 7) (n := 7) hw in_X5 (tab_of hts (i := 247) (by decide +kernel))
  obtain ⟨c6, i6, h6⟩ := u_known (C := RX6) (T := TX6) (N := 9) (n := 9) hw in_X6 (tab_of hts (i := 42) (by decide +kernel))
  obtain ⟨c7, i7, h7⟩ := u_known (C := RX7) (T := TX7) (N := 11) (n := 11) hw in_X7 (tab_of hts (i := 34) (by decide +kernel))
  obtain ⟨c8, i8, h8⟩ := u_known (C := RX8) (T := TX8) (N := 25) (n := 25) hw in_X8 (tab_of hts (i := 1548) (by decide +kernel))
  obtain ⟨c9, i9, h9⟩ := u_known (C := RJ4) (T := TJ4) (N := 4) (n := 4) hw in_J4 (tab_of hts (i := 278) (by decide +kernel))
  obtain ⟨a0, k0⟩ := ra_arr (ty := .int) (fun C h => nomatch h) (tab_of hts (i := 88) (by decide +kernel))
  obtain ⟨a1, k1⟩ := ra_arr (ty := .char) (fun C h => nomatch h) (tab_of hts (i := 205) (by decide +kernel))
  obtain ⟨a2, k2⟩ := ra_obj (C := "Switchboard$Call") (tab_of hts (i := 90) (by decide +kernel))
  obtain ⟨a3, k3⟩ := ra_obj (C := "Switchboard$State") (tab_of hts (i := 169) (by decide +kernel))
  obtain ⟨a4, k4⟩ := ra_arr (ty := .long) (fun C h => nomatch h) (tab_of hts (i := 2069) (by decide +kernel))
  obtain ⟨a5, k5⟩ := ra_arr (ty := .double) (fun C h => nomatch h) (tab_of hts (i := 2070) (by decide +kernel))
  obtain ⟨a6, k6⟩ := ra_arr (ty := .byte) (fun C h => nomatch h) (tab_of hts (i := 309) (by decide +kernel))
  refine ⟨(fun k => [c0, c1, c2, c3, c4, c5, c6, c7, c8, c9].getD k c0, fun k => [i0, i1, i2, i3, i4, i5, i6, i7, i8, i9].getD k i0), fun k => [a0, a1, a2, a3, a4, a5, a6].getD k a0, fun k q hq => ?_, fun k q hq => ?_⟩
  · match k, hq with
    | 0, hq => cases hq; exact h0
    | 1, hq => cases hq; exact h1
    | 2, hq => cases hq; exact h2
    | 3, hq => cases hq; exact h3
    | 4, hq => cases hq; exact h4
    | 5, hq => cases hq; exact h5
    | 6, hq => cases hq; exact h6
    | 7, hq => cases hq; exact h7
    | 8, hq => cases hq; exact h8
    | 9, hq => cases hq; exact h9
    | k + 10, hq => exact absurd hq (by simp [vwC])
  · match k, hq with
    | 0, hq => cases hq; exact k0
    | 1, hq => cases hq; exact k1
    | 2, hq => cases hq; exact k2
    | 3, hq => cases hq; exact k3
    | 4, hq => cases hq; exact k4
    | 5, hq => cases hq; exact k5
    | 6, hq => cases hq; exact k6
    | k + 7, hq => exact absurd hq (by simp [tyl])
/-- the Strings' contents, their addresses apart by what they hold -/
theorem vs_of {N : Nat} {tm : Nat → Term} {len : List Nat} {byt : List (List Int32)} {A : Nat → Prop} (hN : ∀ i : Nat, i < N → len.getD i 0 < 2 ^ 31) (hex : ∀ i : Nat, i < N → (Cond.exactly (tm i) "java/lang/String").before args s = true) (hco : ∀ i : Nat, i < N → (Cond.eq (.field (tm i) "java/lang/String" "coder" "B") (.int 0)).before args s = true)
    (har : ∀ i : Nat, i < N → (Cond.arrayOf (.field (tm i) "java/lang/String" "value" "[B") .byte).before args s = true) (hle : ∀ i : Nat, i < N → (Cond.eq (.length (.field (tm i) "java/lang/String" "value" "[B")) (.int (Int32.ofNat (len.getD i 0)))).before args s = true)
    (hel : ∀ i : Nat, i < N → ∀ j : Nat, j < len.getD i 0 → (Cond.eq (.elem (.field (tm i) "java/lang/String" "value" "[B") (.int (Int32.ofNat j))) (.int ((byt.getD i []).getD j 0))).before args s = true)
    (hne : ∀ i j : Nat, i < N → j < N → i ≠ j → Int32.ofNat (len.getD i 0) ≠ Int32.ofNat (len.getD j 0) ∨ (0 < len.getD i 0 ∧ 0 < len.getD j 0 ∧ (byt.getD i []).getD 0 0 ≠ (byt.getD j []).getD 0 0)) (hA : ∀ a : Nat, a < s.heap.size → ¬ A a) :
    ∃ adK adV : Nat → Nat, vk_S N len byt adK adV A s s.heap ∧ ∀ i : Nat, i < N → (tm i).eval args s none [] s = some (.ref (adK i)) := by
  have h0 : ∀ i : Nat, ∃ q : Nat × Nat, i < N → (tm i).eval args s none [] s = some (.ref q.1) ∧ (Term.field (tm i) "java/lang/String" "value" "[B").eval args s none [] s = some (.ref q.2) ∧ va_O "java/lang/String" q.1 A s s.heap ∧ va_OF "java/lang/String" "coder" "B" (.int 0) q.1 A s s.heap ∧ va_OF "java/lang/String" "value" "[B" (.ref q.2) q.1 A s s.heap ∧ va_T .byte q.2 (len.getD i 0) (fun j => .int ((byt.getD i []).getD j 0)) A s s.heap := by
    intro i
    by_cases hi : i < N
    · obtain ⟨a, c, cA, kA, q1, -⟩ := Cond.exactly_spec (args := args) (first := s) (o := none) (s := s) (idx := []) (t := tm i) (cls := "java/lang/String") (hex i hi)
      obtain ⟨t, ht, hT⟩ := va_Tof (f := fun j => .int ((byt.getD i []).getD j 0)) (A := A) (hN i hi) (har i hi) (va_eqt (hle i hi)) (fun j hj => va_eqt (hel i hi j hj)) hA
      exact ⟨(a, t), fun _ => ⟨q1, ht, va_Oof (hex i hi) q1 hA, vk_OFof q1 (va_eqt (hco i hi)) hA, vk_OFof q1 ht hA, hT⟩⟩
    · exact ⟨(0, 0), fun h => absurd h hi⟩
  obtain ⟨ad, had⟩ := Classical.axiomOfChoice h0
  refine ⟨fun i => (ad i).1, fun i => (ad i).2, ⟨fun i hi => (had i hi).2.2, fun i j hi hj e => ?_⟩, fun i hi => (had i hi).1⟩
  by_cases hij : i = j
  · exact hij
  · exfalso
    obtain ⟨p1, p2, -, -, -, cell, p3, -, -, p4, p5, p6, -⟩ := had i hi
    obtain ⟨r1, r2, -, -, -, cell2, r3, -, -, r4, r5, r6, -⟩ := had j hj
    have e9 : (ad i).1 = (ad j).1 := e
    rw [va_fe p1] at p2
    rw [va_fe r1, ← e9] at r2
    have e2 : (ad i).2 = (ad j).2 := by
      have h9 := p2.symm.trans r2
      exact Value.ref.inj (Option.some.inj h9)
    rw [e2] at p3
    have e3 : cell = cell2 := Option.some.inj (p3.symm.trans r3)
    subst e3
    rcases hne i j hi hj hij with h | ⟨h1, h2, h3⟩
    · exact h (p5.symm.trans r5)
    · exact h3 (Value.int.inj (Option.some.inj ((p6 0 h1).symm.trans (r6 0 h2))))
end SLA
def la_ex : List Nat := [464, 522, 579, 631, 669, 695, 736, 762, 789, 823, 854, 887, 918, 951, 976, 997, 1020, 1050, 1080, 1090, 1100, 1109, 1118, 1127, 1135, 1144, 1152, 1156, 1185, 1220, 1248, 1269, 1296]
def la_sr : List Nat := [967, 972, 983, 999, 1144, 1153, 1179, 1205, 1228, 1249, 1282, 1304, 1324, 1350, 1373, 1382, 1400, 1418, 1449, 1450, 1451, 1452, 1453, 1454, 1455, 1456, 1457, 1501, 1506, 1514, 1522, 1530, 1542]
def la_nn : List Nat := [49, 92, 184, 208, 248, 388, 423, 424, 866, 871, 876, 954, 1057]
def la_ca : List Nat := [960, 681, 976, 992, 1172, 1366]
def la_de : List Nat := [683, 685, 687]
def la_nc : List (List Nat) := [[0, 261, 227, 279, 297, 315], [245, 0, 228, 280, 298, 316], [246, 262, 0, 281, 299, 317], [247, 263, 229, 0, 300, 318], [248, 265, 231, 283, 0, 320], [249, 266, 232, 284, 302, 0]]
def la_pex : List Nat := [1080, 1090, 1100, 1109, 1118, 1127, 1135, 1144, 1152]
def la_pco : List Nat := [1081, 1091, 1101, 1110, 1119, 1128, 1136, 1145, 1153]
def la_par : List Nat := [1082, 1092, 1102, 1111, 1120, 1129, 1137, 1146, 1154]
def la_ple : List Nat := [1083, 1093, 1103, 1112, 1121, 1130, 1138, 1147, 1155]
def la_pel : List Nat := [1084, 1094, 1104, 1113, 1122, 1131, 1139, 1148, 0]
theorem la_1 : ∀ i, i < 33 → nar[la_ex.getD i 0]? = (xe_S[i]?).map (fun q => Cond.exactly (.string q.1 q.2.1) "java/lang/String") := by decide +kernel
theorem la_2 : ∀ i, i < 33 → tables_1[la_sr.getD i 0]? = (xe_S[i]?).map (fun q => Cond.stringRef q.1 q.2.1 q.2.2) := by decide +kernel
theorem la_3 : ∀ i, i < 13 → tables_1[la_nn.getD i 0]? = (xe_N[i]?).map (fun q => Cond.methodLinkNest q.1 q.2.1 q.2.2.1 q.2.2.2) := by decide +kernel
theorem la_4 : ∀ i, i < 6 → tables_1[la_ca.getD i 0]? = (xe_E[i]?).map (fun q => Cond.castable q q) := by decide +kernel
theorem la_5 : ∀ i, i < 3 → tables_1[la_de.getD i 0]? = (xe_D[i]?).map (fun q => Cond.declares q) := by decide +kernel
theorem la_6 : ∀ i, i < 6 → ∀ j, j < 6 → i ≠ j → nar[(la_nc.getD i []).getD j 0]? = some (Cond.not (Cond.castable (xe_E.getD i "") (xe_E.getD j ""))) := by decide +kernel
def la_tm (i : Nat) : Term := .string "Switchboard$Program" (xe_si i)
theorem la_7 : ∀ i, i < 9 → nar[la_pex.getD i 0]? = some (Cond.exactly (la_tm i) "java/lang/String") := by decide +kernel
theorem la_8 : ∀ i, i < 9 → nar[la_pco.getD i 0]? = some (Cond.eq (.field (la_tm i) "java/lang/String" "coder" "B") (.int 0)) := by decide +kernel
theorem la_9 : ∀ i, i < 9 → nar[la_par.getD i 0]? = some (Cond.arrayOf (.field (la_tm i) "java/lang/String" "value" "[B") .byte) := by decide +kernel
theorem la_10 : ∀ i, i < 9 → nar[la_ple.getD i 0]? = some (Cond.eq (.length (.field (la_tm i) "java/lang/String" "value" "[B")) (.int (Int32.ofNat (xe_sl.getD i 0)))) := by decide +kernel
theorem la_11 : ∀ i, i < 9 → ∀ j, j < xe_sl.getD i 0 → nar[la_pel.getD i 0 + j]? = some (Cond.eq (.elem (.field (la_tm i) "java/lang/String" "value" "[B") (.int (Int32.ofNat j))) (.int ((xe_sb.getD i []).getD j 0))) := by decide +kernel
theorem la_12 : ∀ i, i < 9 → ∀ j, j < 9 → i ≠ j → Int32.ofNat (xe_sl.getD i 0) ≠ Int32.ofNat (xe_sl.getD j 0) ∨ (0 < xe_sl.getD i 0 ∧ 0 < xe_sl.getD j 0 ∧ (xe_sb.getD i []).getD 0 0 ≠ (xe_sb.getD j []).getD 0 0) := by decide +kernel
theorem la_13 : ∀ j, j < 100 → nar[12 + j]? = some (Cond.eq (.elem (.static "java/lang/Integer" "DigitOnes" "[B") (.int (Int32.ofNat j))) (.int (Int32.ofNat (48 + j % 10)))) := by decide +kernel
theorem la_14 : ∀ j, j < 100 → nar[115 + j]? = some (Cond.eq (.elem (.static "java/lang/Integer" "DigitTens" "[B") (.int (Int32.ofNat j))) (.int (Int32.ofNat (48 + j / 10)))) := by decide +kernel
theorem xe_start {args : Array Value} {s : State} (hts : ∀ w ∈ lw_tbl, w.before args s = true) (hgv : (Cond.and given_1 narrow_1).before args s = true) : ∃ sa : String → Nat → Nat, xe sa (fun q => s.heap.size ≤ q) s s.heap := by
  have hA : ∀ a : Nat, a < s.heap.size → ¬ (fun q : Nat => s.heap.size ≤ q) a := fun a h => Nat.not_le.mpr h
  obtain ⟨adK, adV, hS, hK⟩ := vs_of (args := args) (s := s) (N := 9) (tm := la_tm) (len := xe_sl) (byt := xe_sb) (A := fun q => s.heap.size ≤ q) (by decide +kernel) (fun i hi => nar_of hgv (la_7 i hi)) (fun i hi => nar_of hgv (la_8 i hi)) (fun i hi => nar_of hgv (la_9 i hi)) (fun i hi => nar_of hgv (la_10 i hi)) (fun i hi j hj => nar_of hgv (la_11 i hi j hj)) (fun i j hi hj => la_12 i hi j hj) hA
  obtain ⟨t1, ht1, hT1⟩ := va_Tof (args := args) (s := s) (tm := .static "java/lang/Integer" "DigitOnes" "[B") (ty := .byte) (N := 100) (f := xe_do) (A := fun q => s.heap.size ≤ q) (by decide) (nar_of hgv (i := 10) (by decide +kernel)) (va_eqt (nar_of hgv (i := 11) (by decide +kernel))) (fun j hj => va_eqt (nar_of hgv (la_13 j hj))) hA
  obtain ⟨t2, ht2, hT2⟩ := va_Tof (args := args) (s := s) (tm := .static "java/lang/Integer" "DigitTens" "[B") (ty := .byte) (N := 100) (f := xe_dt) (A := fun q => s.heap.size ≤ q) (by decide) (nar_of hgv (i := 113) (by decide +kernel)) (va_eqt (nar_of hgv (i := 114) (by decide +kernel))) (fun j hj => va_eqt (nar_of hgv (la_14 j hj))) hA
  have hR : ∀ q ∈ xe_S, ∃ a : Nat, (Term.string q.1 q.2.1).eval args s none [] s = some (.ref a) := by
    intro q hq
    obtain ⟨i, hi⟩ := List.mem_iff_getElem?.mp hq
    have hl : i < 33 := (List.getElem?_eq_some_iff.mp hi).1
    have h1 := la_1 i hl
    rw [hi] at h1
    obtain ⟨a, c, cA, kA, q1, -⟩ := Cond.exactly_spec (args := args) (first := s) (o := none) (s := s) (idx := []) (t := .string q.1 q.2.1) (cls := "java/lang/String") (nar_of hgv h1)
    exact ⟨a, q1⟩
  refine ⟨fun own k => if own = "V" then adV k else if own = "DigitOnes" then t1 else if own = "DigitTens" then t2 else (match (Term.string own k).eval args s none [] s with | some (.ref a) => a | _ => 0), ?_⟩
  have hsa : ∀ (own : String) (k a : Nat), own ≠ "V" → own ≠ "DigitOnes" → own ≠ "DigitTens" → (Term.string own k).eval args s none [] s = some (.ref a) → (if own = "V" then adV k else if own = "DigitOnes" then t1 else if own = "DigitTens" then t2 else (match (Term.string own k).eval args s none [] s with | some (.ref a) => a | _ => 0)) = a := fun own k a h1 h2 h3 h4 => by
    rw [if_neg h1, if_neg h2, if_neg h3, h4]
  refine ⟨vx_Zqof (tab_of hts (i := 706) (by decide +kernel)) (tab_of hts (i := 15) (by decide +kernel)) (nar_of hgv (i := 215) (by decide +kernel)) hA, vx_Zqof (tab_of hts (i := 708) (by decide +kernel)) (tab_of hts (i := 15) (by decide +kernel)) (nar_of hgv (i := 216) (by decide +kernel)) hA, fun q hq => ?_, fun x hx => ?_, ⟨fun x hx y hy hxy => ?_, va_AO.of (tab_of hts (i := 90) (by decide +kernel)), va_AO.of (tab_of hts (i := 169) (by decide +kernel))⟩, fun q hq => ?_, ?_, va_Zof (tab_of hts (i := 287) (by decide +kernel)) (tab_of hts (i := 11) (by decide +kernel)) (va_eqi (nar_of hgv (i := 4) (by decide +kernel))) hA, va_Zof (tab_of hts (i := 632) (by decide +kernel)) (tab_of hts (i := 25) (by decide +kernel)) ht1 hA, hT1, va_Zof (tab_of hts (i := 634) (by decide +kernel)) (tab_of hts (i := 25) (by decide +kernel)) ht2 hA, hT2, fun y hy => ?_, va_Zqof (tab_of hts (i := 562) (by decide +kernel)) (tab_of hts (i := 31) (by decide +kernel)) (nar_of hgv (i := 5) (by decide +kernel)) hA⟩
  · obtain ⟨i, hi⟩ := List.mem_iff_getElem?.mp hq
    have h1 := la_3 i (List.getElem?_eq_some_iff.mp hi).1
    rw [hi] at h1
    exact va_Nw.of rfl (tab_of hts h1)
  · obtain ⟨i, hi⟩ := List.mem_iff_getElem?.mp hx
    have h1 := la_4 i (List.getElem?_eq_some_iff.mp hi).1
    rw [hi] at h1
    exact va_Nw.of rfl (tab_of hts h1)
  · obtain ⟨i, hi⟩ := List.mem_iff_getElem?.mp hx
    obtain ⟨j, hj⟩ := List.mem_iff_getElem?.mp hy
    have h1 := la_6 i (List.getElem?_eq_some_iff.mp hi).1 j (List.getElem?_eq_some_iff.mp hj).1 (fun e => hxy (by
      subst e
      exact Option.some.inj (hi.symm.trans hj)))
    rw [show xe_E.getD i "" = x by rw [List.getD_eq_getElem?_getD, hi]; rfl, show xe_E.getD j "" = y by rw [List.getD_eq_getElem?_getD, hj]; rfl] at h1
    exact va_Nc.of (nar_of hgv h1)
  · obtain ⟨a, ha⟩ := hR q hq
    have h9 := (by decide +kernel : ∀ q ∈ xe_S, q.1 ≠ "V" ∧ q.1 ≠ "DigitOnes" ∧ q.1 ≠ "DigitTens") q hq
    obtain ⟨i, hi⟩ := List.mem_iff_getElem?.mp hq
    have h1 := la_2 i (List.getElem?_eq_some_iff.mp hi).1
    rw [hi] at h1
    have h8 := hsa q.1 q.2.1 a h9.1 h9.2.1 h9.2.2 ha
    show vk_R q.1 q.2.1 q.2.2 (if q.1 = "V" then adV q.2.1 else if q.1 = "DigitOnes" then t1 else if q.1 = "DigitTens" then t2 else (match (Term.string q.1 q.2.1).eval args s none [] s with | some (.ref a) => a | _ => 0)) s
    rw [h8]
    exact vk_R.of (tab_of hts h1) ha
  · have e1 : ∀ i, i < 9 → (if "Switchboard$Program" = "V" then adV (xe_si i) else if "Switchboard$Program" = "DigitOnes" then t1 else if "Switchboard$Program" = "DigitTens" then t2 else (match (Term.string "Switchboard$Program" (xe_si i)).eval args s none [] s with | some (.ref a) => a | _ => 0)) = adK i := fun i hi => hsa "Switchboard$Program" (xe_si i) (adK i) (by decide) (by decide) (by decide) (hK i hi)
    refine ⟨fun i hi => ?_, fun i j hi hj e => ?_⟩
    · have h1 := hS.1 i hi
      show va_O "java/lang/String" (if "Switchboard$Program" = "V" then adV (xe_si i) else if "Switchboard$Program" = "DigitOnes" then t1 else if "Switchboard$Program" = "DigitTens" then t2 else (match (Term.string "Switchboard$Program" (xe_si i)).eval args s none [] s with | some (.ref a) => a | _ => 0)) _ s s.heap ∧ va_OF "java/lang/String" "coder" "B" (.int 0) (if "Switchboard$Program" = "V" then adV (xe_si i) else if "Switchboard$Program" = "DigitOnes" then t1 else if "Switchboard$Program" = "DigitTens" then t2 else (match (Term.string "Switchboard$Program" (xe_si i)).eval args s none [] s with | some (.ref a) => a | _ => 0)) _ s s.heap ∧ va_OF "java/lang/String" "value" "[B" (.ref (adV i)) (if "Switchboard$Program" = "V" then adV (xe_si i) else if "Switchboard$Program" = "DigitOnes" then t1 else if "Switchboard$Program" = "DigitTens" then t2 else (match (Term.string "Switchboard$Program" (xe_si i)).eval args s none [] s with | some (.ref a) => a | _ => 0)) _ s s.heap ∧ va_T .byte (adV i) (xe_sl.getD i 0) (fun j => .int ((xe_sb.getD i []).getD j 0)) _ s s.heap
      rw [e1 i hi]
      exact h1
    · have e2 := (e1 i hi).symm.trans (Eq.trans e (e1 j hj))
      exact hS.2 i j hi hj e2
  · obtain ⟨i, hi⟩ := List.mem_iff_getElem?.mp hy
    have h1 := la_5 i (List.getElem?_eq_some_iff.mp hi).1
    rw [hi] at h1
    exact va_Nw.of rfl (tab_of hts h1)
