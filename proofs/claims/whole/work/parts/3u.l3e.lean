/-! what forbids a change: class and reference say the same -/
def rP (k : Nat) (a b l : Int32) (Z : ZZ) : Option (Int32 × ZZ) := match k with
  | 0 => some (if gI Z 1 (0 : Int32).toNatClampNeg = 8 then 1 else 0, Z)
  | 1 => sX8_cannotLay a b l Z
  | 2 => sX8_cannotJoin a b Z
  | 3 => bnd (sX8_cannotCall a b Z) (fun q => bnd (sX8_blocks a b q.1 q.2) (fun z => some (q.1, z)))
  | 4 => sX8_cannotHang a Z
  | 5 => sX8_cannotCut a Z
  | 6 => sX8_cannotMend a Z
  | _ => bnd (sX8_in a 1 60 Z) (fun q => some (if q.1 = 0 then 1 else 0, q.2))
/-- the reference's number of what the class calls q -/
def kc (k q : Nat) : Nat := if k = 0 ∨ k = 7 then (if q = 0 then 0 else 1) else if k = 4 ∨ k = 5 ∨ k = 6 then (if q = 3 then 2 else q) else q
def onlyJ (Z Z' : ZZ) : Prop := (∀ k j, (k < 3 ∨ (6 < k ∧ k < 13) ∨ 18 < k) → gI Z' k j = gI Z k j) ∧ ∀ k, gL Z' k = gL Z k
theorem onlyJ_rf (Z : ZZ) : onlyJ Z Z := ⟨fun _ _ _ => rfl, fun _ => rfl⟩
theorem onlyJ_tr {A B C : ZZ} (h1 : onlyJ A B) (h2 : onlyJ B C) : onlyJ A C := ⟨fun k j h => (h2.1 k j h).trans (h1.1 k j h), fun k => (h2.2 k).trans (h1.2 k)⟩
theorem onlyJ_K {A B : ZZ} (h : onlyK A B) : onlyJ A B := ⟨fun k j hk => h.1 k j (by omega), h.2⟩
theorem onlyJ_R {A B : ZZ} (h : onlyR A B) : onlyJ A B := ⟨fun k j hk => h.1 k j (by omega), h.2⟩
def onlyH (Z Z' : ZZ) : Prop := (∀ k j, k ≠ 5 → k ≠ 6 → k ≠ 7 → k ≠ 8 → (k = 0 → j ≠ 12 ∧ j ≠ 13) → gI Z' k j = gI Z k j) ∧ ∀ k, gL Z' k = gL Z k
theorem onlyH_rf (Z : ZZ) : onlyH Z Z := ⟨fun _ _ _ _ _ _ _ => rfl, fun _ => rfl⟩
theorem onlyH_tr {A B C : ZZ} (h1 : onlyH A B) (h2 : onlyH B C) : onlyH A C := ⟨fun k j a b c d e => (h2.1 k j a b c d e).trans (h1.1 k j a b c d e), fun k => (h2.2 k).trans (h1.2 k)⟩
theorem onlyH_F {A B : ZZ} (h : onlyF A B) : onlyH A B := ⟨fun k j _ b c d e => h.1 k j b c d (fun q => (e q).2), h.2⟩
theorem onlyH_Q {A B : ZZ} (h : onlyQ A B) : onlyH A B := ⟨fun k j a _ _ _ e => h.1 k j a (fun q => (e q).1), h.2⟩
theorem rB_J {N : NN} {Z Z' : ZZ} {W : Nat} (h : rB N Z 19) (hI : iN N W) (ho : onlyJ Z Z') : rB N Z' 19 := rB_keep h hI.1.2.2.2.1 (fun k j h1 _ => ho.1 k j (by omega)) (ho.2 19)
theorem rA_H {N : NN} {Z Z' : ZZ} (h : rA N Z 1) (ho : onlyH Z Z') : rA N Z' 1 := fun j hj => by
  rw [ho.1 _ _ (by decide) (by decide) (by decide) (by decide) (fun q => absurd q (by decide))]; exact h j hj
theorem bK_RF {Zc Zr Zc' Zr' : ZZ} (h : bK Zc Zr) (hc : onlyR Zc Zc') (hr : onlyF Zr Zr') : bK Zc' Zr' := by
  obtain ⟨n, hn, h1, h2, h3⟩ := h
  refine ⟨n, hn, by rw [hc.1 _ _ (by decide)]; exact h1, by rw [hr.1 _ _ (by decide) (by decide) (by decide) (by decide)]; exact h2, fun j hj => ?_⟩
  rw [hc.1 _ _ (by decide), hc.1 _ _ (by decide), hc.1 _ _ (by decide), hr.1 5 _ (by decide) (by decide) (by decide) (fun q => absurd q (by decide)), hr.1 5 _ (by decide) (by decide) (by decide) (fun q => absurd q (by decide)), hr.1 5 _ (by decide) (by decide) (by decide) (fun q => absurd q (by decide))]
  exact h3 j hj
def prb (k : Nat) (N : NN) (W : Nat) (a b l : Int32) (Zc Zr : ZZ) : Prop := ∃ q Zc' Zr', sX7_problemOf (nI k) a b l Zc = some (nI q, Zc') ∧ rP k a b l Zr = some (nI (kc k q), Zr') ∧ q ≤ 4 ∧ bK Zc' Zr' ∧ onlyJ Zc Zc' ∧ onlyH Zr Zr' ∧
  (q = 0 → ∀ Zc2 Zr2, sy N W Zc2 Zr2 → gI Zr2 0 13 = gI Zr' 0 13 → (∀ j, gI Zr2 8 j = gI Zr' 8 j) → stp W Zc2 Zr2 (sX7_perform (nI k) a b l Zc2) (rE k a b l Zr2))
theorem pr_0 {N : NN} {W : Nat} {a b l : Int32} {Zc Zr : ZZ} (hs : sy N W Zc Zr) (hK : bK Zc Zr) : prb 0 N W a b l Zc Zr := by
  obtain ⟨hB, hA, hI, hu⟩ := hs
  have a0 := (rB19.1 hB).1.1
  have h8 := hI.1.1
  refine ⟨if N 0 < 8 then 0 else 3, Zc, Zr, ?_, ?_, by split <;> decide, hK, onlyJ_rf Zc, onlyH_rf Zr, fun q Zc2 Zr2 hs2 _ _ => ?_⟩
  · unfold sX7_problemOf
    rw [if_pos (by decide)]
    show bnd (sX3_switchProblem 20 Zc) _ = _
    unfold sX3_switchProblem
    rw [gd_t (by decide), a0]
    by_cases c : N 0 < 8
    · rw [if_neg (lge c (by decide)), if_pos c, bnd_s]; rfl
    · rw [if_pos (lle (show 8 ≤ N 0 by omega) (by omega)), if_neg c, bnd_s]; rfl
  · show some ((if gI Zr 1 (0 : Int32).toNatClampNeg = 8 then (1 : Int32) else 0), Zr) = _
    rw [g0 hA]
    simp only [eq_nl (show N 0 < 2 ^ 31 by omega) (show 8 < 2 ^ 31 by decide)]
    by_cases c : N 0 < 8
    · rw [if_neg (by omega), if_pos c]; rfl
    · rw [if_pos (by omega), if_neg c]; rfl
  · by_cases c : N 0 < 8
    · exact pf_0 hs2 c
    · rw [if_neg c] at q; cases q
theorem lt1_neg {l : Int32} (h : ¬ l < 1) : ¬ l < 0 := by
  rw [Int32.lt_iff_toInt_lt] at h ⊢
  rw [show (1 : Int32).toInt = 1 by decide] at h
  rw [show (0 : Int32).toInt = 0 by decide]
  omega
theorem rng {l M : Int32} {n : Nat} (hM : M.toInt = n) (hn : n < 2 ^ 31) (h1 : ¬ l < 1) (h2 : l ≤ M) : ∃ z, 1 ≤ z ∧ z ≤ n ∧ l = nI z := by
  obtain ⟨z, z1, z2⟩ := nI_of2 hM (lt1_neg h1) h2
  refine ⟨z, ?_, z1, z2⟩
  rcases Nat.eq_zero_or_pos z with c | c
  · rw [z2, c] at h1; exact absurd (by decide) h1
  · exact c
theorem nlt_le {x y : Int32} : ¬ x < y ↔ y ≤ x := by
  rw [Int32.lt_iff_toInt_lt, Int32.le_iff_toInt_le]; omega
theorem pr_1 {N : NN} {W : Nat} {a b l : Int32} {Zc Zr : ZZ} (hs : sy N W Zc Zr) (hK : bK Zc Zr) : prb 1 N W a b l Zc Zr := by
  obtain ⟨hB, hA, hI, hu⟩ := hs
  obtain ⟨⟨a0, a1, -, -, -, -⟩, -⟩ := rB19.1 hB
  have h8 := hI.1.1
  have h16 := hI.1.2.1
  have main : ∀ (q : Nat), sX3_trunkProblem 20 a b l Zc = some (nI q, Zc) → sX8_cannotLay a b l Zr = some (nI q, Zr) → q ≤ 4 → (q = 0 → N 1 < 16 ∧ viB a (N 0) = true ∧ viB b (N 0) = true ∧ a ≠ b ∧ ¬ l < 1 ∧ l ≤ 20) → prb 1 N W a b l Zc Zr := fun q hc hr hq hz => by
    refine ⟨q, Zc, Zr, ?_, hr, hq, hK, onlyJ_rf Zc, onlyH_rf Zr, fun q0 Zc2 Zr2 hs2 _ _ => ?_⟩
    · unfold sX7_problemOf
      rw [if_neg (by decide), if_pos (by decide)]
      show bnd (sX3_trunkProblem 20 a b l Zc) _ = _
      rw [hc, bnd_s]
    · obtain ⟨z1, z2, z3, z4, z5, z6⟩ := hz q0
      obtain ⟨x, x1, x2⟩ := viB_t (by omega) z2
      obtain ⟨y, y1, y2⟩ := viB_t (by omega) z3
      obtain ⟨z, w1, w2, w3⟩ := rng (M := 20) (n := 20) (by decide) (by decide) z5 z6
      rw [x2, y2] at z4
      rw [x2, y2, w3]
      exact pf_1 hs2 z1 x1 y1 (fun e => z4 (by rw [e])) ⟨w1, w2⟩
  have sc : ∀ (x : Int32), sX3_hasSwitch 20 x Zc = some (if viB x (N 0) then 1 else 0, Zc) := fun x => p_hSw (by decide) a0
  have sr : ∀ (x : Int32), sX8_isSwitch x Zr = some (if viB x (N 0) then 1 else 0, Zr) := fun x => m_isSw hA (by omega)
  cases va : viB a (N 0) with
  | false =>
    refine main 1 ?_ ?_ (by decide) (fun q => by cases q)
    · unfold sX3_trunkProblem
      rw [gd_t (by decide), sc, va, bnd_s]; rfl
    · unfold sX8_cannotLay
      rw [sr, va, bnd_s]; rfl
  | true =>
    cases vb : viB b (N 0) with
    | false =>
      refine main 1 ?_ ?_ (by decide) (fun q => by cases q)
      · unfold sX3_trunkProblem
        rw [gd_t (by decide), sc, va, bnd_s]
        simp only [if_true]
        rw [if_neg (by decide), sc, vb, bnd_s]; rfl
      · unfold sX8_cannotLay
        rw [sr, va, bnd_s]
        simp only [if_true]
        rw [if_neg (by decide), sr, vb, bnd_s]; rfl
    | true =>
      have tc : sX3_trunkProblem 20 a b l Zc = if a = b then some (2, Zc) else if l < 1 then some (2, Zc) else if l ≤ 20 then (if (16 : Int32) ≤ gI Zc 20 1 then some (3, Zc) else some (0, Zc)) else some (2, Zc) := by
        unfold sX3_trunkProblem
        rw [gd_t (by decide), sc, va, bnd_s]
        simp only [if_true]
        rw [if_neg (by decide), sc, vb, bnd_s]
        simp only [if_true]
        rw [if_neg (by decide)]
      have tr : sX8_cannotLay a b l Zr = if a = b then some (2, Zr) else bnd (sX8_in l 1 20 Zr) (fun q_6 => if q_6.1 = 0 then some (2, q_6.2) else gd (vin 1 180 = true) (if (gI q_6.2 1 (1 : Int32).toNatClampNeg) = 16 then some (3, q_6.2) else some (0, q_6.2))) := by
        unfold sX8_cannotLay
        rw [sr, va, bnd_s]
        simp only [if_true]
        rw [if_neg (by decide), sr, vb, bnd_s]
        simp only [if_true]
        rw [if_neg (by decide)]
      by_cases hab : a = b
      · exact main 2 (by rw [tc, if_pos hab]; rfl) (by rw [tr, if_pos hab]; rfl) (by decide) (fun q => by cases q)
      · rw [if_neg hab] at tc tr
        by_cases l1 : l < 1
        · exact main 2 (by rw [tc, if_pos l1]; rfl) (by rw [tr]; unfold sX8_in; rw [if_pos l1, bnd_s]; rfl) (by decide) (fun q => by cases q)
        · rw [if_neg l1] at tc
          by_cases l2 : l ≤ 20
          · have ein : sX8_in l 1 20 Zr = some (1, Zr) := by
              unfold sX8_in
              rw [if_neg l1, if_neg (nlt_le.2 l2)]
            rw [if_pos l2, a1] at tc
            rw [ein, bnd_s, g1 hA] at tr
            dsimp only at tr
            rw [if_neg (by decide), gd_t (by decide)] at tr
            simp only [eq_nl (show N 1 < 2 ^ 31 by omega) (show 16 < 2 ^ 31 by decide)] at tr
            by_cases c : N 1 < 16
            · rw [if_neg (lge c (by decide))] at tc
              rw [if_neg (by omega)] at tr
              exact main 0 tc tr (by decide) (fun _ => ⟨c, va, vb, hab, l1, l2⟩)
            · rw [if_pos (lle (show 16 ≤ N 1 by omega) (by omega))] at tc
              rw [if_pos (by omega)] at tr
              exact main 3 tc tr (by decide) (fun q => by cases q)
          · exact main 2 (by rw [tc, if_neg l2]; rfl) (by rw [tr]; unfold sX8_in; rw [if_neg l1, if_pos (by rw [← nlt_le] at l2; exact Decidable.not_not.1 l2), bnd_s]; rfl) (by decide) (fun q => by cases q)
theorem pr_2 {N : NN} {W : Nat} {a b l : Int32} {Zc Zr : ZZ} (hs : sy N W Zc Zr) (hK : bK Zc Zr) : prb 2 N W a b l Zc Zr := by
  obtain ⟨hB, hA, hI, hu⟩ := hs
  obtain ⟨⟨a0, a1, a2, -, -, -⟩, -⟩ := rB19.1 hB
  have h8 := hI.1.1
  have h10 := hI.1.2.2.1
  have main : ∀ (q : Nat), sX6_subscriberProblem 19 a b Zc = some (nI q, Zc) → sX8_cannotJoin a b Zr = some (nI q, Zr) → q ≤ 4 → (q = 0 → N 2 < 10 ∧ viB a (N 0) = true ∧ ¬ b < 0 ∧ b ≤ 2) → prb 2 N W a b l Zc Zr := fun q hc hr hq hz => by
    refine ⟨q, Zc, Zr, ?_, hr, hq, hK, onlyJ_rf Zc, onlyH_rf Zr, fun q0 Zc2 Zr2 hs2 _ _ => ?_⟩
    · unfold sX7_problemOf
      rw [if_neg (by decide), if_neg (by decide), if_pos (by decide), hc, bnd_s]
    · obtain ⟨z1, z2, z3, z4⟩ := hz q0
      obtain ⟨x, x1, x2⟩ := viB_t (by omega) z2
      obtain ⟨y, y1, y2⟩ := nI_of2 (M := 2) (n := 2) (by decide) z3 z4
      rw [x2, y2]
      exact pf_2 hs2 z1 x1 y1
  have sc : sX3_hasSwitch (19 + 1) a Zc = some (if viB a (N 0) then 1 else 0, Zc) := p_hSw (by decide) a0
  have sr : sX8_isSwitch a Zr = some (if viB a (N 0) then 1 else 0, Zr) := m_isSw hA (by omega)
  cases va : viB a (N 0) with
  | false =>
    refine main 1 ?_ ?_ (by decide) (fun q => by cases q)
    · unfold sX6_subscriberProblem
      rw [gd_t (by decide), sc, va, bnd_s]; rfl
    · unfold sX8_cannotJoin
      rw [sr, va, bnd_s]; rfl
  | true =>
    have tc : sX6_subscriberProblem 19 a b Zc = if b < 0 then some (2, Zc) else if b ≤ 2 then (if (10 : Int32) ≤ gI Zc 19 1 then some (3, Zc) else some (0, Zc)) else some (2, Zc) := by
      unfold sX6_subscriberProblem
      rw [gd_t (by decide), sc, va, bnd_s]
      simp only [if_true]
      rw [if_neg (by decide)]
    have tr : sX8_cannotJoin a b Zr = bnd (sX8_in b 0 2 Zr) (fun q_6 => if q_6.1 = 0 then some (2, q_6.2) else gd (vin 2 180 = true) (if (gI q_6.2 1 (2 : Int32).toNatClampNeg) = 10 then some (3, q_6.2) else some (0, q_6.2))) := by
      unfold sX8_cannotJoin
      rw [sr, va, bnd_s]
      simp only [if_true]
      rw [if_neg (by decide)]
    by_cases l1 : b < 0
    · exact main 2 (by rw [tc, if_pos l1]; rfl) (by rw [tr]; unfold sX8_in; rw [if_pos l1, bnd_s]; rfl) (by decide) (fun q => by cases q)
    · rw [if_neg l1] at tc
      by_cases l2 : b ≤ 2
      · have ein : sX8_in b 0 2 Zr = some (1, Zr) := by
          unfold sX8_in
          rw [if_neg l1, if_neg (nlt_le.2 l2)]
        rw [if_pos l2, a2] at tc
        rw [ein, bnd_s, g2 hA] at tr
        dsimp only at tr
        rw [if_neg (by decide), gd_t (by decide)] at tr
        simp only [eq_nl (show N 2 < 2 ^ 31 by omega) (show 10 < 2 ^ 31 by decide)] at tr
        by_cases c : N 2 < 10
        · rw [if_neg (lge c (by decide))] at tc
          rw [if_neg (by omega)] at tr
          exact main 0 tc tr (by decide) (fun _ => ⟨c, va, l1, l2⟩)
        · rw [if_pos (lle (show 10 ≤ N 2 by omega) (by omega))] at tc
          rw [if_pos (by omega)] at tr
          exact main 3 tc tr (by decide) (fun q => by cases q)
      · exact main 2 (by rw [tc, if_neg l2]; rfl) (by rw [tr]; unfold sX8_in; rw [if_neg l1, if_pos (by rw [← nlt_le] at l2; exact Decidable.not_not.1 l2), bnd_s]; rfl) (by decide) (fun q => by cases q)
theorem pr_4 {N : NN} {W : Nat} {a b l : Int32} {Zc Zr : ZZ} (hs : sy N W Zc Zr) (hW : W ≤ 7000) (hK : bK Zc Zr) : prb 4 N W a b l Zc Zr := by
  obtain ⟨hB, hA, hI, hu⟩ := hs
  obtain ⟨⟨a0, a1, a2, -, -, -⟩, -⟩ := rB19.1 hB
  have h10 := hI.1.2.2.1
  have h5 := hI.1.2.2.2.1
  have main : ∀ (q : Nat), sX6_hangUpProblem 19 a Zc = some (nI q, Zc) → sX8_cannotHang a Zr = some (nI (kc 4 q), Zr) → q ≤ 4 → (q = 0 → ∃ x, a = nI x ∧ x < 2 ^ 31 ∧ talks N x < N 3) → prb 4 N W a b l Zc Zr := fun q hc hr hq hz => by
    refine ⟨q, Zc, Zr, ?_, hr, hq, hK, onlyJ_rf Zc, onlyH_rf Zr, fun q0 Zc2 Zr2 hs2 _ _ => ?_⟩
    · unfold sX7_problemOf
      rw [if_neg (by decide), if_neg (by decide), if_neg (by decide), if_neg (by decide), if_pos (by decide), hc, bnd_s]
    · obtain ⟨x, x1, x2, x3⟩ := hz q0
      rw [x1]
      exact pf_4 hs2 hW x2 x3
  have sc : sX6_hasSubscriber 19 a Zc = some (if viB a (N 2) then 1 else 0, Zc) := p_hSu (by decide) a2
  have sr : sX8_isUser a Zr = some (if viB a (N 2) then 1 else 0, Zr) := m_isUs hA (by omega)
  cases va : viB a (N 2) with
  | false =>
    refine main 1 ?_ ?_ (by decide) (fun q => by cases q)
    · unfold sX6_hangUpProblem
      rw [gd_t (by decide), sc, va, bnd_s]; rfl
    · unfold sX8_cannotHang
      rw [sr, va, bnd_s]; rfl
  | true =>
    obtain ⟨x, x1, x2⟩ := viB_t (by omega) va
    have tc : sX6_hangUpProblem 19 a Zc = if (if talks N x < N 3 then nI (talks N x) else -1) = -1 then some (3, Zc) else some (0, Zc) := by
      unfold sX6_hangUpProblem
      rw [gd_t (by decide), sc, va, bnd_s]
      simp only [if_true]
      rw [if_neg (by decide), x2, p_callIndexOf hB hI (by omega), bnd_s]
    have tr : sX8_cannotHang a Zr = if (0 : Int32) ≤ (if talks N x < N 3 then nI (talks N x) else -1) then some (0, Zr) else some (2, Zr) := by
      unfold sX8_cannotHang
      rw [sr, va, bnd_s]
      simp only [if_true]
      rw [if_neg (by decide), x2, m_callOf hA hI (by omega), bnd_s]
    by_cases c : talks N x < N 3
    · rw [if_pos c, if_neg (ne_m1 (by omega))] at tc
      rw [if_pos c, if_pos (nI_pos' (by omega))] at tr
      exact main 0 tc tr (by decide) (fun _ => ⟨x, x2, by omega, c⟩)
    · rw [if_neg c, if_pos rfl] at tc
      rw [if_neg c, if_neg (by decide)] at tr
      exact main 3 tc tr (by decide) (fun q => by cases q)
theorem pr_56 {N : NN} {W : Nat} {a b l : Int32} {Zc Zr : ZZ} (hs : sy N W Zc Zr) (hW : W ≤ 7000) (hK : bK Zc Zr) : prb 5 N W a b l Zc Zr ∧ prb 6 N W a b l Zc Zr := by
  obtain ⟨hB, hA, hI, hu⟩ := hs
  obtain ⟨⟨a0, a1, -, -, -, -⟩, am, -⟩ := rB19.1 hB
  have h16 := hI.1.2.1
  have main5 : ∀ (q : Nat), sX3_repairProblem 20 a 0 Zc = some (nI q, Zc) → sX8_cannotCut a Zr = some (nI (kc 5 q), Zr) → q ≤ 4 → (q = 0 → ∃ x, a = nI x ∧ x < N 1) → prb 5 N W a b l Zc Zr := fun q hc hr hq hz => by
    refine ⟨q, Zc, Zr, ?_, hr, hq, hK, onlyJ_rf Zc, onlyH_rf Zr, fun q0 Zc2 Zr2 hs2 _ _ => ?_⟩
    · unfold sX7_problemOf
      rw [if_neg (by decide), if_neg (by decide), if_neg (by decide), if_neg (by decide), if_neg (by decide), if_pos (by decide)]
      show bnd (sX3_repairProblem 20 a 0 Zc) _ = _
      rw [hc, bnd_s]
    · obtain ⟨x, x1, x2⟩ := hz q0
      rw [x1]
      exact pf_5 hs2 hW x2
  have main6 : ∀ (q : Nat), sX3_repairProblem 20 a 1 Zc = some (nI q, Zc) → sX8_cannotMend a Zr = some (nI (kc 6 q), Zr) → q ≤ 4 → (q = 0 → ∃ x, a = nI x ∧ x < N 1) → prb 6 N W a b l Zc Zr := fun q hc hr hq hz => by
    refine ⟨q, Zc, Zr, ?_, hr, hq, hK, onlyJ_rf Zc, onlyH_rf Zr, fun q0 Zc2 Zr2 hs2 _ _ => ?_⟩
    · unfold sX7_problemOf
      rw [if_neg (by decide), if_neg (by decide), if_neg (by decide), if_neg (by decide), if_neg (by decide), if_neg (by decide), if_pos (by decide)]
      show bnd (sX3_repairProblem 20 a 1 Zc) _ = _
      rw [hc, bnd_s]
    · obtain ⟨x, x1, x2⟩ := hz q0
      rw [x1]
      exact pf_6 hs2 x2
  have sc : sX3_hasTrunk 20 a Zc = some (if viB a (N 1) then 1 else 0, Zc) := p_hTr (by decide) a1
  have sr : sX8_isTrunk a Zr = some (if viB a (N 1) then 1 else 0, Zr) := m_isTr hA (by omega)
  cases va : viB a (N 1) with
  | false =>
    constructor
    · refine main5 1 ?_ ?_ (by decide) (fun q => by cases q)
      · unfold sX3_repairProblem
        rw [gd_t (by decide), sc, va, bnd_s]; rfl
      · unfold sX8_cannotCut
        rw [sr, va, bnd_s]; rfl
    · refine main6 1 ?_ ?_ (by decide) (fun q => by cases q)
      · unfold sX3_repairProblem
        rw [gd_t (by decide), sc, va, bnd_s]; rfl
      · unfold sX8_cannotMend
        rw [sr, va, bnd_s]; rfl
  | true =>
    obtain ⟨x, x1, x2⟩ := viB_t (by omega) va
    have hflag := (hI.2.1 x x1).2.2.2.2.2.1
    have tc : ∀ v : Int32, sX3_repairProblem 20 a v Zc = if (if nT N x 3 = 1 then (1 : Int32) else 0) = v then some (0, Zc) else some (3, Zc) := fun v => by
      unfold sX3_repairProblem
      rw [gd_t (by decide), sc, va, bnd_s]
      simp only [if_true]
      rw [if_neg (by decide), am, x2, p_hasBit (Nat.lt_trans (msk_lt _ 16) (by decide)) (by omega), bnd_s, msk_bit, decide_eq_true (show x < 16 by omega), Bool.true_and]
      simp only [decide_eq_true_eq]
    have tr5 : sX8_cannotCut a Zr = if nI (nT N x 3) = 1 then some (2, Zr) else some (0, Zr) := by
      unfold sX8_cannotCut
      rw [sr, va, bnd_s]
      simp only [if_true]
      rw [if_neg (by decide), x2, p_t3 hA (by omega), bnd_s]
    have tr6 : sX8_cannotMend a Zr = if nI (nT N x 3) = 0 then some (2, Zr) else some (0, Zr) := by
      unfold sX8_cannotMend
      rw [sr, va, bnd_s]
      simp only [if_true]
      rw [if_neg (by decide), x2, p_t3 hA (by omega), bnd_s]
    by_cases c : nT N x 3 = 1
    · rw [c] at tr5 tr6
      have t0 := tc 0
      have t1 := tc 1
      rw [if_pos c] at t0 t1
      exact ⟨main5 3 t0 tr5 (by decide) (fun q => by cases q), main6 0 t1 tr6 (by decide) (fun _ => ⟨x, x2, x1⟩)⟩
    · rw [show nT N x 3 = 0 by omega] at tr5 tr6
      have t0 := tc 0
      have t1 := tc 1
      rw [if_neg c] at t0 t1
      exact ⟨main5 0 t0 tr5 (by decide) (fun _ => ⟨x, x2, x1⟩), main6 3 t1 tr6 (by decide) (fun q => by cases q)⟩
theorem pr_7 {N : NN} {W : Nat} {a b l : Int32} {Zc Zr : ZZ} (hK : bK Zc Zr) : prb 7 N W a b l Zc Zr := by
  have main : ∀ (q : Nat), (if a < 1 then some ((2 : Int32), Zc) else if (60 : Int32) < a then some (2, Zc) else some (0, Zc)) = some (nI q, Zc) → bnd (sX8_in a 1 60 Zr) (fun q => some ((if q.1 = 0 then (1 : Int32) else 0), q.2)) = some (nI (kc 7 q), Zr) → q ≤ 4 → (q = 0 → ¬ a < 1 ∧ a ≤ 60) → prb 7 N W a b l Zc Zr := fun q hc hr hq hz => by
    refine ⟨q, Zc, Zr, ?_, hr, hq, hK, onlyJ_rf Zc, onlyH_rf Zr, fun q0 Zc2 Zr2 hs2 _ _ => ?_⟩
    · unfold sX7_problemOf
      rw [if_neg (by decide), if_neg (by decide), if_neg (by decide), if_neg (by decide), if_neg (by decide), if_neg (by decide), if_neg (by decide), if_pos (by decide)]
      exact hc
    · obtain ⟨z1, z2⟩ := hz q0
      obtain ⟨z, w1, w2, w3⟩ := rng (M := 60) (n := 60) (by decide) (by decide) z1 z2
      rw [w3]
      exact pf_7 hs2 w2
  by_cases l1 : a < 1
  · exact main 2 (by rw [if_pos l1]; rfl) (by unfold sX8_in; rw [if_pos l1, bnd_s]; rfl) (by decide) (fun q => by cases q)
  · by_cases l2 : (60 : Int32) < a
    · exact main 2 (by rw [if_neg l1, if_pos l2]; rfl) (by unfold sX8_in; rw [if_neg l1, if_pos l2, bnd_s]; rfl) (by decide) (fun q => by cases q)
    · exact main 0 (by rw [if_neg l1, if_neg l2]; rfl) (by unfold sX8_in; rw [if_neg l1, if_neg l2, bnd_s]; rfl) (by decide) (fun _ => ⟨l1, nlt_le.1 l2⟩)
theorem pr_3 {N : NN} {W : Nat} {a b l : Int32} {Zc Zr : ZZ} (hs : sy N W Zc Zr) (hK : bK Zc Zr) : prb 3 N W a b l Zc Zr := by
  obtain ⟨hB, hA, hI, hu⟩ := hs
  obtain ⟨⟨a0, a1, a2, -, -, -⟩, -⟩ := rB19.1 hB
  have h10 := hI.1.2.2.1
  have h5 := hI.1.2.2.2.1
  have pc : ∀ r, sX7_callProblem a b Zc = some r → sX7_problemOf (nI 3) a b l Zc = some r := fun r h => by
    unfold sX7_problemOf
    rw [if_neg (by decide), if_neg (by decide), if_neg (by decide), if_pos (by decide), h, bnd_s]
  have pr : ∀ q Z, sX8_cannotCall a b Zr = some (nI q, Z) → q < 3 → rP 3 a b l Zr = some (nI q, Z) := fun q Z h hq => by
    show bnd (sX8_cannotCall a b Zr) _ = _
    rw [h, bnd_s]
    dsimp only
    unfold sX8_blocks
    rw [if_neg (lge hq (by decide)), bnd_s]
  have sc : ∀ (x : Int32), sX6_hasSubscriber 19 x Zc = some (if viB x (N 2) then 1 else 0, Zc) := fun x => p_hSu (by decide) a2
  have sr : ∀ (x : Int32), sX8_isUser x Zr = some (if viB x (N 2) then 1 else 0, Zr) := fun x => m_isUs hA (by omega)
  cases va : viB a (N 2) with
  | false =>
    refine ⟨1, Zc, Zr, pc _ ?_, pr 1 Zr ?_ (by decide), by decide, hK, onlyJ_rf Zc, onlyH_rf Zr, fun q => by cases q⟩
    · unfold sX7_callProblem
      rw [sc, va, bnd_s]; rfl
    · unfold sX8_cannotCall
      rw [sr, va, bnd_s]; rfl
  | true =>
    cases vb : viB b (N 2) with
    | false =>
      refine ⟨1, Zc, Zr, pc _ ?_, pr 1 Zr ?_ (by decide), by decide, hK, onlyJ_rf Zc, onlyH_rf Zr, fun q => by cases q⟩
      · unfold sX7_callProblem
        rw [sc, va, bnd_s]
        simp only [if_true]
        rw [if_neg (by decide), sc, vb, bnd_s]; rfl
      · unfold sX8_cannotCall
        rw [sr, va, bnd_s]
        simp only [if_true]
        rw [if_neg (by decide), sr, vb, bnd_s]; rfl
    | true =>
      obtain ⟨x, x1, x2⟩ := viB_t (by omega) va
      obtain ⟨y, y1, y2⟩ := viB_t (by omega) vb
      by_cases hab : a = b
      · refine ⟨2, Zc, Zr, pc _ ?_, pr 2 Zr ?_ (by decide), by decide, hK, onlyJ_rf Zc, onlyH_rf Zr, fun q => by cases q⟩
        · unfold sX7_callProblem
          rw [sc, va, bnd_s]
          simp only [if_true]
          rw [if_neg (by decide), sc, vb, bnd_s]
          simp only [if_true]
          rw [if_neg (by decide), if_pos hab]; rfl
        · unfold sX8_cannotCall
          rw [sr, va, bnd_s]
          simp only [if_true]
          rw [if_neg (by decide), sr, vb, bnd_s]
          simp only [if_true]
          rw [if_neg (by decide), if_pos hab]; rfl
      · obtain ⟨Zb, Zb2, e1, e2, e3, e4, e5⟩ := x_block (q := 3) (a := a) (b := b) hK (Or.inl rfl)
        rw [if_pos rfl] at e1
        have busyr : sX8_cannotCall a b Zr = some (3, Zr) → rP 3 a b l Zr = some (nI (kc 3 3), Zb2) := fun h => by
          show bnd (sX8_cannotCall a b Zr) _ = _
          rw [h, bnd_s]
          show bnd (sX8_blocks a b (nI 3) Zr) _ = _
          rw [e2, bnd_s]; rfl
        have tc : sX7_callProblem a b Zc = if (if talks N x < N 3 then nI (talks N x) else -1) = -1 then (if (if talks N y < N 3 then nI (talks N y) else -1) = -1 then bnd (sX5_findRoute (19 + 1) (nI (msk (free N) 16)) (nI (nU N x 0)) (nI (nU N y 0)) Zc) (fun q_14 => if q_14.1 = 0 then bnd (sX0_enter a b 114 q_14.2) (fun q_16 => some (4, q_16)) else some (0, q_14.2)) else bnd (sX0_enter a b 98 Zc) (fun q => some (3, q))) else bnd (sX0_enter a b 98 Zc) (fun q => some (3, q)) := by
          unfold sX7_callProblem
          rw [sc, va, bnd_s]
          simp only [if_true]
          rw [if_neg (by decide), sc, vb, bnd_s]
          simp only [if_true]
          rw [if_neg (by decide), if_neg hab, x2, p_callIndexOf hB hI (by omega), bnd_s, y2, p_callIndexOf hB hI (by omega), bnd_s, p_freeTrunks hB hI, bnd_s, c_home hB hI x1, bnd_s, c_home hB hI y1, bnd_s]
          rfl
        have tr : sX8_cannotCall a b Zr = if (0 : Int32) ≤ (if talks N x < N 3 then nI (talks N x) else -1) then some (3, Zr) else (if (if talks N y < N 3 then nI (talks N y) else -1) < 0 then bnd (sX8_finds (nI (nU N x 0)) (nI (nU N y 0)) (cI 5) Zr) (fun q_12 => if q_12.1 = 0 then some (4, q_12.2) else some (0, q_12.2)) else some (3, Zr)) := by
          unfold sX8_cannotCall
          rw [sr, va, bnd_s]
          simp only [if_true]
          rw [if_neg (by decide), sr, vb, bnd_s]
          simp only [if_true]
          rw [if_neg (by decide), if_neg hab, x2, m_callOf hA hI (by omega), bnd_s, y2, m_callOf hA hI (by omega), bnd_s, p_u_x (x := 0) hA (o := 0) (by omega) rfl, bnd_s, p_u_x (x := 0) hA (o := 0) (by omega) rfl, bnd_s]
          rfl
        by_cases cx : talks N x < N 3
        · rw [if_pos cx, if_neg (ne_m1 (by omega)), e1, bnd_s] at tc
          rw [if_pos cx, if_pos (nI_pos' (by omega))] at tr
          exact ⟨3, Zb, Zb2, pc _ tc, busyr tr, by decide, e3, onlyJ_K e4, onlyH_Q e5, fun q => by cases q⟩
        · rw [if_neg cx, if_pos rfl] at tc
          rw [if_neg cx, if_neg (by decide)] at tr
          by_cases cy : talks N y < N 3
          · rw [if_pos cy, if_neg (ne_m1 (by omega)), e1, bnd_s] at tc
            rw [if_pos cy, if_neg (nI_pos (by omega))] at tr
            exact ⟨3, Zb, Zb2, pc _ tc, busyr tr, by decide, e3, onlyJ_K e4, onlyH_Q e5, fun q => by cases q⟩
          · rw [if_neg cy, if_pos rfl] at tc
            rw [if_neg cy, if_pos (by decide)] at tr
            have hh1 := (hI.2.2.2.1 x x1).1
            have hh2 := (hI.2.2.2.1 y y1).1
            obtain ⟨d, hd⟩ := ex_isD hI (rNet_of hB) hh2 (frE N 5)
            obtain ⟨Z2, r1, r2, r3⟩ := p_fr (p := free N) (q := frE N 5) hI (rNet_of hB) hh1 hh2 hd (fun i hi => frE_free (by omega) hi)
            obtain ⟨Zf, f1, f2, -, f4⟩ := p_finds hA hI hh1 hh2 (Or.inr (by decide)) hd
            have hK2 := bK_RF hK r2 f2
            rw [r1, bnd_s] at tc
            rw [f1, bnd_s] at tr
            dsimp only at tc tr
            by_cases cf : d (nU N x 0) < 1000000
            · rw [if_pos cf, if_neg (by decide)] at tc tr
              obtain ⟨w1, w2⟩ := f4 cf
              refine ⟨0, Z2, Zf, pc _ tc, pr 0 Zf tr (by decide), by decide, hK2, onlyJ_R r2, onlyH_F f2, fun _ Zc2 Zr2 hs2 q13 q8 => ?_⟩
              rw [x2, y2]
              exact pf_3 hs2 x1 y1 (fun e => hab (by rw [x2, y2, e])) cx cy hd cf (q13.trans w1) (fun j hj => (q8 j).trans (w2 j hj))
            · rw [if_neg cf, if_pos rfl] at tc tr
              obtain ⟨Zd, Zd2, e1', e2', e3', e4', e5'⟩ := x_block (q := 4) (a := a) (b := b) hK2 (Or.inr rfl)
              rw [if_neg (by decide)] at e1'
              rw [e1', bnd_s] at tc
              refine ⟨4, Zd, Zd2, pc _ tc, ?_, by decide, e3', onlyJ_tr (onlyJ_R r2) (onlyJ_K e4'), onlyH_tr (onlyH_F f2) (onlyH_Q e5'), fun q => by cases q⟩
              show bnd (sX8_cannotCall a b Zr) _ = _
              rw [tr, bnd_s]
              show bnd (sX8_blocks a b (nI 4) Zf) _ = _
              rw [e2', bnd_s]; rfl
theorem pr_k {k : Nat} {N : NN} {W : Nat} {a b l : Int32} {Zc Zr : ZZ} (hk : k < 8) (hs : sy N W Zc Zr) (hW : W ≤ 7000) (hK : bK Zc Zr) : prb k N W a b l Zc Zr := by
  match k, hk with
  | 0, _ => exact pr_0 hs hK
  | 1, _ => exact pr_1 hs hK
  | 2, _ => exact pr_2 hs hK
  | 3, _ => exact pr_3 hs hK
  | 4, _ => exact pr_4 hs hW hK
  | 5, _ => exact (pr_56 hs hW hK).1
  | 6, _ => exact (pr_56 hs hW hK).2
  | 7, _ => exact pr_7 hK
