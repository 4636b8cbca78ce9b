/-! the rank by bill; the text; what is recorded; undo, save, restore -/
def ahd (N : NN) (k o : Nat) : Nat := if nU N k 2 < nU N o 2 ∨ (nU N o 2 = nU N k 2 ∧ o < k) then 1 else 0
def rkN (N : NN) (k : Nat) : Nat := sumf (ahd N k) (N 2)
theorem rkN_le (N : NN) (k n : Nat) : sumf (ahd N k) n ≤ n := by
  induction n with
  | zero => exact Nat.le_refl _
  | succ n ih =>
    show sumf (ahd N k) n + ahd N k n ≤ n + 1
    have : ahd N k n ≤ 1 := by unfold ahd; split <;> omega
    omega
section Q
variable {lw : LW} {W : Nat} {x y : Int32} {Zc Zr : ZZ}
theorem c_rank_L {N : NN} {k : Nat} (hB : rB N Zc 19) (h10 : N 2 ≤ 10) (hb : ∀ i, i < N 2 → nU N i 2 < 2 ^ 31) (hk : k < N 2) : ∀ (e o n : Nat), o + e = N 2 → e < n → sX6_rankOf_L14 19 (nI k) n (nI (sumf (ahd N k) o)) (nI o) Zc = some (nI (rkN N k), Zc) := by
  obtain ⟨⟨a0, a1, a2, a3, a4, a5⟩, am, aT, aU, aC⟩ := rB19.1 hB
  intro e
  induction e with
  | zero =>
    intro o n ho hn
    obtain ⟨n, rfl⟩ : ∃ q, n = q + 1 := ⟨n - 1, by omega⟩
    rw [sX6_rankOf_L14, a2, if_pos (nI_le (by omega) (by omega)), show o = N 2 by omega]
    rfl
  | succ e ih =>
    intro o n ho hn
    obtain ⟨n, rfl⟩ : ∃ q, n = q + 1 := ⟨n - 1, by omega⟩
    have hih := ih (o + 1) n (by omega) (by omega)
    have es : sumf (ahd N k) (o + 1) = sumf (ahd N k) o + ahd N k o := rfl
    rw [es] at hih
    have q1 : gI Zc (19 + 8) o = nI (nU N o 2) := (aU o (by omega)).2.2
    have q2 : gI Zc (19 + 8) k = nI (nU N k 2) := (aU k (by omega)).2.2
    have b1 := hb o (by omega)
    have b2 := hb k hk
    have hB42 : ∀ u : Int32, (u = 0 ↔ ¬ nU N o 2 = nU N k 2) → sX6_rankOf_B42 19 (nI k) (fun y2 y3 Z => sX6_rankOf_L14 19 (nI k) n y2 y3 Z) (nI (sumf (ahd N k) o)) (nI o) u Zc = some (nI (rkN N k), Zc) := fun u hu => by
      unfold sX6_rankOf_B42
      rw [gd_t (vin_n (by omega) (by decide)), gd_t (vin_n (by omega) (by decide)), cl_n (by omega), cl_n (by omega), q1, q2]
      simp only [lt_nn b2 b1, le_nn (show k < 2 ^ 31 by omega) (show o < 2 ^ 31 by omega), nm_d, ad_n1]
      unfold ahd at hih
      by_cases c1 : nU N k 2 < nU N o 2
      · rw [if_pos c1]
        rw [if_pos (Or.inl c1)] at hih
        exact hih
      · rw [if_neg c1]
        by_cases c2 : u = 0
        · have := hu.1 c2
          rw [if_pos c2]
          rw [if_neg (fun q => q.elim c1 (fun q => this q.1))] at hih
          exact hih
        · have e1 : nU N o 2 = nU N k 2 := Decidable.not_not.1 (fun q => c2 (hu.2 q))
          rw [if_neg c2]
          by_cases c3 : k ≤ o
          · rw [if_pos c3]
            rw [if_neg (fun q => q.elim c1 (fun q => by omega))] at hih
            exact hih
          · rw [if_neg c3]
            rw [if_pos (Or.inr ⟨e1, by omega⟩)] at hih
            exact hih
    rw [sX6_rankOf_L14, a2, if_neg (nI_ge (by omega) (by omega)), gd_t (vin_n (by omega) (by decide)), gd_t (vin_n (by omega) (by decide)), cl_n (by omega), cl_n (by omega), q1, q2]
    simp only [eq_nn b1 b2]
    by_cases c : nU N o 2 = nU N k 2
    · rw [if_pos c]; exact hB42 1 ⟨fun q => absurd q (by decide), fun q => absurd c q⟩
    · rw [if_neg c]; exact hB42 0 ⟨fun _ => c, fun _ => rfl⟩
theorem c_rank {N : NN} {k : Nat} (hB : rB N Zc 19) (h10 : N 2 ≤ 10) (hb : ∀ i, i < N 2 → nU N i 2 < 2 ^ 31) (hk : k < N 2) : sX6_rankOf 19 (nI k) Zc = some (nI (rkN N k), Zc) := by
  unfold sX6_rankOf
  rw [gd_t (by decide), p_hasSub (by decide) (rB19.1 hB).1.2.2.1 h10 (by omega), bnd_s, if_pos hk]
  dsimp only
  rw [if_neg (by decide)]
  exact c_rank_L hB h10 hb hk (N 2) 0 3000 (by omega) (by omega)
theorem c_sbb_L {N : NN} (hB : rB N Zc 19) (h10 : N 2 ≤ 10) (hb : ∀ i, i < N 2 → nU N i 2 < 2 ^ 31) : ∀ (e k n : Nat), k + e = N 2 → e < n → (∀ j, j < k → decide (nI (rkN N j) = x) = false) → sX7_subscriberByBill_L2 x n (nI k) Zc = some (if fnd (fun j => decide (nI (rkN N j) = x)) (N 2) < N 2 then .inr (nI (fnd (fun j => decide (nI (rkN N j) = x)) (N 2))) else .inl 5, Zc) := by
  have a2 := (rB19.1 hB).1.2.2.1
  intro e
  induction e with
  | zero =>
    intro k n hk hn hj
    obtain ⟨n, rfl⟩ : ∃ q, n = q + 1 := ⟨n - 1, by omega⟩
    have e : fnd (fun j => decide (nI (rkN N j) = x)) (N 2) = N 2 := fnd_none (fun j h => hj j (by omega))
    rw [sX7_subscriberByBill_L2, a2, if_pos (nI_le (by omega) (by omega)), e, if_neg (by omega)]
  | succ e ih =>
    intro k n hk hn hj
    obtain ⟨n, rfl⟩ : ∃ q, n = q + 1 := ⟨n - 1, by omega⟩
    rw [sX7_subscriberByBill_L2, a2, if_neg (nI_ge (by omega) (by omega)), c_rank hB h10 hb (by omega), bnd_s]
    by_cases c : nI (rkN N k) = x
    · have e : fnd (fun j => decide (nI (rkN N j) = x)) (N 2) = k := fnd_some (by omega) hj (decide_eq_true c)
      rw [if_pos c, e, if_pos (by omega)]
    · rw [if_neg c, nm_d, ad_n1]
      exact ih (k + 1) n (by omega) (by omega) (fun j h => by
        by_cases q : j = k
        · subst q; exact decide_eq_false c
        · exact hj j (by omega))
theorem m_rank_L {N : NN} {k : Nat} {k7 : Int32 → ZZ → Option (Int32 × ZZ)} (hA : rA N Zr 1) (h10 : N 2 ≤ 10) (hb : ∀ i, i < N 2 → nU N i 2 < 2 ^ 31) (hk : k < N 2) : ∀ (e o n : Nat), o + e = N 2 → e < n → sX8_subscriberByBill_L22 x k7 n (nI k) (nI (sumf (ahd N k) o)) (nI o) Zr = sX8_subscriberByBill_B85 x k7 (nI k) (nI (rkN N k)) Zr := by
  have hz : ∀ a : Nat, nI a + 0 = nI a := fun a => by rw [show (0 : Int32) = nI 0 from rfl, nI_add]; rfl
  intro e
  induction e with
  | zero =>
    intro o n ho hn
    obtain ⟨n, rfl⟩ : ∃ q, n = q + 1 := ⟨n - 1, by omega⟩
    rw [sX8_subscriberByBill_L22, gd_t (by decide), g2 hA, if_pos (nI_le (by omega) (by omega)), show o = N 2 by omega]
    rfl
  | succ e ih =>
    intro o n ho hn
    obtain ⟨n, rfl⟩ : ∃ q, n = q + 1 := ⟨n - 1, by omega⟩
    have hih := ih (o + 1) n (by omega) (by omega)
    have es : sumf (ahd N k) (o + 1) = sumf (ahd N k) o + ahd N k o := rfl
    rw [es] at hih
    have b1 := hb o (by omega)
    have b2 := hb k hk
    rw [sX8_subscriberByBill_L22, gd_t (by decide), g2 hA, if_neg (nI_ge (by omega) (by omega)), p_u_x (x := 2) hA (o := 2) (by omega) rfl, bnd_s, p_u_x (x := 2) hA (o := 2) (by omega) rfl, bnd_s]
    dsimp only
    simp only [lt_nn b2 b1]
    unfold ahd at hih
    by_cases c1 : nU N k 2 < nU N o 2
    · rw [if_pos c1, nm_d, nm_d, ad_n1, ad_n1]
      rw [if_pos (Or.inl c1)] at hih
      exact hih
    · rw [if_neg c1, p_u_x (x := 2) hA (o := 2) (by omega) rfl, bnd_s, p_u_x (x := 2) hA (o := 2) (by omega) rfl, bnd_s]
      dsimp only
      simp only [eq_nn b1 b2, le_nn (show k < 2 ^ 31 by omega) (show o < 2 ^ 31 by omega)]
      by_cases c2 : nU N o 2 = nU N k 2
      · rw [if_pos c2]
        by_cases c3 : k ≤ o
        · rw [if_pos c3, nm_d, nm_d, ad_n1, hz]
          rw [if_neg (fun q => q.elim c1 (fun q => by omega))] at hih
          exact hih
        · rw [if_neg c3, nm_d, nm_d, ad_n1, ad_n1]
          rw [if_pos (Or.inr ⟨c2, by omega⟩)] at hih
          exact hih
      · rw [if_neg c2, nm_d, nm_d, ad_n1, hz]
        rw [if_neg (fun q => q.elim c1 (fun q => c2 q.1))] at hih
        exact hih
theorem m_sbb_L {N : NN} (hA : rA N Zr 1) (h10 : N 2 ≤ 10) (hb : ∀ i, i < N 2 → nU N i 2 < 2 ^ 31) : ∀ (e k n : Nat), k + e = N 2 → e < n → (∀ j, j < k → decide (nI (rkN N j) = x) = false) → sX8_subscriberByBill_L7 x n (nI k) Zr = (if fnd (fun j => decide (nI (rkN N j) = x)) (N 2) < N 2 then some (nI (fnd (fun j => decide (nI (rkN N j) = x)) (N 2)), Zr) else some (0, pI Zr 0 8 1)) := by
  intro e
  induction e with
  | zero =>
    intro k n hk hn hj
    obtain ⟨n, rfl⟩ : ∃ q, n = q + 1 := ⟨n - 1, by omega⟩
    have e : fnd (fun j => decide (nI (rkN N j) = x)) (N 2) = N 2 := fnd_none (fun j h => hj j (by omega))
    rw [sX8_subscriberByBill_L7, gd_t (by decide), g2 hA, if_pos (nI_le (by omega) (by omega)), e, if_neg (by omega)]
    rfl
  | succ e ih =>
    intro k n hk hn hj
    obtain ⟨n, rfl⟩ : ∃ q, n = q + 1 := ⟨n - 1, by omega⟩
    rw [sX8_subscriberByBill_L7, gd_t (by decide), g2 hA, if_neg (nI_ge (by omega) (by omega))]
    refine Eq.trans (m_rank_L hA h10 hb (by omega) (N 2) 0 3000 (by omega) (by omega)) ?_
    unfold sX8_subscriberByBill_B85
    by_cases c : nI (rkN N k) = x
    · have e : fnd (fun j => decide (nI (rkN N j) = x)) (N 2) = k := fnd_some (by omega) hj (decide_eq_true c)
      rw [if_pos c, e, if_pos (by omega)]
    · rw [if_neg c, nm_d, ad_n1]
      exact ih (k + 1) n (by omega) (by omega) (fun j h => by
        by_cases q : j = k
        · subst q; exact decide_eq_false c
        · exact hj j (by omega))
theorem bills_lt {N : NN} (hI : iN N W) (hW : W ≤ 7000) : ∀ i, i < N 2 → nU N i 2 < 2 ^ 31 := fun i hi => by
  have hS := hI.2.2.2.2.2.2.2.1
  have hBd := hI.2.2.2.2.2.2.2.2
  have := sumf_ge (f := fun i => nU N i 2) (N 2) i hi
  have e : (fun i => nU N i 2) i = nU N i 2 := rfl
  omega
theorem o_subscriberByBill (hG : G lw W Zc Zr) (hW : W ≤ 7000) : opI lw W cd2 (sX7_subscriberByBill x Zc) (sX8_subscriberByBill x Zr) := by
  have hG0 := hG
  obtain ⟨N, Hs, n, ⟨hB, hA, hI, hu⟩, -⟩ := hG
  have h10 := hI.1.2.2.1
  have hb := bills_lt hI hW
  have e1 : sX7_subscriberByBill x Zc = _ := c_sbb_L (x := x) hB h10 hb (N 2) 0 3000 (by omega) (by omega) (fun j h => by omega)
  have e2 : sX8_subscriberByBill x Zr = _ := m_sbb_L (x := x) (rA_8 (x := 0) hA) h10 hb (N 2) 0 3000 (by omega) (by omega) (fun j h => by omega)
  by_cases c : fnd (fun j => decide (nI (rkN N j) = x)) (N 2) < N 2
  · rw [if_pos c] at e1 e2
    exact opI_v hG0 e1 e2 (onlyR_rf _) (onlyX_8 _ _) (gI_pI_s _ _ _ _)
  · rw [if_neg c] at e1 e2
    exact opI_e hG0 e1 e2 (onlyR_rf _) (onlyX_tr (onlyX_8 _ _) (onlyX_8 _ _)) (by decide) (by decide) (gI_pI_s _ _ _ _)
theorem o_present {v : Int32} {oc : Option ((Nat ⊕ Int32) × ZZ)} (hG : G lw W Zc Zr) (hv : pos1 v) (hc : oc = if v = -1 then some (.inl 5, Zc) else some (.inr v, Zc)) : opI lw W cd2 oc (bnd (sX8_present v Zr) (fun q => some (q.1, q.2))) := by
  rcases hv with h | ⟨p, p1, h⟩
  · subst h
    refine opI_e (e := 5) (rr := 0) (Zc' := Zc) (Zr' := pI Zr 0 8 1) hG (by rw [hc, if_pos rfl]) ?_ (onlyR_rf _) (onlyX_8 _ _) (by decide) (by decide) (gI_pI_s _ _ _ _)
    unfold sX8_present
    rw [if_pos (by decide), chk_f, bnd_s]; rfl
  · subst h
    refine opI_v (v := nI p) (Zc' := Zc) (Zr' := pI Zr 0 8 0) hG (by rw [hc, if_neg (ne_m1 p1)]) ?_ (onlyR_rf _) (onlyX_8 _ _) (gI_pI_s _ _ _ _)
    unfold sX8_present
    rw [if_neg (nI_pos p1), chk_t, bnd_s]; rfl
theorem o_errorPosition (hG : G lw W Zc Zr) : opI lw W cd2 (sX7_errorPosition Zc) (sX8_errorPosition Zr) := by
  have hG0 := hG
  obtain ⟨N, Hs, n, -, -, -, -, -, -, -, ⟨f1, f2, f3, f4⟩, -⟩ := hG
  unfold sX8_errorPosition
  rw [f1]
  exact o_present hG0 f3 rfl
theorem o_failedCommand (hG : G lw W Zc Zr) : opI lw W cd2 (sX7_failedCommand Zc) (sX8_failedCommand Zr) := by
  have hG0 := hG
  obtain ⟨N, Hs, n, -, -, -, -, -, -, -, ⟨f1, f2, f3, f4⟩, -⟩ := hG
  unfold sX8_failedCommand
  rw [f2]
  exact o_present hG0 f4 rfl
theorem nch_of {x : Int32} (h : nch x = true) : vp_nar .char x = x := by simpa [nch] using h
theorem nch_nat {x : Int32} (h : nch x = true) : ∃ c : Nat, c < 65536 ∧ x = nI c := by
  have h1 := nch_of h
  rw [vp_nar_char] at h1
  refine ⟨x.toUInt32.toUInt16.toNat, UInt16.toNat_lt _, ?_⟩
  rw [← h1]
  apply Int32.toBitVec_inj.mp
  apply BitVec.eq_of_toNat_eq
  simp [nI]
  show x.toBitVec.toNat % 65536 = x.toBitVec.toNat % 65536 % 4294967296
  omega
theorem o_type (hG : G lw W Zc Zr) (hx : nch x = true) : opI lw W cd2 (sX7_type x Zc) (sX8_type x Zr) := by
  have hG0 := hG
  obtain ⟨N, Hs, n, ⟨hB, hA, hI, hu⟩, hK, rc, rr, ri, rs, ⟨m, tx, e1, e2, e3, e4⟩, rf, ro⟩ := hG
  obtain ⟨c, c1, c2⟩ := nch_nat hx
  by_cases h : m < 60
  · refine ⟨.inr (nI (m + 1)), pI (pI Zc 8 m x) 7 1 (nI (m + 1)), nI (m + 1), pI (pI (pI Zr 0 8 0) 10 m x) 0 20 (nI (m + 1)), ?_, ?_, ?_, Or.inr ⟨rfl, ?_⟩⟩
    · unfold sX7_type sX4_append
      rw [e2, if_pos (ltl h (by decide)), if_neg (lge h (by decide)), gd_t (vin_n h (by decide)), nch_of hx, cl_n (by omega), nm_d, gI_pI_k _ _ _ _ (by decide), e2, ad_n1, nm_d, gI_pI_s, bnd_s]
    · unfold sX8_type
      rw [e3, if_neg (lge h (by decide))]
      unfold sX8_type_B15
      rw [chk_t, bnd_s, if_pos le00]
      dsimp only
      rw [gI_pI_j _ _ _ _ (by decide), e3, gd_t (vin_n h (by decide)), cl_n (by omega), nm_d, gI_pI_k _ _ _ _ (by decide), gI_pI_j _ _ _ _ (by decide), e3, ad_n1, nm_d, gI_pI_s]
    · have kc : ∀ k j, k ≠ 7 → k ≠ 8 → gI (pI (pI Zc 8 m x) 7 1 (nI (m + 1))) k j = gI Zc k j := fun k j q1 q2 => by
        rw [gI_pI_k _ _ _ _ q1, gI_pI_k _ _ _ _ q2]
      have kr : ∀ k j, k ≠ 10 → (k = 0 → j ≠ 8 ∧ j ≠ 20) → gI (pI (pI (pI Zr 0 8 0) 10 m x) 0 20 (nI (m + 1))) k j = gI Zr k j := fun k j q1 q2 => by
        rw [gI_pI_o _ _ (fun q => (q2 q).2), gI_pI_k _ _ _ _ q1, gI_pI_o _ _ (fun q => (q2 q).1)]
      refine ⟨N, Hs, n, ⟨rB_keep hB hI.1.2.2.2.1 (fun k j a b => kc k j (by omega) (by omega)) rfl, fun j hj => by rw [kr _ _ (by decide) (fun q => absurd q (by decide))]; exact hA j hj, hI, hu⟩, bK_keep hK (fun k j a b => kc k j (by omega) (by omega)) (kr _ _ (by decide) (fun _ => by decide)) (fun j => kr _ _ (by decide) (fun q => absurd q (by decide))), hKc_keep rc ri (fun k j q => kc k j (by omega) (by omega)) (fun k _ => rfl), hKr_keep rr (kr _ _ (by decide) (fun _ => by decide)) (fun j => kr _ _ (by decide) (fun q => absurd q (by decide))), ri, sK_keep rs (Nat.le_refl W) (fun k j q => kc k j (by omega) (by omega)) rfl (kr _ _ (by decide) (fun _ => by decide)) (fun j => kr _ _ (by decide) (fun q => absurd q (by decide))), ⟨m + 1, fun j => if j = m then c else tx j, by omega, gI_pI_s _ _ _ _, gI_pI_s _ _ _ _, fun j hj => ?_⟩, ?_, ?_⟩
      · have ec : gI (pI (pI Zc 8 m x) 7 1 (nI (m + 1))) 8 j = gI (pI Zc 8 m x) 8 j := gI_pI_k _ _ _ _ (by decide)
        have er : gI (pI (pI (pI Zr 0 8 0) 10 m x) 0 20 (nI (m + 1))) 10 j = gI (pI (pI Zr 0 8 0) 10 m x) 10 j := gI_pI_k _ _ _ _ (by decide)
        rw [ec, er]
        by_cases cj : j = m
        · rw [cj, gI_pI_s, gI_pI_s]
          dsimp only
          rw [if_pos rfl]; exact ⟨c2, c2, c1⟩
        · rw [gI_pI_j _ _ _ _ cj, gI_pI_j _ _ _ _ cj, gI_pI_k _ _ _ _ (by decide)]
          dsimp only
          rw [if_neg cj]
          exact e4 j (by omega)
      · obtain ⟨f1, f2, f3, f4⟩ := rf
        rw [fK, kr _ _ (by decide) (fun _ => by decide), kr _ _ (by decide) (fun _ => by decide), kc _ _ (by decide) (by decide), kc _ _ (by decide) (by decide)]
        exact ⟨f1, f2, f3, f4⟩
      · obtain ⟨q1, q2, q3⟩ := ro
        exact ⟨q1, (kr _ _ (by decide) (fun _ => by decide)).trans q2, fun j hj => by rw [kr _ _ (by decide) (fun q => absurd q (by decide))]; exact q3 j hj⟩
    · rw [gI_pI_j _ _ _ _ (by decide), gI_pI_k _ _ _ _ (by decide), gI_pI_s]; rfl
  · have h60 : m = 60 := by omega
    subst h60
    refine opI_e (e := 3) (rr := 0) (Zc' := Zc) (Zr' := pI Zr 0 8 1) hG0 ?_ ?_ (onlyR_rf _) (onlyX_8 _ _) (by decide) (by decide) (gI_pI_s _ _ _ _)
    · unfold sX7_type
      rw [e2, if_neg (by decide)]
    · unfold sX8_type
      rw [e3, if_pos (by decide)]
      unfold sX8_type_B15
      rw [chk_f, bnd_s]; rfl
theorem o_undo (hG : G lw W Zc Zr) : opI lw W cd2 (sX7_undo Zc) (sX8_undo Zr) := by
  have hG0 := hG
  obtain ⟨N, Hs, n, ⟨hB, hA, hI, hu⟩, hK, ⟨hn, h0, x, hx, h1, hr⟩, ⟨h9, hj⟩, ri, rs, rt, rf, ro⟩ := hG
  by_cases c : n = 0
  · subst c
    refine opI_e (e := 3) (rr := 0) (Zc' := Zc) (Zr' := pI Zr 0 8 1) hG0 ?_ ?_ (onlyR_rf _) (onlyX_8 _ _) (by decide) (by decide) (gI_pI_s _ _ _ _)
    · unfold sX7_undo
      rw [h0, if_pos (by decide)]
    · unfold sX8_undo
      rw [h9, if_pos (by decide)]
      unfold sX8_undo_B13
      rw [chk_f, bnd_s]; rfl
  · have hnx : (x + 8 - n + (n - 1)) % 8 = (x + 7) % 8 := by omega
    have hl := hr (n - 1) (by omega)
    rw [hnx] at hl
    obtain ⟨hIl, hul⟩ := ri (n - 1) (by omega)
    have hlb : rB (Hs (n - 1)) (pI (pI Zc 1 1 (nI ((x + 7) % 8))) 1 0 (nI (n - 1))) (79 + 20 * ((x + 7) % 8)) := rB_keep hl hIl.1.2.2.2.1 (fun k j a b => by rw [gI_pI_k _ _ _ _ (by omega), gI_pI_k _ _ _ _ (by omega)]) rfl
    obtain ⟨Z1, c1, c2, c3⟩ := p_copy (b0 := 19) (by decide) (by omega) hlb hIl
    obtain ⟨Z2, d1, d2, d3, d4⟩ := m_cp32 (t0 := 4) (t2 := 1) (c1 := 180 * (n - 1)) (c3 := 0) (Z := pI (pI Zr 0 8 0) 0 9 (nI (n - 1))) (by decide) (by decide) (by omega) (by omega) (by omega)
    have kc : ∀ k j, (k < 19 ∨ 38 < k) → k ≠ 1 → gI Z1 k j = gI Zc k j := fun k j q1 q2 => by
      rw [c3.1 k j (by omega), gI_pI_k _ _ _ _ q2, gI_pI_k _ _ _ _ q2]
    have kr : ∀ k j, k ≠ 1 → (k = 0 → j ≠ 8 ∧ j ≠ 9) → gI Z2 k j = gI Zr k j := fun k j q1 q2 => by
      rw [d3 _ _ (fun q => absurd q q1), gI_pI_o _ _ (fun q => (q2 q).2), gI_pI_o _ _ (fun q => (q2 q).1)]
    have z10 : gI Z1 1 0 = nI (n - 1) := by rw [c3.1 _ _ (by decide), gI_pI_s]
    have z9 : gI Z2 0 9 = nI (n - 1) := by rw [d3 _ _ (by omega), gI_pI_s]
    refine ⟨.inr (nI (n - 1)), Z1, nI (n - 1), Z2, ?_, ?_, ?_, Or.inr ⟨rfl, ?_⟩⟩
    · unfold sX7_undo sX2_takeBack
      rw [h0, if_neg (by rw [eq_nl (by omega) (by decide)]; exact c), gd_t (by decide), h1]
      have hb : ∀ u : Int32, u = nI ((x + 7) % 8) → bnd (sX2_takeBack_B19 19 u Zc) (fun q => some ((.inr (gI q 1 0) : Nat ⊕ Int32), q)) = some (.inr (nI (n - 1)), Z1) := fun u hu => by
        rw [hu]
        unfold sX2_takeBack_B19
        rw [nm_d, gI_pI_j _ _ _ _ (by decide), h0, show nI n - 1 = nI (n - 1) from pk_sub (b := 1) (by omega), nm_d, gI_pI_j _ _ _ _ (by decide), gI_pI_s, gd_t (vin_n (by omega) (by decide)), show elH 2 (nI ((x + 7) % 8)) = 79 + 20 * ((x + 7) % 8) by unfold elH; rw [cl_n (by omega)], c1, bnd_s, bnd_s, z10]
      by_cases cx : x = 0
      · rw [cx, if_pos (by decide)]
        exact hb 7 (by rw [cx]; rfl)
      · rw [if_neg (nI_nle (by omega) (by omega))]
        exact hb _ (by rw [show nI x - 1 = nI (x - 1) from pk_sub (b := 1) (by omega), show (x + 7) % 8 = x - 1 by omega])
    · unfold sX8_undo
      rw [h9, if_neg (nI_nle (by omega) (by omega))]
      unfold sX8_undo_B13
      rw [chk_t, bnd_s, if_pos le00]
      dsimp only
      rw [gI_pI_j _ _ _ _ (by decide), h9, show nI n - 1 = nI (n - 1) from pk_sub (b := 1) (by omega), nm_d, gI_pI_s, show (180 : Int32) * nI (n - 1) = nI (180 * (n - 1)) from pk_mul 180 (n - 1), show sX8_copy_3_2 4 (nI (180 * (n - 1))) 1 0 _ = some Z2 from d1, bnd_s, z9]
    · refine ⟨Hs (n - 1), Hs, n - 1, ⟨c2, fun j hj2 => ?_, hIl, hul⟩, bK_keep hK (fun k j a b => kc k j (by omega) (by omega)) (kr _ _ (by decide) (fun _ => by decide)) (fun j => kr _ _ (by decide) (fun q => absurd q (by decide))), ⟨by omega, z10, (x + 7) % 8, by omega, by rw [c3.1 _ _ (by decide), gI_pI_j _ _ _ _ (by decide), gI_pI_s], fun j hj2 => ?_⟩, ⟨z9, fun j hj2 q hq => by rw [kr _ _ (by decide) (fun q => absurd q (by decide))]; exact hj j (by omega) q hq⟩, fun j hj2 => ri j (by omega), sK_keep rs (Nat.le_refl W) (fun k j q => kc k j (by omega) (by omega)) (c3.2 39 (by decide)) (kr _ _ (by decide) (fun _ => by decide)) (fun j => kr _ _ (by decide) (fun q => absurd q (by decide))), ?_, ?_, ?_⟩
      · have := d2 j hj2
        rw [Nat.zero_add, gI_pI_k _ _ _ _ (by decide), gI_pI_k _ _ _ _ (by decide)] at this
        rw [this]; exact hj (n - 1) (by omega) j hj2
      · rw [show ((x + 7) % 8 + 8 - (n - 1) + j) % 8 = (x + 8 - n + j) % 8 by omega]
        exact rB_keep (hr j (by omega)) (ri j (by omega)).1.1.2.2.2.1 (fun k i a b => kc k i (by omega) (by omega)) (c3.2 _ (by omega))
      · obtain ⟨m, tx, e1, e2, e3, e4⟩ := rt
        refine ⟨m, tx, e1, by rw [kc _ _ (by decide) (by decide)]; exact e2, (kr _ _ (by decide) (fun _ => by decide)).trans e3, fun j hj => ?_⟩
        rw [kc _ _ (by decide) (by decide), kr _ _ (by decide) (fun q => absurd q (by decide))]
        exact e4 j hj
      · obtain ⟨f1, f2, f3, f4⟩ := rf
        rw [fK, kr _ _ (by decide) (fun _ => by decide), kr _ _ (by decide) (fun _ => by decide), kc _ _ (by decide) (by decide), kc _ _ (by decide) (by decide)]
        exact ⟨f1, f2, f3, f4⟩
      · obtain ⟨q1, q2, q3⟩ := ro
        exact ⟨q1, (kr _ _ (by decide) (fun _ => by decide)).trans q2, fun j hj => by rw [kr _ _ (by decide) (fun q => absurd q (by decide))]; exact q3 j hj⟩
    · rw [d3 _ _ (by omega), gI_pI_j _ _ _ _ (by decide), gI_pI_s]; rfl
theorem o_save (hG : G lw W Zc Zr) : opP lw W (sX7_save Zc) (sX8_save Zr) := by
  obtain ⟨N, Hs, n, ⟨hB, hA, hI, hu⟩, hK, rc, rr, ri, rs, rt, rf, ro⟩ := hG
  obtain ⟨Z1, c1, c2, c3⟩ := p_copy (b0 := 39) (by decide) (by decide) hB hI
  obtain ⟨Z2, d1, d2, d3, d4⟩ := m_cp22 (t0 := 1) (t2 := 3) (c1 := 0) (c3 := 0) (Z := pI Zr 0 8 0) (by decide) (by decide) (by omega) (by omega) (by omega)
  have kc : ∀ k j, (k < 39 ∨ 58 < k) → (k = 0 → j ≠ 8) → gI (pI Z1 0 8 1) k j = gI Zc k j := fun k j q1 q2 => by
    rw [gI_pI_o _ _ q2]; exact c3.1 k j (by omega)
  have kr : ∀ k j, k ≠ 3 → (k = 0 → j ≠ 8 ∧ j ≠ 14) → gI (pI Z2 0 14 1) k j = gI Zr k j := fun k j q1 q2 => by
    rw [gI_pI_o _ _ (fun q => (q2 q).2), d3 _ _ (fun q => absurd q q1), gI_pI_o _ _ (fun q => (q2 q).1)]
  have hA2 : rA N (pI Z2 0 14 1) 1 := fun j hj => by rw [kr _ _ (by decide) (fun q => absurd q (by decide))]; exact hA j hj
  refine ⟨nI (N 2), pI Z1 0 8 1, pI Z2 0 14 1, ?_, ?_, ?_⟩
  · unfold sX7_save
    rw [c1, bnd_s, nm_d, gI_pI_k _ _ _ _ (by decide), c3.1 _ _ (by decide), (rB19.1 hB).1.2.2.1]
  · unfold sX8_save
    rw [nm_d, show sX8_copy_2_2 1 0 3 0 (pI Zr 0 8 0) = some Z2 from d1, bnd_s, nm_d, gd_t (by decide), g2 hA2]
  · refine ⟨N, Hs, n, ⟨rB_keep hB hI.1.2.2.2.1 (fun k j a b => kc k j (by omega) (fun q => by omega)) (c3.2 19 (by decide)), hA2, hI, hu⟩, bK_keep hK (fun k j a b => kc k j (by omega) (fun q => by omega)) (kr _ _ (by decide) (fun _ => by decide)) (fun j => kr _ _ (by decide) (fun q => absurd q (by decide))), hKc_keep rc ri (fun k j q => kc k j (by omega) (fun q => by omega)) (fun k q => c3.2 k (by omega)), hKr_keep rr (kr _ _ (by decide) (fun _ => by decide)) (fun j => kr _ _ (by decide) (fun q => absurd q (by decide))), ri, ⟨1, by decide, gI_pI_s _ _ _ _, gI_pI_s _ _ _ _, fun _ => ⟨N, rB_keep c2 hI.1.2.2.2.1 (fun k j a b => gI_pI_k _ _ _ _ (by omega)) rfl, fun j hj => ?_, hI, hu⟩⟩, ?_, ?_, ?_⟩
    · have := d2 j hj
      rw [Nat.zero_add, gI_pI_k _ _ _ _ (by decide)] at this
      rw [gI_pI_k _ _ _ _ (by decide), this]; exact hA j hj
    · obtain ⟨m, tx, e1, e2, e3, e4⟩ := rt
      refine ⟨m, tx, e1, by rw [kc _ _ (by decide) (fun q => absurd q (by decide))]; exact e2, (kr _ _ (by decide) (fun _ => by decide)).trans e3, fun j hj => ?_⟩
      rw [kc _ _ (by decide) (fun q => absurd q (by decide)), kr _ _ (by decide) (fun q => absurd q (by decide))]
      exact e4 j hj
    · obtain ⟨f1, f2, f3, f4⟩ := rf
      rw [fK, kr _ _ (by decide) (fun _ => by decide), kr _ _ (by decide) (fun _ => by decide), kc _ _ (by decide) (fun _ => by decide), kc _ _ (by decide) (fun _ => by decide)]
      exact ⟨f1, f2, f3, f4⟩
    · obtain ⟨q1, q2, q3⟩ := ro
      exact ⟨q1, (kr _ _ (by decide) (fun _ => by decide)).trans q2, fun j hj => by rw [kr _ _ (by decide) (fun q => absurd q (by decide))]; exact q3 j hj⟩
theorem o_restore (hG : G lw W Zc Zr) : opI lw W cd2 (sX7_restore Zc) (sX8_restore Zr) := by
  have hG0 := hG
  obtain ⟨N, Hs, n, ⟨hB, hA, hI, hu⟩, hK, ⟨hn, h0, x, hx, h1, hr⟩, rr, ri, rs, rt, rf, ro⟩ := hG
  have rs0 := rs
  obtain ⟨v, v1, s1, s2, s3⟩ := rs
  by_cases c : v = 0
  · subst c
    refine opI_e (e := 3) (rr := 0) (Zc' := Zc) (Zr' := pI Zr 0 8 1) hG0 ?_ ?_ (onlyR_rf _) (onlyX_8 _ _) (by decide) (by decide) (gI_pI_s _ _ _ _)
    · unfold sX7_restore
      rw [s1, if_pos (by decide)]
    · unfold sX8_restore
      rw [s2]
      show bnd (sX8_checked 0 Zr) _ = _
      rw [chk_f, bnd_s]; rfl
  · have hv1 : v = 1 := by omega
    subst hv1
    obtain ⟨Ns, n1, n2, n3, n4⟩ := s3 rfl
    obtain ⟨Z1, c1, c2, c3⟩ := p_copy (b0 := 19) (by decide) (by decide) n1 n3
    obtain ⟨Z2, d1, d2, d3, d4⟩ := m_cp22 (t0 := 3) (t2 := 1) (c1 := 0) (c3 := 0) (Z := pI Zr 0 8 0) (by decide) (by decide) (by omega) (by omega) (by omega)
    have kc : ∀ k j, (k < 19 ∨ 38 < k) → (k = 1 → j ≠ 0) → gI (pI Z1 1 0 0) k j = gI Zc k j := fun k j q1 q2 => by
      rw [gI_pI_o _ _ q2]; exact c3.1 k j (by omega)
    have kr : ∀ k j, k ≠ 1 → (k = 0 → j ≠ 8 ∧ j ≠ 9) → gI (pI Z2 0 9 0) k j = gI Zr k j := fun k j q1 q2 => by
      rw [gI_pI_o _ _ (fun q => (q2 q).2), d3 _ _ (fun q => absurd q q1), gI_pI_o _ _ (fun q => (q2 q).1)]
    have hA2 : rA Ns (pI Z2 0 9 0) 1 := fun j hj => by
      have := d2 j hj
      rw [Nat.zero_add, gI_pI_k _ _ _ _ (by decide)] at this
      rw [gI_pI_k _ _ _ _ (by decide), this]; exact n2 j hj
    refine ⟨.inr (nI (Ns 2)), pI Z1 1 0 0, nI (Ns 2), pI Z2 0 9 0, ?_, ?_, ?_, Or.inr ⟨rfl, ?_⟩⟩
    · unfold sX7_restore sX2_forget
      rw [s1, if_neg (by decide), c1, bnd_s, nm_d, bnd_s, gI_pI_k _ _ _ _ (by decide), (rB19.1 c2).1.2.2.1]
    · unfold sX8_restore
      rw [s2]
      show bnd (sX8_checked 1 Zr) _ = _
      rw [chk_t, bnd_s, if_pos le00]
      dsimp only
      rw [show sX8_copy_2_2 3 0 1 0 (pI Zr 0 8 0) = some Z2 from d1, bnd_s, nm_d, gd_t (by decide), g2 hA2]
    · refine ⟨Ns, Hs, 0, ⟨rB_keep c2 n3.1.2.2.2.1 (fun k j a b => gI_pI_k _ _ _ _ (by omega)) rfl, hA2, n3, n4⟩, bK_keep hK (fun k j a b => kc k j (by omega) (fun q => by omega)) (kr _ _ (by decide) (fun _ => by decide)) (fun j => kr _ _ (by decide) (fun q => absurd q (by decide))), ⟨by decide, gI_pI_s _ _ _ _, x, hx, (kc _ _ (by decide) (fun _ => by decide)).trans h1, fun j hj => by omega⟩, ⟨gI_pI_s _ _ _ _, fun j hj => by omega⟩, fun j hj => by omega, sK_keep rs0 (Nat.le_refl W) (fun k j q => kc k j (by omega) (fun q => by omega)) (c3.2 39 (by decide)) (kr _ _ (by decide) (fun _ => by decide)) (fun j => kr _ _ (by decide) (fun q => absurd q (by decide))), ?_, ?_, ?_⟩
      · obtain ⟨m, tx, e1, e2, e3, e4⟩ := rt
        refine ⟨m, tx, e1, by rw [kc _ _ (by decide) (fun q => absurd q (by decide))]; exact e2, (kr _ _ (by decide) (fun _ => by decide)).trans e3, fun j hj => ?_⟩
        rw [kc _ _ (by decide) (fun q => absurd q (by decide)), kr _ _ (by decide) (fun q => absurd q (by decide))]
        exact e4 j hj
      · obtain ⟨f1, f2, f3, f4⟩ := rf
        rw [fK, kr _ _ (by decide) (fun _ => by decide), kr _ _ (by decide) (fun _ => by decide), kc _ _ (by decide) (fun q => absurd q (by decide)), kc _ _ (by decide) (fun q => absurd q (by decide))]
        exact ⟨f1, f2, f3, f4⟩
      · obtain ⟨q1, q2, q3⟩ := ro
        exact ⟨q1, (kr _ _ (by decide) (fun _ => by decide)).trans q2, fun j hj => by rw [kr _ _ (by decide) (fun q => absurd q (by decide))]; exact q3 j hj⟩
    · rw [gI_pI_j _ _ _ _ (by decide), d3 _ _ (by omega), gI_pI_s]; rfl
end Q
