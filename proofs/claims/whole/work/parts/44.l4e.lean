/-! a program is executed -/
def onlyHM (Z Z' : ZZ) : Prop := (∀ k j, k ≠ 1 → k ≠ 5 → k ≠ 6 → k ≠ 7 → k ≠ 8 → (k = 0 → j ≠ 12 ∧ j ≠ 13) → gI Z' k j = gI Z k j) ∧ ∀ k, gL Z' k = gL Z k
theorem onlyHM_rf (Z : ZZ) : onlyHM Z Z := ⟨fun _ _ _ _ _ _ _ _ => rfl, fun _ => rfl⟩
theorem onlyHM_tr {A B C : ZZ} (h1 : onlyHM A B) (h2 : onlyHM B C) : onlyHM A C := ⟨fun k j a b c d e f => (h2.1 k j a b c d e f).trans (h1.1 k j a b c d e f), fun k => (h2.2 k).trans (h1.2 k)⟩
theorem onlyHM_H {A B : ZZ} (h : onlyH A B) : onlyHM A B := ⟨fun k j _ b c d e f => h.1 k j b c d e f, h.2⟩
theorem onlyHM_M {A B : ZZ} (h : onlyM A B) : onlyHM A B := ⟨fun k j a _ c d e f => h.1 k j a c d e (fun q => (f q).2), h.2⟩
theorem m_can_0 {k i f w t : Nat} {r : Int32} {Z Z1 Z2 : ZZ} (hk : k < 8) (hi : i < 32) (h11 : gI Z 11 i = nI k) (ha : gI Z 12 (3 * i) = nI (if k = 0 then 1 else f)) (hb : gI Z 12 (3 * i + 1) = nI w) (hc : gI Z 12 (3 * i + 2) = nI t) (hc1 : gI Z1 12 (3 * i + 2) = nI t)
    (hp : rP k (nI f) (nI w) (nI t) Z = some (0, Z1)) (he : rE k (nI f) (nI w) (nI t) Z1 = some (r, Z2)) : sX8_cannot (nI i) Z = some (0, Z2) := by
  have v0 : (3 : Int32) * nI i = nI (3 * i) := pk_mul 3 i
  have v1 : nI (3 * i) + 1 = nI (3 * i + 1) := nI_add _ 1
  have v2 : nI (3 * i) + 2 = nI (3 * i + 2) := nI_add _ 2
  unfold sX8_cannot
  rw [v0, v1, v2, gd_t (vin_n (by omega) (by decide)), nm_d, gd_t (vin_n (by omega) (by decide)), nm_d, gd_t (vin_n hi (by decide)), cl_n (by omega), cl_n (by omega), cl_n (by omega), cl_n (by omega), ha, hb, h11, hc]
  match k, hk with
  | 0, _ =>
    have p' : some ((if gI Z 1 (0 : Int32).toNatClampNeg = 8 then (1 : Int32) else 0), Z) = some (0, Z1) := hp
    obtain ⟨p1, p2⟩ := some_pair p'
    rw [if_pos nI_0, gd_t (by decide)]
    by_cases cc : gI Z 1 (0 : Int32).toNatClampNeg = 8
    · rw [if_pos cc] at p1; exact absurd p1 (by decide)
    · rw [if_neg cc, p2, show sX8_addsSwitch Z1 = some (r, Z2) from he, bnd_s, nm_d]
  | 1, _ =>
    rw [if_neg (show ¬ 1 = 0 by decide)]
    rw [if_neg (by decide), if_pos (by decide), gd_t (vin_n (by omega) (by decide)), show sX8_cannotLay (nI f) (nI w) (nI t) Z = some (0, Z1) from hp, bnd_s]
    dsimp only
    rw [if_pos le00, gd_t (vin_n (by omega) (by decide)), hc1, show sX8_lays (nI f) (nI w) (nI t) Z1 = some (r, Z2) from he, bnd_s, nm_d]
  | 2, _ =>
    rw [if_neg (show ¬ 2 = 0 by decide)]
    rw [if_neg (by decide), if_neg (by decide), if_pos (by decide), show sX8_cannotJoin (nI f) (nI w) Z = some (0, Z1) from hp, bnd_s]
    dsimp only
    rw [if_pos le00, show sX8_joins (nI f) (nI w) Z1 = some (r, Z2) from he, bnd_s, nm_d]
  | 3, _ =>
    rw [if_neg (show ¬ 3 = 0 by decide)]
    obtain ⟨q, p1, p2⟩ := bnd_some (show bnd (sX8_cannotCall (nI f) (nI w) Z) (fun q => bnd (sX8_blocks (nI f) (nI w) q.1 q.2) (fun z => some (q.1, z))) = some (0, Z1) from hp)
    obtain ⟨z, p3, p4⟩ := bnd_some p2
    obtain ⟨p5, p6⟩ := some_pair p4
    rw [if_neg (by decide), if_neg (by decide), if_neg (by decide), if_pos (by decide), show sX8_cannotCall (nI f) (nI w) Z = some q from p1, bnd_s, nm_d, show sX8_blocks (nI f) (nI w) q.1 q.2 = some z from p3, bnd_s, p5, p6, if_pos le00, show sX8_connects (nI f) (nI w) Z1 = some (r, Z2) from he, bnd_s, nm_d]
  | 4, _ =>
    rw [if_neg (show ¬ 4 = 0 by decide)]
    obtain ⟨z, p3, p4⟩ := bnd_some (show bnd (sX8_callOf (nI f) Z1) (fun q => sX8_ends q.1 q.2) = some (r, Z2) from he)
    rw [if_neg (by decide), if_neg (by decide), if_neg (by decide), if_neg (by decide), if_pos (by decide), show sX8_cannotHang (nI f) Z = some (0, Z1) from hp, bnd_s]
    dsimp only
    rw [if_pos le00, show sX8_callOf (nI f) Z1 = some z from p3, bnd_s, p4, bnd_s, nm_d]
  | 5, _ =>
    rw [if_neg (show ¬ 5 = 0 by decide)]
    rw [if_neg (by decide), if_neg (by decide), if_neg (by decide), if_neg (by decide), if_neg (by decide), if_pos (by decide), show sX8_cannotCut (nI f) Z = some (0, Z1) from hp, bnd_s]
    dsimp only
    rw [if_pos le00, show sX8_cuts (nI f) Z1 = some (r, Z2) from he, bnd_s, nm_d]
  | 6, _ =>
    rw [if_neg (show ¬ 6 = 0 by decide)]
    rw [if_neg (by decide), if_neg (by decide), if_neg (by decide), if_neg (by decide), if_neg (by decide), if_neg (by decide), if_pos (by decide), show sX8_cannotMend (nI f) Z = some (0, Z1) from hp, bnd_s]
    dsimp only
    rw [if_pos le00, show sX8_mends (nI f) Z1 = some (r, Z2) from he, bnd_s, nm_d]
  | 7, _ =>
    rw [if_neg (show ¬ 7 = 0 by decide)]
    obtain ⟨z, p3, p4⟩ := bnd_some (show bnd (sX8_in (nI f) 1 60 Z) (fun q => some ((if q.1 = 0 then (1 : Int32) else 0), q.2)) = some (0, Z1) from hp)
    obtain ⟨p5, p6⟩ := some_pair p4
    rw [if_neg (by decide), if_neg (by decide), if_neg (by decide), if_neg (by decide), if_neg (by decide), if_neg (by decide), if_neg (by decide), show sX8_in (nI f) 1 60 Z = some z from p3, bnd_s]
    by_cases cz : z.1 = 0
    · rw [if_pos cz] at p5; exact absurd p5 (by decide)
    · rw [if_neg cz, p6, show sX8_passes (nI f) Z1 = some (r, Z2) from he, bnd_s, nm_d]
theorem m_can_1 {k i f w t q : Nat} {Z Z1 : ZZ} (hk : k < 8) (hi : i < 32) (h11 : gI Z 11 i = nI k) (ha : gI Z 12 (3 * i) = nI (if k = 0 then 1 else f)) (hb : gI Z 12 (3 * i + 1) = nI w) (hc : gI Z 12 (3 * i + 2) = nI t)
    (hp : rP k (nI f) (nI w) (nI t) Z = some (nI (kc k q), Z1)) (q1 : 1 ≤ q) (q4 : q ≤ 4) : sX8_cannot (nI i) Z = some (1, Z1) := by
  have v0 : (3 : Int32) * nI i = nI (3 * i) := pk_mul 3 i
  have v1 : nI (3 * i) + 1 = nI (3 * i + 1) := nI_add _ 1
  have v2 : nI (3 * i) + 2 = nI (3 * i + 2) := nI_add _ 2
  have nle := kc_nle (k := k) q1 q4
  have npos := kc_pos (k := k) q1 q4
  have nz : ¬ nI (kc k q) = 0 := nI_ne0 (by omega) (by omega)
  unfold sX8_cannot
  rw [v0, v1, v2, gd_t (vin_n (by omega) (by decide)), nm_d, gd_t (vin_n (by omega) (by decide)), nm_d, gd_t (vin_n hi (by decide)), cl_n (by omega), cl_n (by omega), cl_n (by omega), cl_n (by omega), ha, hb, h11, hc]
  match k, hk with
  | 0, _ =>
    have p' : some ((if gI Z 1 (0 : Int32).toNatClampNeg = 8 then (1 : Int32) else 0), Z) = some (nI (kc 0 q), Z1) := hp
    obtain ⟨p1, p2⟩ := some_pair p'
    rw [if_pos nI_0, gd_t (by decide)]
    by_cases cc : gI Z 1 (0 : Int32).toNatClampNeg = 8
    · rw [if_pos cc, p2]
    · rw [if_neg cc] at p1; exact absurd p1.symm nz
  | 1, _ =>
    rw [if_neg (show ¬ 1 = 0 by decide)]
    rw [if_neg (by decide), if_pos (by decide), gd_t (vin_n (by omega) (by decide)), show sX8_cannotLay (nI f) (nI w) (nI t) Z = some (nI (kc 1 q), Z1) from hp, bnd_s]
    dsimp only
    rw [if_neg nle]
  | 2, _ =>
    rw [if_neg (show ¬ 2 = 0 by decide)]
    rw [if_neg (by decide), if_neg (by decide), if_pos (by decide), show sX8_cannotJoin (nI f) (nI w) Z = some (nI (kc 2 q), Z1) from hp, bnd_s]
    dsimp only
    rw [if_neg nle]
  | 3, _ =>
    rw [if_neg (show ¬ 3 = 0 by decide)]
    obtain ⟨y, p1, p2⟩ := bnd_some (show bnd (sX8_cannotCall (nI f) (nI w) Z) (fun q => bnd (sX8_blocks (nI f) (nI w) q.1 q.2) (fun z => some (q.1, z))) = some (nI (kc 3 q), Z1) from hp)
    obtain ⟨z, p3, p4⟩ := bnd_some p2
    obtain ⟨p5, p6⟩ := some_pair p4
    rw [if_neg (by decide), if_neg (by decide), if_neg (by decide), if_pos (by decide), show sX8_cannotCall (nI f) (nI w) Z = some y from p1, bnd_s, nm_d, show sX8_blocks (nI f) (nI w) y.1 y.2 = some z from p3, bnd_s, p5, p6, if_neg nle]
  | 4, _ =>
    rw [if_neg (show ¬ 4 = 0 by decide)]
    rw [if_neg (by decide), if_neg (by decide), if_neg (by decide), if_neg (by decide), if_pos (by decide), show sX8_cannotHang (nI f) Z = some (nI (kc 4 q), Z1) from hp, bnd_s]
    dsimp only
    rw [if_neg nle]
  | 5, _ =>
    rw [if_neg (show ¬ 5 = 0 by decide)]
    rw [if_neg (by decide), if_neg (by decide), if_neg (by decide), if_neg (by decide), if_neg (by decide), if_pos (by decide), show sX8_cannotCut (nI f) Z = some (nI (kc 5 q), Z1) from hp, bnd_s]
    dsimp only
    rw [if_neg nle]
  | 6, _ =>
    rw [if_neg (show ¬ 6 = 0 by decide)]
    rw [if_neg (by decide), if_neg (by decide), if_neg (by decide), if_neg (by decide), if_neg (by decide), if_neg (by decide), if_pos (by decide), show sX8_cannotMend (nI f) Z = some (nI (kc 6 q), Z1) from hp, bnd_s]
    dsimp only
    rw [if_neg nle]
  | 7, _ =>
    rw [if_neg (show ¬ 7 = 0 by decide)]
    obtain ⟨z, p3, p4⟩ := bnd_some (show bnd (sX8_in (nI f) 1 60 Z) (fun q => some ((if q.1 = 0 then (1 : Int32) else 0), q.2)) = some (nI (kc 7 q), Z1) from hp)
    obtain ⟨p5, p6⟩ := some_pair p4
    rw [if_neg (by decide), if_neg (by decide), if_neg (by decide), if_neg (by decide), if_neg (by decide), if_neg (by decide), if_neg (by decide), show sX8_in (nI f) 1 60 Z = some z from p3, bnd_s]
    by_cases cz : z.1 = 0
    · rw [if_pos cz, p6]
    · rw [if_neg cz] at p5; exact absurd p5.symm nz
theorem cmR_keep {J : Nat} {Zc Zr Zc' Zr' : ZZ} (h : cmR J Zc Zr) (hc : onlyC Zc Zc') (hr : onlyHM Zr Zr') : cmR J Zc' Zr' := fun i hi => by
  obtain ⟨k, f, w, t, q1, q2, q3, q4, q5, q6, q7, q8, q9⟩ := h i hi
  have vc : ∀ z, (z = 9 ∨ z = 10 ∨ z = 11 ∨ z = 12) → gI Zc' z i = gI Zc z i := fun z hz => hc.1 z i (by omega)
  have vr : ∀ z y, (z = 11 ∨ z = 12) → gI Zr' z y = gI Zr z y := fun z y hz => hr.1 z y (by omega) (by omega) (by omega) (by omega) (by omega) (fun q => by omega)
  exact ⟨k, f, w, t, q1, (vc 9 (by decide)).trans q2, (vc 10 (by decide)).trans q3, (vc 11 (by decide)).trans q4, (vc 12 (by decide)).trans q5, (vr 11 _ (by decide)).trans q6, (vr 12 _ (by decide)).trans q7, (vr 12 _ (by decide)).trans q8, (vr 12 _ (by decide)).trans q9⟩
theorem x_prog {J : Nat} (hJ : J ≤ 12) : ∀ (e i n n' : Nat) (N : NN) (W : Nat) (Zc Zr : ZZ), i + e = J → e < n → e < n' → W + e ≤ 7000 → sy N W Zc Zr → bK Zc Zr → gI Zc 7 2 = nI J → gI Zr 0 23 = nI J → cmR J Zc Zr →
    ∃ N' Zc' Zr', iN N' (W + e) ∧ uN N' ∧ bK Zc' Zr' ∧ onlyC Zc Zc' ∧ onlyHM Zr Zr' ∧ rB N' Zc' 19 ∧ rA N' Zr' 1 ∧
      ((sX7_performProgram_L2 n (nI i) Zc = some (-1, Zc') ∧ sX8_run_L31 n' (nI i) Zr = sX8_run_B80 Zr') ∨ ∃ j, j < J ∧ sX7_performProgram_L2 n (nI i) Zc = some (nI j, Zc') ∧ sX8_run_L31 n' (nI i) Zr = sX8_run_B50 (nI j) Zr') := by
  intro e
  induction e with
  | zero =>
    intro i n n' N W Zc Zr hi hn hn' hW ⟨hB, hA, hI, hu⟩ hK h72 h23 hcm
    obtain ⟨n, rfl⟩ : ∃ q, n = q + 1 := ⟨n - 1, by omega⟩
    obtain ⟨n', rfl⟩ : ∃ q, n' = q + 1 := ⟨n' - 1, by omega⟩
    refine ⟨N, Zc, Zr, hI, hu, hK, onlyC_rf _, onlyHM_rf _, hB, hA, Or.inl ⟨?_, ?_⟩⟩
    · rw [sX7_performProgram_L2, h72, if_pos (nI_le (by omega) (by omega))]
    · rw [sX8_run_L31, h23, if_pos (nI_le (by omega) (by omega))]
  | succ e ih =>
    intro i n n' N W Zc Zr hi hn hn' hW hs hK h72 h23 hcm
    obtain ⟨n, rfl⟩ : ∃ q, n = q + 1 := ⟨n - 1, by omega⟩
    obtain ⟨n', rfl⟩ : ∃ q, n' = q + 1 := ⟨n' - 1, by omega⟩
    obtain ⟨k, f, w, t, k8, c9, c10, c11, c12, r11, ra, rb, rc⟩ := hcm i (by omega)
    obtain ⟨q, Zc1, Zr1, p1, p2, p3, p4, p5, p6, p7⟩ := pr_k (a := nI f) (b := nI w) (l := nI t) k8 hs (by omega) hK
    have oc1 := onlyC_J p5
    have or1 := onlyHM_H p6
    have hB1 := rB_J hs.1 hs.2.2.1 p5
    have hA1 := rA_H hs.2.1 p6
    have cl : sX7_performProgram_L2 (n + 1) (nI i) Zc = if nI q = 0 then bnd (sX7_perform (nI k) (nI f) (nI w) (nI t) Zc1) (fun q_12 => nm (nI i + 1) (fun y_13 => sX7_performProgram_L2 n y_13 q_12.2)) else some (nI i, Zc1) := by
      rw [sX7_performProgram_L2, h72, if_neg (nI_ge (by omega) (by omega)), gd_t (vin_n (by omega) (by decide)), nm_d, gd_t (vin_n (by omega) (by decide)), nm_d, gd_t (vin_n (by omega) (by decide)), nm_d, gd_t (vin_n (by omega) (by decide)), nm_d, cl_n (by omega), c9, c10, c11, c12, p1, bnd_s]
    by_cases cq : q = 0
    · subst cq
      rw [kc_0] at p2
      obtain ⟨N2, r, Zc2, Zr2, s1, s2, s3, s4, s5⟩ := p7 rfl Zc1 Zr1 ⟨hB1, hA1, hs.2.2.1, hs.2.2.2⟩ rfl (fun _ => rfl)
      have oc2 := onlyC_tr oc1 (onlyC_P s4)
      have or2 := onlyHM_tr or1 (onlyHM_M s5)
      have hK2 : bK Zc2 Zr2 := bK_keep p4 (fun k j a b => s4.1 k j (by omega)) (s5.1 _ _ (by decide) (by decide) (by decide) (by decide) (fun _ => by decide)) (fun j => s5.1 _ _ (by decide) (by decide) (by decide) (by decide) (fun q => absurd q (by decide)))
      obtain ⟨N', Zc', Zr', t1, t2, t3, t4, t5, t6, t7, t8⟩ := ih (i + 1) n n' N2 (W + 1) Zc2 Zr2 (by omega) (by omega) (by omega) (by omega) s3 hK2 (by rw [oc2.1 _ _ (by decide)]; exact h72) (by rw [or2.1 _ _ (by decide) (by decide) (by decide) (by decide) (by decide) (fun _ => by decide)]; exact h23) (cmR_keep hcm oc2 or2)
      have cst : sX7_performProgram_L2 (n + 1) (nI i) Zc = sX7_performProgram_L2 n (nI (i + 1)) Zc2 := by
        rw [cl, if_pos nI_0, s1, bnd_s, nm_d, ad_n1]
      have rst : sX8_run_L31 (n' + 1) (nI i) Zr = sX8_run_L31 n' (nI (i + 1)) Zr2 := by
        rw [sX8_run_L31, h23, if_neg (nI_ge (by omega) (by omega)), m_can_0 k8 (by omega) r11 ra rb rc (by rw [p6.1 _ _ (by decide) (by decide) (by decide) (by decide) (fun q => absurd q (by decide))]; exact rc) p2 s2, bnd_s]
        dsimp only
        rw [if_pos rfl, nm_d, ad_n1]
      rw [cst, rst]
      refine ⟨N', Zc', Zr', ?_, t2, t3, onlyC_tr oc2 t4, onlyHM_tr or2 t5, t6, t7, t8⟩
      rw [show W + (e + 1) = W + 1 + e by omega]; exact t1
    · refine ⟨N, Zc1, Zr1, iN_mono hs.2.2.1 (by omega), hs.2.2.2, p4, oc1, or1, hB1, hA1, Or.inr ⟨i, by omega, ?_, ?_⟩⟩
      · rw [cl, if_neg (nI_ne0 (by omega) (by omega))]
      · rw [sX8_run_L31, h23, if_neg (nI_ge (by omega) (by omega)), m_can_1 k8 (by omega) r11 ra rb rc p2 (by omega) p3, bnd_s]
        dsimp only
        rw [if_neg (by decide)]
def cdR (e : Nat) : Nat := if e = 2 then 1 else 2
theorem o_run {lw : LW} {W : Nat} {Zc Zr : ZZ} (hG : G lw W Zc Zr) (hW : W + 13 ≤ 7000) : opI lw (W + 13) cdR (sX7_run Zc) (sX8_run Zr) := by
  obtain ⟨N, Hs, n, ⟨hB, hA, hI, hu⟩, hK, rc, rr, ri, rs, ⟨m, tx, e1, e2, e3, e4⟩, rf, ro⟩ := hG
  have hm : okT tx m := ⟨e1, fun j hj => (e4 j hj).2.2⟩
  obtain ⟨Zr1, b1, b2, b3, b4, b5⟩ := m_begin hA
  have cP0 : cP tx m (0, 0) (pI (pI (pI Zc 7 7 0) 7 8 0) 7 2 0) := by
    refine ⟨?_, ?_, ?_, fun j hj => ?_⟩
    · rw [gI_pI_j _ _ _ _ (by decide), gI_pI_j _ _ _ _ (by decide), gI_pI_s]; rfl
    · rw [gI_pI_j _ _ _ _ (by decide), gI_pI_s]; rfl
    · rw [gI_pI_j _ _ _ _ (by decide), gI_pI_j _ _ _ _ (by decide), gI_pI_j _ _ _ _ (by decide)]; exact e2
    · rw [gI_pI_k _ _ _ _ (by decide), gI_pI_k _ _ _ _ (by decide), gI_pI_k _ _ _ _ (by decide)]; exact (e4 j hj).1
  have e3' : gI Zr1 0 20 = nI m := by rw [b4 _ _ (by decide) (fun _ => by decide)]; exact e3
  generalize hZr2 : pI (pI (pI (pI (pI Zr1 0 21 (nI m)) 0 20 0) 0 22 0) 0 23 0) 0 24 0 = Zr2
  have k2 : ∀ k j, (k = 0 → j < 20 ∨ 24 < j) → gI Zr2 k j = gI Zr1 k j := fun k j q => by
    rw [← hZr2, gI_pI_o _ _ (fun e => by have := q e; omega), gI_pI_o _ _ (fun e => by have := q e; omega), gI_pI_o _ _ (fun e => by have := q e; omega), gI_pI_o _ _ (fun e => by have := q e; omega), gI_pI_o _ _ (fun e => by have := q e; omega)]
  have k20 : gI Zr2 0 20 = nI 0 := by
    rw [← hZr2, gI_pI_j _ _ _ _ (by decide), gI_pI_j _ _ _ _ (by decide), gI_pI_j _ _ _ _ (by decide), gI_pI_s]; rfl
  have rQ0 : rQ tx m (0, 0) Zr2 := by
    refine ⟨?_, ?_, ?_, fun j hj => ?_⟩
    · rw [← hZr2, gI_pI_j _ _ _ _ (by decide), gI_pI_j _ _ _ _ (by decide), gI_pI_s]; rfl
    · rw [← hZr2, gI_pI_s]; rfl
    · rw [← hZr2, gI_pI_j _ _ _ _ (by decide), gI_pI_j _ _ _ _ (by decide), gI_pI_j _ _ _ _ (by decide), gI_pI_j _ _ _ _ (by decide), gI_pI_s]
    · rw [k2 _ _ (fun q => absurd q (by decide)), b4 _ _ (by decide) (fun q => absurd q (by decide))]; exact (e4 j hj).2.1
  have k23 : gI Zr2 0 23 = nI 0 := by
    rw [← hZr2, gI_pI_j _ _ _ _ (by decide), gI_pI_s]; rfl
  obtain ⟨r, Zc3, Zr3, x1, x2, x3, x4, x5, x6, x7⟩ := x_parse hm 13 0 0 3000 3000 _ _ (by omega) (by omega) (by omega) (by omega) (Nat.zero_le m) (by decide) cP0 rQ0 k23 (fun i hi => by omega)
  have ecp : sX4_parse Zc = some (r, Zc3) := by
    unfold sX4_parse
    rw [nm_d, nm_d, nm_d]; exact x1
  have erp : sX8_parse Zr1 = some Zr3 := by
    unfold sX8_parse
    rw [e3', nm_d, nm_d, nm_d, nm_d, nm_d, hZr2]; exact x2
  have c3 : ∀ k j, k ≠ 7 → (k < 9 ∨ 12 < k) → gI Zc3 k j = gI Zc k j := fun k j q1 q2 => by
    rw [x4.1 k j q1 q2, gI_pI_k _ _ _ _ q1, gI_pI_k _ _ _ _ q1, gI_pI_k _ _ _ _ q1]
  have l3 : ∀ k, gL Zc3 k = gL Zc k := fun k => x4.2 k
  have r3 : ∀ k j, k ≠ 2 → k ≠ 11 → k ≠ 12 → (k = 0 → j ≠ 8 ∧ (j < 20 ∨ 24 < j)) → gI Zr3 k j = gI Zr k j := fun k j q2 q11 q12 q0 => by
    rw [x5.1 k j q11 q12 (fun e => (q0 e).2), k2 k j (fun e => (q0 e).2), b4 k j q2 (fun e => (q0 e).1)]
  have r38 : gI Zr3 0 8 = nI 0 := by rw [x6 8 (by decide), k2 0 8 (fun _ => by decide)]; exact b3
  have r320 : gI Zr3 0 20 = nI 0 := by rw [x6 20 (by decide)]; exact k20
  have r32 : rA N Zr3 2 := fun j hj => by
    rw [x5.1 _ _ (by decide) (by decide) (fun q => absurd q (by decide)), k2 _ _ (fun q => absurd q (by decide))]; exact b2 j hj
  have hB3 : rB N Zc3 19 := rB_keep hB hI.1.2.2.2.1 (fun k j a b => c3 k j (by omega) (by omega)) (l3 19)
  have hA3 : rA N Zr3 1 := fun j hj => by rw [r3 _ _ (by decide) (by decide) (by decide) (fun q => absurd q (by decide))]; exact hA j hj
  have hK3 : bK Zc3 Zr3 := bK_keep hK (fun k j a b => c3 k j (by omega) (by omega)) (r3 _ _ (by decide) (by decide) (by decide) (fun _ => by decide)) (fun j => r3 _ _ (by decide) (by decide) (by decide) (fun q => absurd q (by decide)))
  have rest : ∀ (Zc4 Zr4 : ZZ) (Hs2 : Nat → NN) (n2 W2 : Nat) (N4 : NN), W ≤ W2 → (∀ k j, (k = 0 ∧ j = 8 ∨ k = 39 ∨ (39 ≤ k ∧ k < 59)) → gI Zc4 k j = gI Zc3 k j) → gL Zc4 39 = gL Zc3 39 → gI Zc4 7 1 = gI Zc3 7 1 → (∀ k j, (k = 3 ∨ k = 9 ∨ (k = 0 ∧ (j = 14 ∨ j = 16 ∨ j = 20))) → gI Zr4 k j = gI Zr3 k j) → fK Zc4 Zr4 → hKc Hs2 n2 Zc4 → hKr Hs2 n2 Zr4 → hKi Hs2 n2 W2 → bK Zc4 Zr4 → rB N4 Zc4 19 → rA N4 Zr4 1 → iN N4 W2 → uN N4 → G lw W2 Zc4 Zr4 := fun Zc4 Zr4 Hs2 n2 W2 N4 hw hc hl h71 hr hf h1 h2 h3 h4 h5 h6 h7 h8 => by
    refine ⟨N4, Hs2, n2, ⟨h5, h6, h7, h8⟩, h4, h1, h2, h3, ?_, ?_, hf, ?_⟩
    · obtain ⟨v, v1, a, b, c⟩ := rs
      refine ⟨v, v1, by rw [hc _ _ (by decide), c3 _ _ (by decide) (by decide)]; exact a, by rw [hr _ _ (by decide), r3 _ _ (by decide) (by decide) (by decide) (fun _ => by decide)]; exact b, fun hv => ?_⟩
      obtain ⟨Ns, n1, n2, n3, n4⟩ := c hv
      refine ⟨Ns, rB_keep n1 n3.1.2.2.2.1 (fun k i k1 k2 => by rw [hc k i (by omega), c3 k i (by omega) (by omega)]) (hl.trans (l3 39)), fun j hj => by rw [hr _ _ (by omega), r3 _ _ (by decide) (by decide) (by decide) (fun q => absurd q (by decide))]; exact n2 j hj, iN_mono n3 hw, n4⟩
    · exact ⟨0, tx, by decide, h71.trans x3, by rw [hr _ _ (by decide)]; exact r320, fun j hj => by omega⟩
    · obtain ⟨g1, g2, g3⟩ := ro
      exact ⟨g1, by rw [hr _ _ (by decide), r3 _ _ (by decide) (by decide) (by decide) (fun _ => by decide)]; exact g2, fun j hj => by rw [hr _ _ (by omega), r3 _ _ (by decide) (by decide) (by decide) (fun q => absurd q (by decide))]; exact g3 j hj⟩
  have f9 := rf
  obtain ⟨f1, f2, f3, f4⟩ := rf
  have hc3k : hKc Hs n Zc3 := hKc_keep rc ri (fun k j q => c3 k j (by omega) (by omega)) (fun k _ => l3 k)
  have hr3k : hKr Hs n Zr3 := hKr_keep rr (r3 _ _ (by decide) (by decide) (by decide) (fun _ => by decide)) (fun j => r3 _ _ (by decide) (by decide) (by decide) (fun q => absurd q (by decide)))
  have c309 : gI Zc3 0 9 = gI Zc 0 9 := c3 _ _ (by decide) (by decide)
  have c310 : gI Zc3 0 10 = gI Zc 0 10 := c3 _ _ (by decide) (by decide)
  have r310 : gI Zr3 0 10 = gI Zr 0 10 := r3 _ _ (by decide) (by decide) (by decide) (fun _ => by decide)
  have r311 : gI Zr3 0 11 = gI Zr 0 11 := r3 _ _ (by decide) (by decide) (by decide) (fun _ => by decide)
  rcases x7 with ⟨hr1, y24, J, hJ, j1, j2, j3⟩ | ⟨q, hq, hr1, y24, y22⟩
  · subst hr1
    obtain ⟨Z5, p1, p2, p3⟩ := p_copy (b0 := 59) (by decide) (by decide) hB3 hI
    have hB5 : rB N Z5 19 := rB_keep hB3 hI.1.2.2.2.1 (fun k j a b => p3.1 k j (by omega)) (p3.2 19 (by decide))
    have hK5 : bK Z5 Zr3 := bK_keep hK3 (fun k j a b => p3.1 k j (by omega)) rfl (fun _ => rfl)
    have j3' : cmR J Z5 Zr3 := fun i hi => by
      obtain ⟨k, f, w, t, q1, q2, q3, q4, q5, q6⟩ := j3 i hi
      exact ⟨k, f, w, t, q1, (p3.1 _ _ (by decide)).trans q2, (p3.1 _ _ (by decide)).trans q3, (p3.1 _ _ (by decide)).trans q4, (p3.1 _ _ (by decide)).trans q5, q6⟩
    obtain ⟨N', Z6, Zr6, t1, t2, t3, t4, t5, t6, t7, t8⟩ := x_prog hJ J 0 3000 3000 N W Z5 Zr3 (by omega) (by omega) (by omega) (by omega) ⟨hB5, hA3, hI, hu⟩ hK5 ((p3.1 _ _ (by decide)).trans j1) j2 j3'
    have hbef : rB N Z6 59 := rB_keep p2 hI.1.2.2.2.1 (fun k j a b => t4.1 k j (by omega)) (t4.2 59 (by decide))
    have c6 : ∀ k j, (k < 3 ∨ 38 < k ∧ k < 59 ∨ 78 < k) → gI Z6 k j = gI Zc3 k j := fun k j q => by
      rw [t4.1 k j (by omega), p3.1 k j (by omega)]
    have l6 : ∀ k, k ≠ 19 → k ≠ 59 → gL Z6 k = gL Zc3 k := fun k q1 q2 => (t4.2 k q1).trans (p3.2 k q2)
    have c671 : gI Z6 7 1 = gI Zc3 7 1 := by rw [t4.1 _ _ (by decide), p3.1 _ _ (by decide)]
    have c672 : gI Z6 7 2 = nI J := by rw [t4.1 _ _ (by decide), p3.1 _ _ (by decide)]; exact j1
    have hKc6 : hKc Hs n Z6 := hKc_keep hc3k ri (fun k j q => c6 k j (by omega)) (fun k q => l6 k (by omega) (by omega))
    have r6 : ∀ k j, k ≠ 1 → k ≠ 5 → k ≠ 6 → k ≠ 7 → k ≠ 8 → (k = 0 → j ≠ 12 ∧ j ≠ 13) → gI Zr6 k j = gI Zr3 k j := t5.1
    have hKr6 : hKr Hs n Zr6 := hKr_keep hr3k (r6 _ _ (by decide) (by decide) (by decide) (by decide) (by decide) (fun _ => by decide)) (fun j => r6 _ _ (by decide) (by decide) (by decide) (by decide) (by decide) (fun q => absurd q (by decide)))
    have hA26 : rA N Zr6 2 := fun j hj => by rw [r6 _ _ (by decide) (by decide) (by decide) (by decide) (by decide) (fun q => absurd q (by decide))]; exact r32 j hj
    have r68 : gI Zr6 0 8 = nI 0 := by rw [r6 _ _ (by decide) (by decide) (by decide) (by decide) (by decide) (fun _ => by decide)]; exact r38
    have ecs : sX7_run Zc = bnd (sX7_performProgram Z5) (fun q_5 => nm (q_5.1) (fun y_6 => if y_6 = (-1) then bnd (sX2_keep 59 q_5.2) (fun q_8 => some (.inr (gI q_8 7 2), q_8)) else bnd (sX6_copyFrom 19 59 q_5.2) (fun q_9 => nm (pI q_9 0 10 y_6) (fun Z_10 => some (.inl 4, Z_10))))) := by
      unfold sX7_run
      rw [ecp, bnd_s, nm_d, if_pos rfl, p1, bnd_s]
    have ers : sX8_run Zr = sX8_run_L31 3000 0 Zr3 := by
      unfold sX8_run
      rw [b1, bnd_s, erp, bnd_s, y24, if_pos nI_0]
    rcases t8 with ⟨t8, t9⟩ | ⟨j, hj, t8, t9⟩
    · obtain ⟨Z7, u1, u2, u3⟩ := c_keep hKc6 ri (by decide) hbef hI
      obtain ⟨Zr7, v1, v2, v3, v4⟩ := m_commit (x := nI J) rc.1 hKr6 hA26
      refine ⟨.inr (nI J), Z7, nI J, Zr7, ?_, ?_, ?_, Or.inr ⟨rfl, ?_⟩⟩
      · rw [ecs]
        unfold sX7_performProgram
        rw [show sX7_performProgram_L2 3000 0 Z5 = some (-1, Z6) from t8, bnd_s, nm_d, if_pos rfl]
        show bnd (sX2_keep 59 Z6) _ = _
        rw [u1, bnd_s, u3.1 _ _ (by decide) (by decide), c672]
      · rw [ers]
        refine Eq.trans (show sX8_run_L31 3000 0 Zr3 = _ from t9) ?_
        unfold sX8_run_B80
        rw [r6 _ _ (by decide) (by decide) (by decide) (by decide) (by decide) (fun _ => by decide), j2, v1, bnd_s]
      · have hpi := hKi_pu rc.1 ri hI hu
        refine rest Z7 Zr7 (puH Hs n N) (puN n) (W + 13) N' (by omega) (fun k j q => by rw [u3.1 k j (by omega) (by omega)]; exact c6 k j (by omega)) ((u3.2 39 (by decide)).trans (l6 39 (by decide) (by decide))) (by rw [u3.1 _ _ (by decide) (by decide)]; exact c671) (fun k j q => by rw [v3 k j (by omega) (fun _ => by omega)]; exact r6 k j (by omega) (by omega) (by omega) (by omega) (by omega) (fun _ => by omega)) ?_ u2 v2 (hKi_mono hpi (by omega)) (bK_keep t3 (fun k j a b => u3.1 k j (by omega) (by omega)) (v3 _ _ (by decide) (fun _ => by decide)) (fun j => v3 _ _ (by decide) (fun q => absurd q (by decide)))) (rB_keep t6 t1.1.2.2.2.1 (fun k j a b => u3.1 k j (by omega) (by omega)) (u3.2 19 (by decide))) (fun j hj => by rw [v3 _ _ (by decide) (fun q => absurd q (by decide))]; exact t7 j hj) (iN_mono t1 (by omega)) t2
        have a9 : gI Z7 0 9 = gI Zc 0 9 := by rw [u3.1 _ _ (by decide) (by decide), c6 _ _ (by decide)]; exact c309
        have a10 : gI Z7 0 10 = gI Zc 0 10 := by rw [u3.1 _ _ (by decide) (by decide), c6 _ _ (by decide)]; exact c310
        have d10 : gI Zr7 0 10 = gI Zr 0 10 := by rw [v3 _ _ (by decide) (fun _ => by decide), r6 _ _ (by decide) (by decide) (by decide) (by decide) (by decide) (fun _ => by decide)]; exact r310
        have d11 : gI Zr7 0 11 = gI Zr 0 11 := by rw [v3 _ _ (by decide) (fun _ => by decide), r6 _ _ (by decide) (by decide) (by decide) (by decide) (by decide) (fun _ => by decide)]; exact r311
        exact ⟨by rw [d10, a9]; exact f1, by rw [d11, a10]; exact f2, by rw [a9]; exact f3, by rw [a10]; exact f4⟩
      · rw [v3 _ _ (by decide) (fun _ => by decide)]; exact r68
    · obtain ⟨Z7, u1, u2, u3⟩ := p_copy (b0 := 19) (by decide) (by decide) hbef hI
      obtain ⟨Zr7, v1, v2, v3, v4⟩ := m_cp22 (t0 := 2) (t2 := 1) (c1 := 0) (c3 := 0) (Z := Zr6) (by decide) (by decide) (by omega) (by omega) (by omega)
      have rr7 : ∀ k i, k ≠ 1 → gI Zr7 k i = gI Zr6 k i := fun k i q => v3 k i (fun e => absurd e q)
      refine ⟨.inl 4, pI Z7 0 10 (nI j), 0, pI (pI Zr7 0 11 (nI j)) 0 8 2, ?_, ?_, ?_, Or.inl ⟨4, rfl, by decide, by decide, gI_pI_s _ _ _ _⟩⟩
      · rw [ecs]
        unfold sX7_performProgram
        rw [show sX7_performProgram_L2 3000 0 Z5 = some (nI j, Z6) from t8, bnd_s, nm_d]
        dsimp only
        rw [if_neg (ne_m1 (by omega)), u1, bnd_s, nm_d]
      · rw [ers]
        refine Eq.trans (show sX8_run_L31 3000 0 Zr3 = _ from t9) ?_
        unfold sX8_run_B50
        rw [show sX8_copy_2_2 2 0 1 0 Zr6 = some Zr7 from v1, bnd_s, nm_d]; rfl
      · have o0 : ∀ k i, (k = 0 → i ≠ 8 ∧ i ≠ 11) → gI (pI (pI Zr7 0 11 (nI j)) 0 8 2) k i = gI Zr7 k i := fun k i q => by
          rw [gI_pI_o _ _ (fun e => (q e).1), gI_pI_o _ _ (fun e => (q e).2)]
        have oc0 : ∀ k i, (k = 0 → i ≠ 10) → gI (pI Z7 0 10 (nI j)) k i = gI Z7 k i := fun k i q => gI_pI_o _ _ q
        refine rest _ _ Hs n (W + 13) N (by omega) (fun k i q => by rw [oc0 k i (fun e => by omega), u3.1 k i (by omega)]; exact c6 k i (by omega)) ((u3.2 39 (by decide)).trans (l6 39 (by decide) (by decide))) (by rw [oc0 _ _ (fun e => absurd e (by decide)), u3.1 _ _ (by decide)]; exact c671) (fun k i q => by rw [o0 k i (fun e => by omega), rr7 k i (by omega)]; exact r6 k i (by omega) (by omega) (by omega) (by omega) (by omega) (fun _ => by omega)) ?_ (hKc_keep hKc6 ri (fun k i q => by rw [oc0 k i (fun e => by omega)]; exact u3.1 k i (by omega)) (fun k q => u3.2 k (by omega))) (hKr_keep hKr6 (by rw [o0 _ _ (fun _ => by decide)]; exact rr7 _ _ (by decide)) (fun i => by rw [o0 _ _ (fun e => absurd e (by decide))]; exact rr7 _ _ (by decide))) (hKi_mono ri (by omega)) (bK_keep t3 (fun k i a b => by rw [oc0 k i (fun e => by omega)]; exact u3.1 k i (by omega)) (by rw [o0 _ _ (fun _ => by decide)]; exact rr7 _ _ (by decide)) (fun i => by rw [o0 _ _ (fun e => absurd e (by decide))]; exact rr7 _ _ (by decide))) (rB_keep u2 hI.1.2.2.2.1 (fun k i a b => oc0 k i (fun e => by omega)) rfl) (fun i hi => ?_) (iN_mono hI (by omega)) hu
        · have a9 : gI (pI Z7 0 10 (nI j)) 0 9 = gI Zc 0 9 := by rw [oc0 _ _ (fun _ => by decide), u3.1 _ _ (by decide), c6 _ _ (by decide)]; exact c309
          have a10 : gI (pI Z7 0 10 (nI j)) 0 10 = nI j := gI_pI_s _ _ _ _
          have d10 : gI (pI (pI Zr7 0 11 (nI j)) 0 8 2) 0 10 = gI Zr 0 10 := by rw [o0 _ _ (fun _ => by decide), rr7 _ _ (by decide), r6 _ _ (by decide) (by decide) (by decide) (by decide) (by decide) (fun _ => by decide)]; exact r310
          have d11 : gI (pI (pI Zr7 0 11 (nI j)) 0 8 2) 0 11 = nI j := by rw [gI_pI_j _ _ _ _ (by decide), gI_pI_s]
          exact ⟨by rw [d10, a9]; exact f1, by rw [d11, a10], by rw [a9]; exact f3, by rw [a10]; exact Or.inr ⟨j, by omega, rfl⟩⟩
        · rw [o0 _ _ (fun e => absurd e (by decide))]
          have := v2 i hi
          rw [Nat.zero_add] at this
          rw [this]; exact hA26 i hi
  · subst hr1
    refine ⟨.inl 2, pI Zc3 0 9 (nI q), 0, pI (pI Zr3 0 10 (nI q)) 0 8 1, ?_, ?_, ?_, Or.inl ⟨2, rfl, by decide, by decide, gI_pI_s _ _ _ _⟩⟩
    · unfold sX7_run
      rw [ecp, bnd_s, nm_d]
      dsimp only
      rw [if_neg (ne_m1 (by omega)), nm_d]
    · unfold sX8_run
      rw [b1, bnd_s, erp, bnd_s, y24, if_neg n10, y22, nm_d]; rfl
    · have o0 : ∀ k i, (k = 0 → i ≠ 8 ∧ i ≠ 10) → gI (pI (pI Zr3 0 10 (nI q)) 0 8 1) k i = gI Zr3 k i := fun k i z => by
        rw [gI_pI_o _ _ (fun e => (z e).1), gI_pI_o _ _ (fun e => (z e).2)]
      have oc0 : ∀ k i, (k = 0 → i ≠ 9) → gI (pI Zc3 0 9 (nI q)) k i = gI Zc3 k i := fun k i z => gI_pI_o _ _ z
      refine rest _ _ Hs n (W + 13) N (by omega) (fun k i z => oc0 k i (fun e => by omega)) rfl (oc0 _ _ (fun e => absurd e (by decide))) (fun k i z => o0 k i (fun e => by omega)) ?_ (hKc_keep hc3k ri (fun k i z => oc0 k i (fun e => by omega)) (fun k _ => rfl)) (hKr_keep hr3k (o0 _ _ (fun _ => by decide)) (fun i => o0 _ _ (fun e => absurd e (by decide)))) (hKi_mono ri (by omega)) (bK_keep hK3 (fun k i a b => oc0 k i (fun e => by omega)) (o0 _ _ (fun _ => by decide)) (fun i => o0 _ _ (fun e => absurd e (by decide)))) (rB_keep hB3 hI.1.2.2.2.1 (fun k i a b => oc0 k i (fun e => by omega)) rfl) (fun i hi => by rw [o0 _ _ (fun e => absurd e (by decide))]; exact hA3 i hi) (iN_mono hI (by omega)) hu
      have a9 : gI (pI Zc3 0 9 (nI q)) 0 9 = nI q := gI_pI_s _ _ _ _
      have a10 : gI (pI Zc3 0 9 (nI q)) 0 10 = gI Zc 0 10 := (oc0 _ _ (fun _ => by decide)).trans c310
      have d10 : gI (pI (pI Zr3 0 10 (nI q)) 0 8 1) 0 10 = nI q := by rw [gI_pI_j _ _ _ _ (by decide), gI_pI_s]
      have d11 : gI (pI (pI Zr3 0 10 (nI q)) 0 8 1) 0 11 = gI Zr 0 11 := (o0 _ _ (fun _ => by decide)).trans r311
      exact ⟨by rw [d10, a9], by rw [d11, a10]; exact f2, by rw [a9]; exact Or.inr ⟨q, by omega, rfl⟩, by rw [a10]; exact f4⟩
