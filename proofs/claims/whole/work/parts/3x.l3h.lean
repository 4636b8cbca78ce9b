/-! looking at the network, at subscribers and calls -/
theorem opI_e {lw : LW} {W e : Nat} {cd : Nat → Nat} {rr : Int32} {Zc Zr Zc' Zr' : ZZ} {oc : Option ((Nat ⊕ Int32) × ZZ)} {or : Option (Int32 × ZZ)} (hG : G lw W Zc Zr) (hc : oc = some (.inl e, Zc')) (hr : or = some (rr, Zr')) (o1 : onlyR Zc Zc') (o2 : onlyX Zr Zr') (h1 : 1 ≤ e) (h6 : e ≤ 6) (h8 : gI Zr' 0 8 = nI (cd e)) : opI lw W cd oc or :=
  ⟨.inl e, Zc', rr, Zr', hc, hr, G_look hG o1 o2, Or.inl ⟨e, rfl, h1, h6, h8⟩⟩
theorem opI_v {lw : LW} {W : Nat} {cd : Nat → Nat} {v : Int32} {Zc Zr Zc' Zr' : ZZ} {oc : Option ((Nat ⊕ Int32) × ZZ)} {or : Option (Int32 × ZZ)} (hG : G lw W Zc Zr) (hc : oc = some (.inr v, Zc')) (hr : or = some (v, Zr')) (o1 : onlyR Zc Zc') (o2 : onlyX Zr Zr') (h8 : gI Zr' 0 8 = nI 0) : opI lw W cd oc or :=
  ⟨.inr v, Zc', v, Zr', hc, hr, G_look hG o1 o2, Or.inr ⟨rfl, h8⟩⟩
theorem opP_v {lw : LW} {W : Nat} {v : Int32} {Zc Zr Zc' Zr' : ZZ} {oc or : Option (Int32 × ZZ)} (hG : G lw W Zc Zr) (hc : oc = some (v, Zc')) (hr : or = some (v, Zr')) (o1 : onlyR Zc Zc') (o2 : onlyX Zr Zr') : opP lw W oc or :=
  ⟨v, Zc', Zr', hc, hr, G_look hG o1 o2⟩
def cd1 (e : Nat) : Nat := if e = 5 then 2 else e
def cd2 (_ : Nat) : Nat := 1
theorem chk_t {Z : ZZ} : sX8_checked 1 Z = some (0, pI Z 0 8 0) := by
  unfold sX8_checked
  rw [if_neg (by decide), nm_d, gI_pI_s]
theorem chk_f {Z : ZZ} : sX8_checked 0 Z = some (1, pI Z 0 8 1) := by
  unfold sX8_checked
  rw [if_pos (by decide), nm_d, gI_pI_s]
theorem rA_8 {N : NN} {Z : ZZ} {x : Int32} (h : rA N Z 1) : rA N (pI Z 0 8 x) 1 := fun j hj => by
  rw [gI_pI_k _ _ _ _ (by decide)]; exact h j hj
theorem nt_t {N : NN} {Z : ZZ} {x : Int32} (hB : rB N Z 19) (h : viB x (N 1) = true) : sX7_needTrunk x Z = some (.inr (), Z) := by
  unfold sX7_needTrunk
  rw [p_hTr (by decide) (rB19.1 hB).1.2.1, h, bnd_s]; rfl
theorem nt_f {N : NN} {Z : ZZ} {x : Int32} (hB : rB N Z 19) (h : viB x (N 1) = false) : sX7_needTrunk x Z = some (.inl 1, Z) := by
  unfold sX7_needTrunk
  rw [p_hTr (by decide) (rB19.1 hB).1.2.1, h, bnd_s]; rfl
theorem ns_t {N : NN} {Z : ZZ} {x : Int32} (hB : rB N Z 19) (h : viB x (N 2) = true) : sX7_needSubscriber x Z = some (.inr (), Z) := by
  unfold sX7_needSubscriber
  rw [p_hSu (by decide) (rB19.1 hB).1.2.2.1, h, bnd_s]; rfl
theorem ns_f {N : NN} {Z : ZZ} {x : Int32} (hB : rB N Z 19) (h : viB x (N 2) = false) : sX7_needSubscriber x Z = some (.inl 1, Z) := by
  unfold sX7_needSubscriber
  rw [p_hSu (by decide) (rB19.1 hB).1.2.2.1, h, bnd_s]; rfl
theorem thr_inr {T V : Type} (v : V) (Z : ZZ) (f : V → ZZ → Option ((Nat ⊕ T) × ZZ)) : thr ((.inr v : Nat ⊕ V), Z) f = f v Z := rfl
theorem thr_inl {T V : Type} (e : Nat) (Z : ZZ) (f : V → ZZ → Option ((Nat ⊕ T) × ZZ)) : thr ((.inl e : Nat ⊕ V), Z) f = some (.inl e, Z) := rfl
theorem nm1p : ¬ (0 : Int32) ≤ -1 := by decide
theorem nm2p : ¬ (2 : Int32) ≤ 0 := by decide
theorem nm1l : (-1 : Int32) < 0 := by decide
section Q
variable {lw : LW} {W : Nat} {x y : Int32} {Zc Zr : ZZ}
theorem o_switches (hG : G lw W Zc Zr) : opP lw W (sX7_switches Zc) (sX8_switches Zr) := by
  have hG0 := hG
  obtain ⟨N, Hs, n, ⟨hB, hA, hI, hu⟩, -⟩ := hG
  refine opP_v hG0 (v := nI (N 0)) (Zc' := Zc) (Zr' := pI Zr 0 8 0) ?_ ?_ (onlyR_rf _) (onlyX_8 _ _)
  · unfold sX7_switches
    rw [show gI Zc (19 + 1) 0 = _ from (rB19.1 hB).1.1]
  · unfold sX8_switches sX8_plain
    rw [gd_t (by decide), g0 hA]; rfl
theorem o_trunks (hG : G lw W Zc Zr) : opP lw W (sX7_trunks Zc) (sX8_trunks Zr) := by
  have hG0 := hG
  obtain ⟨N, Hs, n, ⟨hB, hA, hI, hu⟩, -⟩ := hG
  refine opP_v hG0 (v := nI (N 1)) (Zc' := Zc) (Zr' := pI Zr 0 8 0) ?_ ?_ (onlyR_rf _) (onlyX_8 _ _)
  · unfold sX7_trunks
    rw [show gI Zc (19 + 1) 1 = _ from (rB19.1 hB).1.2.1]
  · unfold sX8_trunks sX8_plain
    rw [gd_t (by decide), g1 hA]; rfl
theorem o_subscribers (hG : G lw W Zc Zr) : opP lw W (sX7_subscribers Zc) (sX8_subscribers Zr) := by
  have hG0 := hG
  obtain ⟨N, Hs, n, ⟨hB, hA, hI, hu⟩, -⟩ := hG
  refine opP_v hG0 (v := nI (N 2)) (Zc' := Zc) (Zr' := pI Zr 0 8 0) ?_ ?_ (onlyR_rf _) (onlyX_8 _ _)
  · unfold sX7_subscribers
    rw [(rB19.1 hB).1.2.2.1]
  · unfold sX8_subscribers sX8_plain
    rw [gd_t (by decide), g2 hA]; rfl
theorem o_calls (hG : G lw W Zc Zr) : opP lw W (sX7_calls Zc) (sX8_calls Zr) := by
  have hG0 := hG
  obtain ⟨N, Hs, n, ⟨hB, hA, hI, hu⟩, -⟩ := hG
  refine opP_v hG0 (v := nI (N 3)) (Zc' := Zc) (Zr' := pI Zr 0 8 0) ?_ ?_ (onlyR_rf _) (onlyX_8 _ _)
  · unfold sX7_calls
    rw [(rB19.1 hB).1.2.2.2.1]
  · unfold sX8_calls sX8_plain
    rw [gd_t (by decide), g3 hA]; rfl
theorem o_blockedCalls (hG : G lw W Zc Zr) : opP lw W (sX7_blockedCalls Zc) (sX8_blockedCalls Zr) := by
  have hG0 := hG
  obtain ⟨N, Hs, n, -, ⟨m, hm, h1, h2, h3⟩, -⟩ := hG
  refine opP_v hG0 (v := nI m) (Zc' := Zc) (Zr' := pI Zr 0 8 0) ?_ ?_ (onlyR_rf _) (onlyX_8 _ _)
  · unfold sX7_blockedCalls
    rw [h1]
  · unfold sX8_blockedCalls sX8_plain
    rw [h2]; rfl
theorem o_trunkLength (hG : G lw W Zc Zr) : opI lw W cd1 (sX7_trunkLength x Zc) (sX8_trunkLength x Zr) := by
  have hG0 := hG
  obtain ⟨N, Hs, n, ⟨hB, hA, hI, hu⟩, -⟩ := hG
  have h16 := hI.1.2.1
  cases v : viB x (N 1) with
  | false =>
    refine opI_e (e := 1) (rr := 0) (Zc' := Zc) (Zr' := pI Zr 0 8 1) hG0 ?_ ?_ (onlyR_rf _) (onlyX_8 _ _) (by decide) (by decide) (gI_pI_s _ _ _ _)
    · unfold sX7_trunkLength
      rw [nt_f hB v, bnd_s]; rfl
    · unfold sX8_trunkLength
      rw [m_isTr hA (by omega), v, bnd_s]
      show bnd (sX8_checked 0 Zr) _ = _
      rw [chk_f, bnd_s]; rfl
  | true =>
    obtain ⟨i, i1, rfl⟩ := viB_t (by omega) v
    refine opI_v (v := nI (nT N i 2)) (Zc' := Zc) (Zr' := pI Zr 0 8 0) hG0 ?_ ?_ (onlyR_rf _) (onlyX_8 _ _) (gI_pI_s _ _ _ _)
    · unfold sX7_trunkLength
      rw [nt_t hB v, bnd_s, thr_inr, gd_t (vin_n (by omega) (by decide)), cl_n (by omega), show gI Zc (19 + 1 + 3) i = _ from ((rB19.1 hB).2.2.1 i (by omega)).2.2.1]
    · unfold sX8_trunkLength
      rw [m_isTr hA (by omega), v, bnd_s]
      show bnd (sX8_checked 1 Zr) _ = _
      rw [chk_t, bnd_s, if_pos le00, p_t2 (rA_8 hA) (by omega), bnd_s]
theorem o_minutesOn (hG : G lw W Zc Zr) : opI lw W cd1 (sX7_minutesOn x Zc) (sX8_minutesOn x Zr) := by
  have hG0 := hG
  obtain ⟨N, Hs, n, ⟨hB, hA, hI, hu⟩, -⟩ := hG
  have h16 := hI.1.2.1
  cases v : viB x (N 1) with
  | false =>
    refine opI_e (e := 1) (rr := 0) (Zc' := Zc) (Zr' := pI Zr 0 8 1) hG0 ?_ ?_ (onlyR_rf _) (onlyX_8 _ _) (by decide) (by decide) (gI_pI_s _ _ _ _)
    · unfold sX7_minutesOn
      rw [nt_f hB v, bnd_s]; rfl
    · unfold sX8_minutesOn
      rw [m_isTr hA (by omega), v, bnd_s]
      show bnd (sX8_checked 0 Zr) _ = _
      rw [chk_f, bnd_s]; rfl
  | true =>
    obtain ⟨i, i1, rfl⟩ := viB_t (by omega) v
    refine opI_v (v := nI (nT N i 4)) (Zc' := Zc) (Zr' := pI Zr 0 8 0) hG0 ?_ ?_ (onlyR_rf _) (onlyX_8 _ _) (gI_pI_s _ _ _ _)
    · unfold sX7_minutesOn
      rw [nt_t hB v, bnd_s, thr_inr, gd_t (vin_n (by omega) (by decide)), cl_n (by omega), show gI Zc (19 + 1 + 4) i = _ from ((rB19.1 hB).2.2.1 i (by omega)).2.2.2]
    · unfold sX8_minutesOn
      rw [m_isTr hA (by omega), v, bnd_s]
      show bnd (sX8_checked 1 Zr) _ = _
      rw [chk_t, bnd_s, if_pos le00, p_t4 (rA_8 hA) (by omega), bnd_s]
theorem o_isCut (hG : G lw W Zc Zr) : opI lw W cd1 (sX7_isCut x Zc) (sX8_isCut x Zr) := by
  have hG0 := hG
  obtain ⟨N, Hs, n, ⟨hB, hA, hI, hu⟩, -⟩ := hG
  have h16 := hI.1.2.1
  cases v : viB x (N 1) with
  | false =>
    refine opI_e (e := 1) (rr := 0) (Zc' := Zc) (Zr' := pI Zr 0 8 1) hG0 ?_ ?_ (onlyR_rf _) (onlyX_8 _ _) (by decide) (by decide) (gI_pI_s _ _ _ _)
    · unfold sX7_isCut
      rw [nt_f hB v, bnd_s]; rfl
    · unfold sX8_isCut
      rw [m_isTr hA (by omega), v, bnd_s]
      show bnd (sX8_checked 0 Zr) _ = _
      rw [chk_f, bnd_s]; rfl
  | true =>
    obtain ⟨i, i1, rfl⟩ := viB_t (by omega) v
    have hfl := (hI.2.1 i i1).2.2.2.2.2.1
    refine opI_v (v := if nT N i 3 = 1 then 1 else 0) (Zc' := Zc) (Zr' := pI Zr 0 8 0) hG0 ?_ ?_ (onlyR_rf _) (onlyX_8 _ _) (gI_pI_s _ _ _ _)
    · unfold sX7_isCut
      rw [nt_t hB v, bnd_s, thr_inr, show gI Zc (19 + 1) 6 = _ from (rB19.1 hB).2.1, p_hasBit (Nat.lt_trans (msk_lt _ 16) (by decide)) (by omega), bnd_s, gd_t (bq_if _), msk_bit, decide_eq_true (show i < 16 by omega), Bool.true_and]
      simp only [decide_eq_true_eq]
    · unfold sX8_isCut
      rw [m_isTr hA (by omega), v, bnd_s]
      show bnd (sX8_checked 1 Zr) _ = _
      rw [chk_t, bnd_s]
      dsimp only
      rw [if_pos rfl, p_t3 (rA_8 hA) (by omega), bnd_s]
      simp only [eq_nl (show nT N i 3 < 2 ^ 31 by omega) (show 1 < 2 ^ 31 by decide)]
      split <;> rfl
theorem o_otherEnd (hG : G lw W Zc Zr) : opI lw W cd1 (sX7_otherEnd x y Zc) (sX8_otherEnd x y Zr) := by
  have hG0 := hG
  obtain ⟨N, Hs, n, ⟨hB, hA, hI, hu⟩, -⟩ := hG
  have h16 := hI.1.2.1
  have h8 := hI.1.1
  cases v : viB x (N 1) with
  | false =>
    refine opI_e (e := 1) (rr := 0) (Zc' := Zc) (Zr' := pI Zr 0 8 1) hG0 ?_ ?_ (onlyR_rf _) (onlyX_8 _ _) (by decide) (by decide) (gI_pI_s _ _ _ _)
    · unfold sX7_otherEnd
      rw [nt_f hB v, bnd_s]; rfl
    · unfold sX8_otherEnd sX8_otherEnd_B27
      rw [m_isTr hA (by omega), v, bnd_s]
      simp only [Bool.false_eq_true, if_false, if_true, nm_d, gI_pI_s]
      rfl
  | true =>
    obtain ⟨i, i1, rfl⟩ := viB_t (by omega) v
    obtain ⟨q0, q1, -⟩ := hI.2.1 i i1
    obtain ⟨t0, t1, -⟩ := (rB19.1 hB).2.2.1 i (by omega)
    have ea : sX3_acrossFrom (19 + 1) (nI i) y Zc = some (if nI (nT N i 0) = y then nI (nT N i 1) else if nI (nT N i 1) = y then nI (nT N i 0) else -1, Zc) := by
      show sX3_acrossFrom 20 (nI i) y Zc = _
      unfold sX3_acrossFrom
      rw [gd_t (by decide), if_neg (nI_pos (by omega)), (rB19.1 hB).1.2.1, if_pos (nI_lt i1 (by omega)), gd_t (vin_n (by omega) (by decide)), gd_t (vin_n (by omega) (by decide)), gd_t (vin_n (by omega) (by decide)), gd_t (vin_n (by omega) (by decide)), cl_n (by omega)]
      show (if gI Zc 21 i = y then some (gI Zc 22 i, Zc) else if gI Zc 22 i = y then some (gI Zc 21 i, Zc) else some (-1, Zc)) = _
      rw [t0, t1]
      split
      · rfl
      · split <;> rfl
    have et : sX8_touches (nI i) y Zr = some (if nI (nT N i 0) = y then 1 else if nI (nT N i 1) = y then 1 else 0, Zr) := by
      unfold sX8_touches
      rw [p_t0 hA (by omega), bnd_s]
      dsimp only
      rw [p_t1 hA (by omega), bnd_s]
      dsimp only
      split
      · rfl
      · split <;> rfl
    have eb : ∀ Z, rA N Z 1 → sX8_beyond (nI i) y Z = some (nI (nT N i 0 + nT N i 1) - y, Z) := fun Z h => by
      unfold sX8_beyond
      rw [p_t0 h (by omega), bnd_s, p_t1 h (by omega), bnd_s, nI_add]
    by_cases c0 : nI (nT N i 0) = y
    · refine opI_v (v := nI (nT N i 1)) (Zc' := Zc) (Zr' := pI Zr 0 8 0) hG0 ?_ ?_ (onlyR_rf _) (onlyX_8 _ _) (gI_pI_s _ _ _ _)
      · unfold sX7_otherEnd
        rw [nt_t hB v, bnd_s, thr_inr, ea, bnd_s, if_pos c0, nm_d, if_neg (ne_m1 (by omega))]
      · unfold sX8_otherEnd sX8_otherEnd_B27
        rw [m_isTr hA (by omega), v, bnd_s]
        simp only [if_true]
        rw [if_neg (by decide), et, bnd_s, if_pos c0]
        dsimp only
        rw [if_neg (by decide), nm_d, gI_pI_s, if_pos le00, eb _ (rA_8 hA), bnd_s, ← c0, Nat.add_comm, ← nI_add, Int32.add_sub_cancel]
    · by_cases c1 : nI (nT N i 1) = y
      · refine opI_v (v := nI (nT N i 0)) (Zc' := Zc) (Zr' := pI Zr 0 8 0) hG0 ?_ ?_ (onlyR_rf _) (onlyX_8 _ _) (gI_pI_s _ _ _ _)
        · unfold sX7_otherEnd
          rw [nt_t hB v, bnd_s, thr_inr, ea, bnd_s, if_neg c0, if_pos c1, nm_d, if_neg (ne_m1 (by omega))]
        · unfold sX8_otherEnd sX8_otherEnd_B27
          rw [m_isTr hA (by omega), v, bnd_s]
          simp only [if_true]
          rw [if_neg (by decide), et, bnd_s, if_neg c0, if_pos c1]
          dsimp only
          rw [if_neg (by decide), nm_d, gI_pI_s, if_pos le00, eb _ (rA_8 hA), bnd_s, ← c1, ← nI_add, Int32.add_sub_cancel]
      · refine opI_e (e := 2) (rr := 0) (Zc' := Zc) (Zr' := pI Zr 0 8 2) hG0 ?_ ?_ (onlyR_rf _) (onlyX_8 _ _) (by decide) (by decide) (gI_pI_s _ _ _ _)
        · unfold sX7_otherEnd
          rw [nt_t hB v, bnd_s, thr_inr, ea, bnd_s, if_neg c0, if_neg c1, nm_d, if_pos rfl]
        · unfold sX8_otherEnd sX8_otherEnd_B27
          rw [m_isTr hA (by omega), v, bnd_s]
          simp only [if_true]
          rw [if_neg (by decide), et, bnd_s, if_neg c0, if_neg c1]
          dsimp only
          rw [if_pos rfl, nm_d, gI_pI_s, if_neg (by decide)]
theorem o_userOf (hG : G lw W Zc Zr) : opI lw W cd1 (sX7_userOf x Zc) (sX8_userOf x Zr) := by
  have hG0 := hG
  obtain ⟨N, Hs, n, ⟨hB, hA, hI, hu⟩, -⟩ := hG
  have h16 := hI.1.2.1
  have h5 := hI.1.2.2.2.1
  cases v : viB x (N 1) with
  | false =>
    refine opI_e (e := 1) (rr := 0) (Zc' := Zc) (Zr' := pI Zr 0 8 1) hG0 ?_ ?_ (onlyR_rf _) (onlyX_8 _ _) (by decide) (by decide) (gI_pI_s _ _ _ _)
    · unfold sX7_userOf
      rw [nt_f hB v, bnd_s]; rfl
    · unfold sX8_userOf sX8_userOf_B26
      rw [m_isTr hA (by omega), v, bnd_s]
      simp only [Bool.false_eq_true, if_false, if_true, nm_d, gI_pI_s]
      rfl
  | true =>
    obtain ⟨i, i1, rfl⟩ := viB_t (by omega) v
    by_cases c : usr N i < N 3
    · have hc := (rB19.1 hB).2.2.2.2 _ c
      refine opI_v (v := nI (nC N (usr N i) 0)) (Zc' := Zc) (Zr' := pI Zr 0 8 0) hG0 ?_ ?_ (onlyR_rf _) (onlyX_8 _ _) (gI_pI_s _ _ _ _)
      · unfold sX7_userOf
        rw [nt_t hB v, bnd_s, thr_inr, p_userIndexOf hB hI (by omega), bnd_s, if_pos c, nm_d, if_neg (ne_m1 (by omega)), gd_t (vin_n (by omega) (by decide)), elC19 (by omega), hc.1]
      · unfold sX8_userOf sX8_userOf_B26
        rw [m_isTr hA (by omega), v, bnd_s]
        simp only [if_true]
        rw [if_neg (by decide), p_callOn hA hI (by omega), bnd_s, if_pos c, if_pos (nI_pos' (by omega)), nm_d, gI_pI_s, if_pos le00, p_callOn (rA_8 hA) hI (by omega), bnd_s, if_pos c, p_c_x (x := 0) (rA_8 hA) (o := 0) (by omega) rfl, bnd_s]
    · refine opI_e (e := 5) (rr := 0) (Zc' := Zc) (Zr' := pI Zr 0 8 2) hG0 ?_ ?_ (onlyR_rf _) (onlyX_8 _ _) (by decide) (by decide) (gI_pI_s _ _ _ _)
      · unfold sX7_userOf
        rw [nt_t hB v, bnd_s, thr_inr, p_userIndexOf hB hI (by omega), bnd_s, if_neg c, nm_d, if_pos rfl]
      · unfold sX8_userOf sX8_userOf_B26
        rw [m_isTr hA (by omega), v, bnd_s]
        simp only [if_true]
        rw [if_neg (by decide), p_callOn hA hI (by omega), bnd_s, if_neg c, if_neg nm1p, nm_d, gI_pI_s, if_neg (by decide)]
theorem ofUs_f {N : NN} {o : Int32} (hA : rA N Zr 1) (h10 : N 2 ≤ 10) (v : viB x (N 2) = false) : sX8_ofUser x o Zr = some (0, pI Zr 0 8 1) := by
  unfold sX8_ofUser
  rw [m_isUs hA (by omega), v, bnd_s]
  show bnd (sX8_checked 0 Zr) _ = _
  rw [chk_f, bnd_s]; rfl
theorem ofUs_t {N : NN} {i o : Nat} {ox : Int32} (hA : rA N Zr 1) (h10 : N 2 ≤ 10) (hi : i < N 2) (ho : o < 3) (hx : ox = nI o) : sX8_ofUser (nI i) ox Zr = some (nI (nU N i o), pI Zr 0 8 0) := by
  unfold sX8_ofUser
  rw [m_isUs hA (by omega), viB_n hi (by omega), bnd_s]
  show bnd (sX8_checked 1 Zr) _ = _
  rw [chk_t, bnd_s, if_pos le00, p_u_x (rA_8 hA) (o := o) (by omega) hx, bnd_s]
theorem o_home (hG : G lw W Zc Zr) : opI lw W cd1 (sX7_home x Zc) (sX8_home x Zr) := by
  have hG0 := hG
  obtain ⟨N, Hs, n, ⟨hB, hA, hI, hu⟩, -⟩ := hG
  have h10 := hI.1.2.2.1
  cases v : viB x (N 2) with
  | false =>
    refine opI_e (e := 1) (rr := 0) (Zc' := Zc) (Zr' := pI Zr 0 8 1) hG0 ?_ ?_ (onlyR_rf _) (onlyX_8 _ _) (by decide) (by decide) (gI_pI_s _ _ _ _)
    · unfold sX7_home
      rw [ns_f hB v, bnd_s]; rfl
    · unfold sX8_home
      rw [ofUs_f hA h10 v, bnd_s]
  | true =>
    obtain ⟨i, i1, rfl⟩ := viB_t (by omega) v
    refine opI_v (v := nI (nU N i 0)) (Zc' := Zc) (Zr' := pI Zr 0 8 0) hG0 ?_ ?_ (onlyR_rf _) (onlyX_8 _ _) (gI_pI_s _ _ _ _)
    · unfold sX7_home
      rw [ns_t hB v, bnd_s, thr_inr, c_home hB hI i1, bnd_s]
    · unfold sX8_home
      rw [ofUs_t (o := 0) (ox := 0) hA h10 i1 (by decide) rfl, bnd_s]
theorem o_tariff (hG : G lw W Zc Zr) : opI lw W cd1 (sX7_tariff x Zc) (sX8_tariff x Zr) := by
  have hG0 := hG
  obtain ⟨N, Hs, n, ⟨hB, hA, hI, hu⟩, -⟩ := hG
  have h10 := hI.1.2.2.1
  cases v : viB x (N 2) with
  | false =>
    refine opI_e (e := 1) (rr := 0) (Zc' := Zc) (Zr' := pI Zr 0 8 1) hG0 ?_ ?_ (onlyR_rf _) (onlyX_8 _ _) (by decide) (by decide) (gI_pI_s _ _ _ _)
    · unfold sX7_tariff
      rw [ns_f hB v, bnd_s]; rfl
    · unfold sX8_tariff
      rw [ofUs_f hA h10 v, bnd_s]
  | true =>
    obtain ⟨i, i1, rfl⟩ := viB_t (by omega) v
    refine opI_v (v := nI (nU N i 1)) (Zc' := Zc) (Zr' := pI Zr 0 8 0) hG0 ?_ ?_ (onlyR_rf _) (onlyX_8 _ _) (gI_pI_s _ _ _ _)
    · unfold sX7_tariff
      rw [ns_t hB v, bnd_s, thr_inr, gd_t (vin_n (by omega) (by decide)), cl_n (by omega), show gI Zc (19 + 7) i = _ from ((rB19.1 hB).2.2.2.1 i (by omega)).2.1]
    · unfold sX8_tariff
      rw [ofUs_t (o := 1) (ox := 1) hA h10 i1 (by decide) rfl, bnd_s]
theorem o_bill (hG : G lw W Zc Zr) : opI lw W cd1 (sX7_bill x Zc) (sX8_bill x Zr) := by
  have hG0 := hG
  obtain ⟨N, Hs, n, ⟨hB, hA, hI, hu⟩, -⟩ := hG
  have h10 := hI.1.2.2.1
  cases v : viB x (N 2) with
  | false =>
    refine opI_e (e := 1) (rr := 0) (Zc' := Zc) (Zr' := pI Zr 0 8 1) hG0 ?_ ?_ (onlyR_rf _) (onlyX_8 _ _) (by decide) (by decide) (gI_pI_s _ _ _ _)
    · unfold sX7_bill
      rw [ns_f hB v, bnd_s]; rfl
    · unfold sX8_bill
      rw [ofUs_f hA h10 v, bnd_s]
  | true =>
    obtain ⟨i, i1, rfl⟩ := viB_t (by omega) v
    refine opI_v (v := nI (nU N i 2)) (Zc' := Zc) (Zr' := pI Zr 0 8 0) hG0 ?_ ?_ (onlyR_rf _) (onlyX_8 _ _) (gI_pI_s _ _ _ _)
    · unfold sX7_bill
      rw [ns_t hB v, bnd_s, thr_inr, gd_t (vin_n (by omega) (by decide)), cl_n (by omega), show gI Zc (19 + 8) i = _ from ((rB19.1 hB).2.2.2.1 i (by omega)).2.2]
    · unfold sX8_bill
      rw [ofUs_t (o := 2) (ox := 2) hA h10 i1 (by decide) rfl, bnd_s]
theorem o_isTalking (hG : G lw W Zc Zr) : opI lw W cd1 (sX7_isTalking x Zc) (sX8_isTalking x Zr) := by
  have hG0 := hG
  obtain ⟨N, Hs, n, ⟨hB, hA, hI, hu⟩, -⟩ := hG
  have h10 := hI.1.2.2.1
  have h5 := hI.1.2.2.2.1
  cases v : viB x (N 2) with
  | false =>
    refine opI_e (e := 1) (rr := 0) (Zc' := Zc) (Zr' := pI Zr 0 8 1) hG0 ?_ ?_ (onlyR_rf _) (onlyX_8 _ _) (by decide) (by decide) (gI_pI_s _ _ _ _)
    · unfold sX7_isTalking
      rw [ns_f hB v, bnd_s]; rfl
    · unfold sX8_isTalking
      rw [m_isUs hA (by omega), v, bnd_s]
      show bnd (sX8_checked 0 Zr) _ = _
      rw [chk_f, bnd_s]; rfl
  | true =>
    obtain ⟨i, i1, rfl⟩ := viB_t (by omega) v
    refine opI_v (v := if talks N i < N 3 then 1 else 0) (Zc' := Zc) (Zr' := pI Zr 0 8 0) hG0 ?_ ?_ (onlyR_rf _) (onlyX_8 _ _) (gI_pI_s _ _ _ _)
    · unfold sX7_isTalking
      rw [ns_t hB v, bnd_s, thr_inr, p_callIndexOf hB hI (by omega), bnd_s]
      by_cases c : talks N i < N 3
      · rw [if_pos c, if_pos c, if_neg (ne_m1 (by omega))]
      · rw [if_neg c, if_neg c, if_pos rfl]
    · unfold sX8_isTalking
      rw [m_isUs hA (by omega), v, bnd_s]
      show bnd (sX8_checked 1 Zr) _ = _
      rw [chk_t, bnd_s]
      dsimp only
      rw [if_pos rfl, m_callOf (rA_8 hA) hI (by omega), bnd_s]
      by_cases c : talks N i < N 3
      · rw [if_pos c, if_pos c, if_neg (nI_pos (by omega))]
      · rw [if_neg c, if_neg c, if_pos nm1l]
theorem nc_cases {N : NN} (hB : rB N Zc 19) (hA : rA N Zr 1) (hI : iN N W) : (sX7_needCall x Zc = some (.inl 1, Zc) ∧ sX8_talks x Zr = some (0, pI Zr 0 8 1)) ∨ (sX7_needCall x Zc = some (.inl 5, Zc) ∧ sX8_talks x Zr = some (0, pI Zr 0 8 2)) ∨
    (∃ u i, x = nI u ∧ u < N 2 ∧ i < N 3 ∧ (nC N i 0 = u ∨ nC N i 1 = u) ∧ sX7_needCall x Zc = some (.inr (29 + 2 * i), Zc) ∧ sX8_talks x Zr = some (nI i, pI Zr 0 8 0)) := by
  have h10 := hI.1.2.2.1
  have h5 := hI.1.2.2.2.1
  cases v : viB x (N 2) with
  | false =>
    left
    constructor
    · unfold sX7_needCall
      rw [ns_f hB v, bnd_s]; rfl
    · unfold sX8_talks sX8_cannotHang
      rw [m_isUs hA (by omega), v, bnd_s]
      simp only [Bool.false_eq_true, if_false, if_true, bnd_s, nm_d, gI_pI_s]
      rfl
  | true =>
    right
    obtain ⟨i, i1, rfl⟩ := viB_t (by omega) v
    by_cases c : talks N i < N 3
    · right
      refine ⟨i, talks N i, rfl, i1, c, of_decide_eq_true (fnd_lt (p := fun k => decide (nC N k 0 = i ∨ nC N k 1 = i)) (n := N 3) c).1, ?_, ?_⟩
      · unfold sX7_needCall
        rw [ns_t hB v, bnd_s, thr_inr, p_callIndexOf hB hI (by omega), bnd_s, if_pos c, nm_d, if_neg (ne_m1 (by omega)), gd_t (vin_n (by omega) (by decide)), elC19 (by omega)]
      · unfold sX8_talks sX8_cannotHang
        rw [m_isUs hA (by omega), v, bnd_s]
        simp only [if_true]
        rw [if_neg (by decide), m_callOf hA hI (by omega), bnd_s, if_pos c, if_pos (nI_pos' (by omega)), bnd_s, nm_d, gI_pI_s, if_pos le00, m_callOf (rA_8 hA) hI (by omega), bnd_s, if_pos c]
    · left
      constructor
      · unfold sX7_needCall
        rw [ns_t hB v, bnd_s, thr_inr, p_callIndexOf hB hI (by omega), bnd_s, if_neg c, nm_d, if_pos rfl]
      · unfold sX8_talks sX8_cannotHang
        rw [m_isUs hA (by omega), v, bnd_s]
        simp only [if_true]
        rw [if_neg (by decide), m_callOf hA hI (by omega), bnd_s, if_neg c, if_neg nm1p, bnd_s, nm_d, gI_pI_s, if_neg nm2p]
theorem o_partner (hG : G lw W Zc Zr) : opI lw W cd1 (sX7_partner x Zc) (sX8_partner x Zr) := by
  have hG0 := hG
  obtain ⟨N, Hs, n, ⟨hB, hA, hI, hu⟩, -⟩ := hG
  have h5 := hI.1.2.2.2.1
  have h10 := hI.1.2.2.1
  rcases nc_cases (x := x) hB hA hI with ⟨h1, h2⟩ | ⟨h1, h2⟩ | ⟨u, i, rfl, u1, i1, hc, h1, h2⟩
  · refine opI_e (e := 1) (rr := 0) (Zc' := Zc) (Zr' := pI Zr 0 8 1) hG0 (by unfold sX7_partner; rw [h1, bnd_s]; rfl) (by unfold sX8_partner; rw [h2, bnd_s, nm_d, gI_pI_s, if_neg (by decide)]) (onlyR_rf _) (onlyX_8 _ _) (by decide) (by decide) (gI_pI_s _ _ _ _)
  · refine opI_e (e := 5) (rr := 0) (Zc' := Zc) (Zr' := pI Zr 0 8 2) hG0 (by unfold sX7_partner; rw [h1, bnd_s]; rfl) (by unfold sX8_partner; rw [h2, bnd_s, nm_d, gI_pI_s, if_neg (by decide)]) (onlyR_rf _) (onlyX_8 _ _) (by decide) (by decide) (gI_pI_s _ _ _ _)
  · obtain ⟨b0, b1, -⟩ := (rB19.1 hB).2.2.2.2 i i1
    obtain ⟨c0, c1, c2, -⟩ := hI.2.2.2.2.2.1 i i1
    refine opI_v (v := if nC N i 0 = u then nI (nC N i 1) else nI (nC N i 0)) (Zc' := Zc) (Zr' := pI Zr 0 8 0) hG0 ?_ ?_ (onlyR_rf _) (onlyX_8 _ _) (gI_pI_s _ _ _ _)
    · unfold sX7_partner
      rw [h1, bnd_s, thr_inr, gd_t (sh29 (by omega)), b0, b1]
      simp only [eq_nn (show nC N i 0 < 2 ^ 31 by omega) (show u < 2 ^ 31 by omega)]
      split <;> rfl
    · unfold sX8_partner
      rw [h2, bnd_s, nm_d, gI_pI_s, if_pos le00, p_c_x (x := 0) (rA_8 hA) (o := 0) (by omega) rfl, bnd_s, p_c_x (x := 1) (rA_8 hA) (o := 1) (by omega) rfl, bnd_s]
      by_cases c : nC N i 0 = u
      · rw [if_pos c, c, nI_add, Nat.add_comm, ← nI_add, Int32.add_sub_cancel]
      · have c' : nC N i 1 = u := hc.elim (fun q => absurd q c) id
        rw [if_neg c, c', Int32.add_sub_cancel]
theorem o_minutes (hG : G lw W Zc Zr) : opI lw W cd1 (sX7_minutes x Zc) (sX8_minutes x Zr) := by
  have hG0 := hG
  obtain ⟨N, Hs, n, ⟨hB, hA, hI, hu⟩, -⟩ := hG
  have h5 := hI.1.2.2.2.1
  rcases nc_cases (x := x) hB hA hI with ⟨h1, h2⟩ | ⟨h1, h2⟩ | ⟨u, i, rfl, u1, i1, hc, h1, h2⟩
  · refine opI_e (e := 1) (rr := 0) (Zc' := Zc) (Zr' := pI Zr 0 8 1) hG0 (by unfold sX7_minutes; rw [h1, bnd_s]; rfl) (by unfold sX8_minutes; rw [h2, bnd_s, nm_d, gI_pI_s, if_neg (by decide)]) (onlyR_rf _) (onlyX_8 _ _) (by decide) (by decide) (gI_pI_s _ _ _ _)
  · refine opI_e (e := 5) (rr := 0) (Zc' := Zc) (Zr' := pI Zr 0 8 2) hG0 (by unfold sX7_minutes; rw [h1, bnd_s]; rfl) (by unfold sX8_minutes; rw [h2, bnd_s, nm_d, gI_pI_s, if_neg (by decide)]) (onlyR_rf _) (onlyX_8 _ _) (by decide) (by decide) (gI_pI_s _ _ _ _)
  · obtain ⟨b0, b1, b2, -⟩ := (rB19.1 hB).2.2.2.2 i i1
    refine opI_v (v := nI (nC N i 2)) (Zc' := Zc) (Zr' := pI Zr 0 8 0) hG0 ?_ ?_ (onlyR_rf _) (onlyX_8 _ _) (gI_pI_s _ _ _ _)
    · unfold sX7_minutes
      rw [h1, bnd_s, thr_inr, gd_t (sh29 (by omega)), b2]
    · unfold sX8_minutes
      rw [h2, bnd_s, nm_d, gI_pI_s, if_pos le00, p_c_x (x := 2) (rA_8 hA) (o := 2) (by omega) rfl, bnd_s]
theorem o_routeSize (hG : G lw W Zc Zr) : opI lw W cd1 (sX7_routeSize x Zc) (sX8_routeSize x Zr) := by
  have hG0 := hG
  obtain ⟨N, Hs, n, ⟨hB, hA, hI, hu⟩, -⟩ := hG
  have h5 := hI.1.2.2.2.1
  rcases nc_cases (x := x) hB hA hI with ⟨h1, h2⟩ | ⟨h1, h2⟩ | ⟨u, i, rfl, u1, i1, hc, h1, h2⟩
  · refine opI_e (e := 1) (rr := 0) (Zc' := Zc) (Zr' := pI Zr 0 8 1) hG0 (by unfold sX7_routeSize; rw [h1, bnd_s]; rfl) (by unfold sX8_routeSize; rw [h2, bnd_s, nm_d, gI_pI_s, if_neg (by decide)]) (onlyR_rf _) (onlyX_8 _ _) (by decide) (by decide) (gI_pI_s _ _ _ _)
  · refine opI_e (e := 5) (rr := 0) (Zc' := Zc) (Zr' := pI Zr 0 8 2) hG0 (by unfold sX7_routeSize; rw [h1, bnd_s]; rfl) (by unfold sX8_routeSize; rw [h2, bnd_s, nm_d, gI_pI_s, if_neg (by decide)]) (onlyR_rf _) (onlyX_8 _ _) (by decide) (by decide) (gI_pI_s _ _ _ _)
  · obtain ⟨b0, b1, b2, b3, -⟩ := (rB19.1 hB).2.2.2.2 i i1
    refine opI_v (v := nI (nC N i 3)) (Zc' := Zc) (Zr' := pI Zr 0 8 0) hG0 ?_ ?_ (onlyR_rf _) (onlyX_8 _ _) (gI_pI_s _ _ _ _)
    · unfold sX7_routeSize
      rw [h1, bnd_s, thr_inr, gd_t (sh29 (by omega)), b3]
    · unfold sX8_routeSize
      rw [h2, bnd_s, nm_d, gI_pI_s, if_pos le00, p_c_x (x := 3) (rA_8 hA) (o := 3) (by omega) rfl, bnd_s]
theorem o_routeTrunk (hG : G lw W Zc Zr) : opI lw W cd1 (sX7_routeTrunk x y Zc) (sX8_routeTrunk x y Zr) := by
  have hG0 := hG
  obtain ⟨N, Hs, n, ⟨hB, hA, hI, hu⟩, -⟩ := hG
  have h5 := hI.1.2.2.2.1
  rcases nc_cases (x := x) hB hA hI with ⟨h1, h2⟩ | ⟨h1, h2⟩ | ⟨u, i, rfl, u1, i1, hc, h1, h2⟩
  · refine opI_e (e := 1) (rr := 0) (Zc' := Zc) (Zr' := pI Zr 0 8 1) hG0 (by unfold sX7_routeTrunk; rw [h1, bnd_s]; rfl) (by unfold sX8_routeTrunk; rw [h2, bnd_s, nm_d, gI_pI_s, if_neg (by decide)]) (onlyR_rf _) (onlyX_8 _ _) (by decide) (by decide) (gI_pI_s _ _ _ _)
  · refine opI_e (e := 5) (rr := 0) (Zc' := Zc) (Zr' := pI Zr 0 8 2) hG0 (by unfold sX7_routeTrunk; rw [h1, bnd_s]; rfl) (by unfold sX8_routeTrunk; rw [h2, bnd_s, nm_d, gI_pI_s, if_neg (by decide)]) (onlyR_rf _) (onlyX_8 _ _) (by decide) (by decide) (gI_pI_s _ _ _ _)
  · obtain ⟨b0, b1, b2, b3, b4, b5⟩ := (rB19.1 hB).2.2.2.2 i i1
    obtain ⟨-, -, -, -, g7, -⟩ := hI.2.2.2.2.2.1 i i1
    have er : sX8_routeTrunk (nI u) y Zr = bnd (some ((if viB y (nC N i 3) then (1 : Int32) else 0), pI Zr 0 8 0)) (fun q_5 => if q_5.1 = 0 then bnd (sX8_fail 2 q_5.2) (fun q_7 => some (q_7.1, q_7.2)) else bnd (sX8_c (nI i) (4 + y) q_5.2) (fun q_8 => some (q_8.1, q_8.2))) := by
      unfold sX8_routeTrunk
      rw [h2, bnd_s, nm_d, gI_pI_s, if_pos le00, p_c_x (x := 3) (rA_8 hA) (o := 3) (by omega) rfl, bnd_s, p_in0 (by omega)]
    cases v : viB y (nC N i 3) with
    | false =>
      refine opI_e (e := 5) (rr := 0) (Zc' := Zc) (Zr' := pI (pI Zr 0 8 0) 0 8 2) hG0 ?_ (by rw [er, v, bnd_s]; rfl) (onlyR_rf _) (onlyX_tr (onlyX_8 _ _) (onlyX_8 _ _)) (by decide) (by decide) (gI_pI_s _ _ _ _)
      unfold sX7_routeTrunk
      rw [h1, bnd_s, thr_inr, gd_t (sh29 (by omega)), b3]
      by_cases c : y < 0
      · rw [if_pos c]
      · have : ¬ y < nI (nC N i 3) := fun q => by
          obtain ⟨j, j1, rfl⟩ := nI_of c
          rw [lt_nn j1 (by omega)] at q
          rw [viB_n q (by omega)] at v; cases v
        rw [if_neg c, if_neg this]
    | true =>
      obtain ⟨j, j1, rfl⟩ := viB_t (by omega) v
      refine opI_v (v := nI (nC N i (4 + j))) (Zc' := Zc) (Zr' := pI Zr 0 8 0) hG0 ?_ ?_ (onlyR_rf _) (onlyX_8 _ _) (gI_pI_s _ _ _ _)
      · unfold sX7_routeTrunk
        rw [h1, bnd_s, thr_inr, gd_t (sh29 (by omega)), b3, if_neg (nI_pos (by omega)), if_pos (nI_lt j1 (by omega)), gd_t (vin_n (by omega) (by decide)), cl_n (by omega), b5 j j1]
      · rw [er, v, bnd_s]
        simp only [if_true]
        rw [if_neg (by decide), show (4 : Int32) + nI j = nI (4 + j) from nI_add 4 j, p_c_x (rA_8 hA) (o := 4 + j) (by omega) rfl, bnd_s]
theorem o_chargeNow (hG : G lw W Zc Zr) (hW : W ≤ 7000) : opI lw W cd1 (sX7_chargeNow x Zc) (sX8_chargeNow x Zr) := by
  have hG0 := hG
  obtain ⟨N, Hs, n, ⟨hB, hA, hI, hu⟩, -⟩ := hG
  have h5 := hI.1.2.2.2.1
  rcases nc_cases (x := x) hB hA hI with ⟨h1, h2⟩ | ⟨h1, h2⟩ | ⟨u, i, rfl, u1, i1, hc, h1, h2⟩
  · refine opI_e (e := 1) (rr := 0) (Zc' := Zc) (Zr' := pI Zr 0 8 1) hG0 (by unfold sX7_chargeNow; rw [h1, bnd_s]; rfl) (by unfold sX8_chargeNow; rw [h2, bnd_s, nm_d, gI_pI_s, if_neg (by decide)]) (onlyR_rf _) (onlyX_8 _ _) (by decide) (by decide) (gI_pI_s _ _ _ _)
  · refine opI_e (e := 5) (rr := 0) (Zc' := Zc) (Zr' := pI Zr 0 8 2) hG0 (by unfold sX7_chargeNow; rw [h1, bnd_s]; rfl) (by unfold sX8_chargeNow; rw [h2, bnd_s, nm_d, gI_pI_s, if_neg (by decide)]) (onlyR_rf _) (onlyX_8 _ _) (by decide) (by decide) (gI_pI_s _ _ _ _)
  · refine opI_v (v := nI (chg N i)) (Zc' := Zc) (Zr' := pI Zr 0 8 0) hG0 ?_ ?_ (onlyR_rf _) (onlyX_8 _ _) (gI_pI_s _ _ _ _)
    · unfold sX7_chargeNow
      rw [h1, bnd_s, thr_inr, gd_t (sh29 (by omega)), c_charge hB hI hW i1 (sh29 (by omega)) ((rB19.1 hB).2.2.2.2 i i1), bnd_s]
    · unfold sX8_chargeNow
      rw [h2, bnd_s, nm_d, gI_pI_s, if_pos le00, m_charge (rA_8 hA) hI hW i1, bnd_s]
end Q
