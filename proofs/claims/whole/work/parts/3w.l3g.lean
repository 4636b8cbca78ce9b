/-! class and reference, taken together -/
abbrev LW : Type := Nat × (Nat → Nat)
def sK (W : Nat) (Zc Zr : ZZ) : Prop := ∃ v : Nat, v ≤ 1 ∧ gI Zc 0 8 = nI v ∧ gI Zr 0 14 = nI v ∧ (v = 1 → ∃ Ns, rB Ns Zc 39 ∧ rA Ns Zr 3 ∧ iN Ns W ∧ uN Ns)
def tK (Zc Zr : ZZ) : Prop := ∃ (m : Nat) (tx : Nat → Nat), m ≤ 60 ∧ gI Zc 7 1 = nI m ∧ gI Zr 0 20 = nI m ∧ ∀ j, j < m → gI Zc 8 j = nI (tx j) ∧ gI Zr 10 j = nI (tx j) ∧ tx j < 65536
def pos1 (x : Int32) : Prop := x = -1 ∨ ∃ p : Nat, p < 2 ^ 31 ∧ x = nI p
def fK (Zc Zr : ZZ) : Prop := gI Zr 0 10 = gI Zc 0 9 ∧ gI Zr 0 11 = gI Zc 0 10 ∧ pos1 (gI Zc 0 9) ∧ pos1 (gI Zc 0 10)
def oK (lw : LW) (Zr : ZZ) : Prop := lw.1 ≤ 80 ∧ gI Zr 0 16 = nI lw.1 ∧ ∀ j, j < lw.1 → gI Zr 9 j = nI (lw.2 j) ∧ lw.2 j < 128
def reS (Hs : Nat → NN) (n W : Nat) (lw : LW) (Zc Zr : ZZ) : Prop := hKc Hs n Zc ∧ hKr Hs n Zr ∧ hKi Hs n W ∧ sK W Zc Zr ∧ tK Zc Zr ∧ fK Zc Zr ∧ oK lw Zr
def G (lw : LW) (W : Nat) (Zc Zr : ZZ) : Prop := ∃ N Hs n, sy N W Zc Zr ∧ bK Zc Zr ∧ reS Hs n W lw Zc Zr
def onlyC (Z Z' : ZZ) : Prop := (∀ k j, (k < 3 ∨ (6 < k ∧ k < 13) ∨ 38 < k) → gI Z' k j = gI Z k j) ∧ ∀ k, k ≠ 19 → gL Z' k = gL Z k
theorem onlyC_rf (Z : ZZ) : onlyC Z Z := ⟨fun _ _ _ => rfl, fun _ _ => rfl⟩
theorem onlyC_tr {A B C : ZZ} (h1 : onlyC A B) (h2 : onlyC B C) : onlyC A C := ⟨fun k j h => (h2.1 k j h).trans (h1.1 k j h), fun k h => (h2.2 k h).trans (h1.2 k h)⟩
theorem onlyC_J {A B : ZZ} (h : onlyJ A B) : onlyC A B := ⟨fun k j hk => h.1 k j (by omega), fun k _ => h.2 k⟩
theorem onlyC_P {A B : ZZ} (h : onlyP A B) : onlyC A B := ⟨fun k j hk => h.1 k j (by omega), h.2⟩
theorem onlyC_R {A B : ZZ} (h : onlyR A B) : onlyC A B := ⟨fun k j hk => h.1 k j (by omega), fun k _ => h.2 k⟩
def onlyD (Z Z' : ZZ) : Prop := (∀ k j, k ≠ 1 → k ≠ 2 → k ≠ 5 → k ≠ 6 → k ≠ 7 → k ≠ 8 → (k = 0 → j ≠ 8 ∧ j ≠ 12 ∧ j ≠ 13) → gI Z' k j = gI Z k j) ∧ ∀ k, gL Z' k = gL Z k
theorem onlyD_rf (Z : ZZ) : onlyD Z Z := ⟨fun _ _ _ _ _ _ _ _ _ => rfl, fun _ => rfl⟩
theorem onlyD_tr {A B C : ZZ} (h1 : onlyD A B) (h2 : onlyD B C) : onlyD A C := ⟨fun k j a b c d e f g => (h2.1 k j a b c d e f g).trans (h1.1 k j a b c d e f g), fun k => (h2.2 k).trans (h1.2 k)⟩
theorem onlyD_M {A B : ZZ} (h : onlyM A B) : onlyD A B := ⟨fun k j a _ _ d e f g => h.1 k j a d e f (fun q => (g q).2.2), h.2⟩
theorem onlyD_H {A B : ZZ} (h : onlyH A B) : onlyD A B := ⟨fun k j _ _ c d e f g => h.1 k j c d e f (fun q => (g q).2), h.2⟩
def onlyX (Z Z' : ZZ) : Prop := (∀ k j, k ≠ 6 → k ≠ 7 → k ≠ 8 → (k = 0 → j ≠ 8 ∧ j ≠ 13) → gI Z' k j = gI Z k j) ∧ ∀ k, gL Z' k = gL Z k
theorem onlyX_rf (Z : ZZ) : onlyX Z Z := ⟨fun _ _ _ _ _ _ => rfl, fun _ => rfl⟩
theorem onlyX_tr {A B C : ZZ} (h1 : onlyX A B) (h2 : onlyX B C) : onlyX A C := ⟨fun k j a b c d => (h2.1 k j a b c d).trans (h1.1 k j a b c d), fun k => (h2.2 k).trans (h1.2 k)⟩
theorem onlyX_F {A B : ZZ} (h : onlyF A B) : onlyX A B := ⟨fun k j a b c d => h.1 k j a b c (fun q => (d q).2), h.2⟩
theorem onlyX_67 {A B : ZZ} (h : only67 A B) : onlyX A B := onlyX_F (onlyF_67 h)
theorem onlyX_8 (Z : ZZ) (x : Int32) : onlyX Z (pI Z 0 8 x) := ⟨fun k j _ _ _ d => gI_pI_o _ _ (fun q => (d q).1), fun _ => rfl⟩
theorem onlyD_X {A B : ZZ} (h : onlyX A B) : onlyD A B := ⟨fun k j _ _ _ d e f g => h.1 k j d e f (fun q => ⟨(g q).1, (g q).2.2⟩), h.2⟩
theorem hKc_keep {Hs : Nat → NN} {n W : Nat} {Z Z' : ZZ} (h : hKc Hs n Z) (hi : hKi Hs n W) (ho : ∀ k j, (k = 1 ∨ 78 < k) → gI Z' k j = gI Z k j) (hl : ∀ k, 78 < k → gL Z' k = gL Z k) : hKc Hs n Z' := by
  obtain ⟨hn, h0, x, hx, h1, hr⟩ := h
  refine ⟨hn, by rw [ho _ _ (by decide)]; exact h0, x, hx, by rw [ho _ _ (by decide)]; exact h1, fun j hj => ?_⟩
  exact rB_keep (hr j hj) (hi j hj).1.1.2.2.2.1 (fun k i k1 _ => ho k i (by omega)) (hl _ (by omega))
theorem hKr_keep {Hs : Nat → NN} {n : Nat} {Z Z' : ZZ} (h : hKr Hs n Z) (h9 : gI Z' 0 9 = gI Z 0 9) (h4 : ∀ j, gI Z' 4 j = gI Z 4 j) : hKr Hs n Z' := ⟨h9.trans h.1, fun j hj q hq => (h4 _).trans (h.2 j hj q hq)⟩
theorem sK_keep {W W' : Nat} {Zc Zr Zc' Zr' : ZZ} (h : sK W Zc Zr) (hw : W ≤ W') (hc : ∀ k j, (k = 0 ∨ (38 < k ∧ k < 59)) → gI Zc' k j = gI Zc k j) (hl : gL Zc' 39 = gL Zc 39) (h14 : gI Zr' 0 14 = gI Zr 0 14) (h3 : ∀ j, gI Zr' 3 j = gI Zr 3 j) : sK W' Zc' Zr' := by
  obtain ⟨v, v1, a, b, c⟩ := h
  refine ⟨v, v1, by rw [hc _ _ (by decide)]; exact a, h14.trans b, fun hv => ?_⟩
  obtain ⟨Ns, n1, n2, n3, n4⟩ := c hv
  exact ⟨Ns, rB_keep n1 n3.1.2.2.2.1 (fun k i k1 k2 => hc k i (by omega)) hl, fun j hj => (h3 j).trans (n2 j hj), iN_mono n3 hw, n4⟩
theorem reS_keep {Hs : Nat → NN} {n W W' : Nat} {lw : LW} {Zc Zr Zc' Zr' : ZZ} (h : reS Hs n W lw Zc Zr) (hw : W ≤ W') (hc : onlyC Zc Zc') (hr : onlyD Zr Zr') : reS Hs n W' lw Zc' Zr' := by
  obtain ⟨a, b, c, d, e, f, g⟩ := h
  have hz : ∀ j, j ≠ 8 ∧ j ≠ 12 ∧ j ≠ 13 → gI Zr' 0 j = gI Zr 0 j := fun j hj => hr.1 0 j (by decide) (by decide) (by decide) (by decide) (by decide) (by decide) (fun _ => hj)
  have hk : ∀ k j, (k = 3 ∨ k = 4 ∨ k = 9 ∨ k = 10) → gI Zr' k j = gI Zr k j := fun k j hk => hr.1 k j (by omega) (by omega) (by omega) (by omega) (by omega) (by omega) (fun q => by omega)
  refine ⟨hKc_keep a c (fun k j q => hc.1 k j (by omega)) (fun k q => hc.2 k (by omega)), hKr_keep b (hz _ (by decide)) (fun j => hk _ _ (by decide)), hKi_mono c hw, sK_keep d hw (fun k j q => hc.1 k j (by omega)) (hc.2 39 (by decide)) (hz _ (by decide)) (fun j => hk _ _ (by decide)), ?_, ?_, ?_⟩
  · obtain ⟨m, tx, e1, e2, e3, e4⟩ := e
    refine ⟨m, tx, e1, by rw [hc.1 _ _ (by decide)]; exact e2, (hz _ (by decide)).trans e3, fun j hj => ?_⟩
    rw [hc.1 _ _ (by decide), hk _ _ (by decide)]
    exact e4 j hj
  · obtain ⟨f1, f2, f3, f4⟩ := f
    have e9 := hc.1 0 9 (by decide)
    have e10 := hc.1 0 10 (by decide)
    exact ⟨by rw [hz _ (by decide), e9]; exact f1, by rw [hz _ (by decide), e10]; exact f2, by rw [e9]; exact f3, by rw [e10]; exact f4⟩
  · obtain ⟨g1, g2, g3⟩ := g
    exact ⟨g1, (hz _ (by decide)).trans g2, fun j hj => by rw [hk _ _ (by decide)]; exact g3 j hj⟩
/-- looking changes the router and the search's rows alone -/
theorem G_look {lw : LW} {W : Nat} {Zc Zr Zc' Zr' : ZZ} (h : G lw W Zc Zr) (hc : onlyR Zc Zc') (hr : onlyX Zr Zr') : G lw W Zc' Zr' := by
  obtain ⟨N, Hs, n, ⟨hB, hA, hI, hu⟩, hK, hR⟩ := h
  refine ⟨N, Hs, n, ⟨rB_R hB hI hc, fun j hj => by rw [hr.1 _ _ (by decide) (by decide) (by decide) (fun q => absurd q (by decide))]; exact hA j hj, hI, hu⟩, ?_, reS_keep hR (Nat.le_refl _) (onlyC_R hc) (onlyD_X hr)⟩
  obtain ⟨m, hn, h1, h2, h3⟩ := hK
  refine ⟨m, hn, by rw [hc.1 _ _ (by decide)]; exact h1, by rw [hr.1 _ _ (by decide) (by decide) (by decide) (fun _ => by decide)]; exact h2, fun j hj => ?_⟩
  rw [hc.1 _ _ (by decide), hc.1 _ _ (by decide), hc.1 _ _ (by decide), hr.1 5 _ (by decide) (by decide) (by decide) (fun q => absurd q (by decide)), hr.1 5 _ (by decide) (by decide) (by decide) (fun q => absurd q (by decide)), hr.1 5 _ (by decide) (by decide) (by decide) (fun q => absurd q (by decide))]
  exact h3 j hj
theorem bK_keep {Zc Zr Zc' Zr' : ZZ} (h : bK Zc Zr) (hc : ∀ k j, 3 ≤ k → k ≤ 6 → gI Zc' k j = gI Zc k j) (h12 : gI Zr' 0 12 = gI Zr 0 12) (h5 : ∀ j, gI Zr' 5 j = gI Zr 5 j) : bK Zc' Zr' := by
  obtain ⟨m, hn, h1, h2, h3⟩ := h
  refine ⟨m, hn, by rw [hc _ _ (by decide) (by decide)]; exact h1, h12.trans h2, fun j hj => ?_⟩
  rw [hc _ _ (by decide) (by decide), hc _ _ (by decide) (by decide), hc _ _ (by decide) (by decide), h5, h5, h5]
  exact h3 j hj
theorem refuse_q {q : Nat} {Z : ZZ} (h1 : 1 ≤ q) (h4 : q ≤ 4) : sX7_refuse (nI q) Z = some (.inl q, Z) := by
  have : q = 1 ∨ q = 2 ∨ q = 3 ∨ q = 4 := by omega
  unfold sX7_refuse
  rcases this with h | h | h | h <;> subst h
  · rw [if_pos (by decide)]
  · rw [if_neg (by decide), if_pos (by decide)]
  · rw [if_neg (by decide), if_neg (by decide), if_pos (by decide)]
  · rw [if_neg (by decide), if_neg (by decide), if_neg (by decide), if_pos (by decide)]
theorem refuse_0 {Z : ZZ} : sX7_refuse (nI 0) Z = some (.inr (), Z) := by
  unfold sX7_refuse
  rw [if_neg (by decide), if_neg (by decide), if_neg (by decide), if_neg (by decide)]
theorem le00 : (0 : Int32) ≤ 0 := by decide
theorem kc_0 (k : Nat) : kc k 0 = 0 := by
  unfold kc
  split
  · rfl
  · split <;> rfl
theorem x_ch {lw : LW} {k W : Nat} {a b l : Int32} {Zc Zr : ZZ} (hk : k < 8) (hG : G lw W Zc Zr) (hW : W ≤ 7000) : ∃ Zr1, sX8_begin Zr = some Zr1 ∧
    ((∃ r Zc' Zr2 Zr3 Zr', sX7_change (nI k) a b l Zc = some (.inr r, Zc') ∧ rP k a b l Zr1 = some (0, Zr2) ∧ rE k a b l Zr2 = some (r, Zr3) ∧ sX8_commit r Zr3 = some (r, Zr') ∧ G lw (W + 1) Zc' Zr' ∧ gI Zr' 0 8 = nI 0) ∨
     (∃ q Zc' Zr2, 1 ≤ q ∧ q ≤ 4 ∧ sX7_change (nI k) a b l Zc = some (.inl q, Zc') ∧ rP k a b l Zr1 = some (nI (kc k q), Zr2) ∧ G lw W Zc' (pI Zr2 0 8 (nI (kc k q))))) := by
  obtain ⟨N, Hs, n, ⟨hB, hA, hI, hu⟩, hK, hR⟩ := hG
  obtain ⟨Zr1, b1, b2, b3, b4, b5⟩ := m_begin hA
  have oD1 : onlyD Zr Zr1 := ⟨fun k j _ q2 _ _ _ _ q => b4 k j q2 (fun e => (q e).1), b5⟩
  have hA1 : rA N Zr1 1 := fun j hj => by rw [b4 _ _ (by decide) (fun q => absurd q (by decide))]; exact hA j hj
  have hK1 : bK Zc Zr1 := bK_keep hK (fun _ _ _ _ => rfl) (b4 _ _ (by decide) (fun _ => by decide)) (fun j => b4 _ _ (by decide) (fun q => absurd q (by decide)))
  obtain ⟨q, Zc1, Zr2, p1, p2, p3, p4, p5, p6, p7⟩ := pr_k (a := a) (b := b) (l := l) hk ⟨hB, hA1, hI, hu⟩ hW hK1
  have hR1 := reS_keep hR (Nat.le_refl W) (onlyC_J p5) (onlyD_tr oD1 (onlyD_H p6))
  have hB1 := rB_J hB hI p5
  have hA2 := rA_H hA1 p6
  have e8 : gI Zr2 0 8 = nI 0 := by rw [p6.1 _ _ (by decide) (by decide) (by decide) (by decide) (fun _ => by decide)]; exact b3
  have hbef : rA N Zr2 2 := fun j hj => by rw [p6.1 _ _ (by decide) (by decide) (by decide) (by decide) (fun q => absurd q (by decide))]; exact b2 j hj
  refine ⟨Zr1, b1, ?_⟩
  by_cases c : q = 0
  · subst c
    left
    obtain ⟨rc, rr, ri, rs, rt, rf, ro⟩ := hR1
    obtain ⟨Zc2, k1, k2, k3⟩ := c_keep rc ri (by decide) hB1 hI
    have hB2 : rB N Zc2 19 := rB_keep hB1 hI.1.2.2.2.1 (fun k j h1 h2 => k3.1 k j (by omega) (by omega)) (k3.2 19 (by decide))
    obtain ⟨N', r, Zc3, Zr3, s1, s2, ⟨s3, s4, s5, s6⟩, s7, s8⟩ := p7 rfl Zc2 Zr2 ⟨hB2, hA2, hI, hu⟩ rfl (fun _ => rfl)
    have oD3 := onlyD_M s8
    have hbef3 : rA N Zr3 2 := fun j hj => by rw [s8.1 _ _ (by decide) (by decide) (by decide) (by decide) (fun q => absurd q (by decide))]; exact hbef j hj
    have hr3 : hKr Hs n Zr3 := hKr_keep rr (s8.1 _ _ (by decide) (by decide) (by decide) (by decide) (fun _ => by decide)) (fun j => s8.1 _ _ (by decide) (by decide) (by decide) (by decide) (fun q => absurd q (by decide)))
    obtain ⟨Zr4, c1, c2, c3, c4⟩ := m_commit (x := r) rc.1 hr3 hbef3
    have hpi := hKi_pu rc.1 ri hI hu
    have e84 : gI Zr4 0 8 = nI 0 := by
      rw [c3 _ _ (by decide) (fun _ => by decide), s8.1 _ _ (by decide) (by decide) (by decide) (by decide) (fun _ => by decide)]
      exact e8
    refine ⟨r, Zc3, Zr2, Zr3, Zr4, ?_, by rw [kc_0] at p2; exact p2, s2, c1, ⟨N', puH Hs n N, puN n, ⟨s3, fun j hj => by rw [c3 _ _ (by decide) (fun q => absurd q (by decide))]; exact s4 j hj, s5, s6⟩, ?_, ?_⟩, e84⟩
    · unfold sX7_change
      rw [p1, bnd_s, refuse_0, bnd_s]
      show bnd (sX2_keep 19 Zc1) _ = _
      rw [k1, bnd_s, s1, bnd_s]
    · refine bK_keep p4 (fun k j h1 h2 => by rw [s7.1 k j (by omega)]; exact k3.1 k j (by omega) (by omega)) ?_ (fun j => ?_)
      · rw [c3 _ _ (by decide) (fun _ => by decide), s8.1 _ _ (by decide) (by decide) (by decide) (by decide) (fun _ => by decide)]
      · rw [c3 _ _ (by decide) (fun q => absurd q (by decide)), s8.1 _ _ (by decide) (by decide) (by decide) (by decide) (fun q => absurd q (by decide))]
    · have oY : ∀ k j, k ≠ 1 → (k < 13 ∨ 38 < k) → k < 79 → gI Zc3 k j = gI Zc1 k j := fun k j q1 q2 q3 => by
        rw [s7.1 k j q2]; exact k3.1 k j q1 q3
      have hz : ∀ j, j ≠ 8 → j ≠ 9 → j ≠ 13 → gI Zr4 0 j = gI Zr2 0 j := fun j q8 q9 q13 => by
        rw [c3 _ _ (by decide) (fun _ => q9), s8.1 _ _ (by decide) (by decide) (by decide) (by decide) (fun _ => q13)]
      have hh : ∀ k j, (k = 3 ∨ k = 9 ∨ k = 10) → gI Zr4 k j = gI Zr2 k j := fun k j hk => by
        rw [c3 _ _ (by omega) (fun q => by omega), s8.1 _ _ (by omega) (by omega) (by omega) (by omega) (fun q => by omega)]
      refine ⟨hKc_keep k2 hpi (fun k j q => s7.1 k j (by omega)) (fun k q => s7.2 k (by omega)), c2, hKi_mono hpi (by omega), sK_keep rs (by omega) (fun k j q => oY k j (by omega) (by omega) (by omega)) ((s7.2 39 (by decide)).trans (k3.2 39 (by decide))) (hz _ (by decide) (by decide) (by decide)) (fun j => hh _ _ (by decide)), ?_, ?_, ?_⟩
      · obtain ⟨m, tx, e1, e2, e3, e4⟩ := rt
        refine ⟨m, tx, e1, by rw [oY _ _ (by decide) (by decide) (by decide)]; exact e2, (hz _ (by decide) (by decide) (by decide)).trans e3, fun j hj => ?_⟩
        rw [oY _ _ (by decide) (by decide) (by decide), hh _ _ (by decide)]
        exact e4 j hj
      · obtain ⟨f1, f2, f3, f4⟩ := rf
        have e9 := oY 0 9 (by decide) (by decide) (by decide)
        have e10 := oY 0 10 (by decide) (by decide) (by decide)
        exact ⟨by rw [hz _ (by decide) (by decide) (by decide), e9]; exact f1, by rw [hz _ (by decide) (by decide) (by decide), e10]; exact f2, by rw [e9]; exact f3, by rw [e10]; exact f4⟩
      · obtain ⟨g1, g2, g3⟩ := ro
        exact ⟨g1, (hz _ (by decide) (by decide) (by decide)).trans g2, fun j hj => by rw [hh _ _ (by decide)]; exact g3 j hj⟩
  · right
    have hq1 : 1 ≤ q := by omega
    refine ⟨q, Zc1, Zr2, hq1, p3, ?_, p2, ⟨N, Hs, n, ⟨hB1, fun j hj => by rw [gI_pI_k _ _ _ _ (by decide)]; exact hA2 j hj, hI, hu⟩, bK_keep p4 (fun _ _ _ _ => rfl) (gI_pI_j _ _ _ _ (by decide)) (fun j => gI_pI_k _ _ _ _ (by decide)), reS_keep hR1 (Nat.le_refl W) (onlyC_rf _) (onlyD_X (onlyX_8 _ _))⟩⟩
    unfold sX7_change
    rw [p1, bnd_s, refuse_q hq1 p3, bnd_s]
    rfl
/-! answers -/
def opI (lw : LW) (W : Nat) (cd : Nat → Nat) (oc : Option ((Nat ⊕ Int32) × ZZ)) (or : Option (Int32 × ZZ)) : Prop := ∃ rc Zc' rr Zr', oc = some (rc, Zc') ∧ or = some (rr, Zr') ∧ G lw W Zc' Zr' ∧ ((∃ e, rc = .inl e ∧ 1 ≤ e ∧ e ≤ 6 ∧ gI Zr' 0 8 = nI (cd e)) ∨ (rc = .inr rr ∧ gI Zr' 0 8 = nI 0))
def opP (lw : LW) (W : Nat) (oc or : Option (Int32 × ZZ)) : Prop := ∃ r Zc' Zr', oc = some (r, Zc') ∧ or = some (r, Zr') ∧ G lw W Zc' Zr'
theorem G_mono {lw : LW} {W W' : Nat} {Zc Zr : ZZ} (h : G lw W Zc Zr) (hw : W ≤ W') : G lw W' Zc Zr := by
  obtain ⟨N, Hs, n, ⟨hB, hA, hI, hu⟩, hK, hR⟩ := h
  exact ⟨N, Hs, n, ⟨hB, hA, iN_mono hI hw, hu⟩, hK, reS_keep hR hw (onlyC_rf _) (onlyD_rf _)⟩
theorem opI_mk {lw : LW} {k W : Nat} {a b l : Int32} {Zc Zr : ZZ} {oc : Option ((Nat ⊕ Int32) × ZZ)} {or : Option (Int32 × ZZ)} (hk : k < 8) (hG : G lw W Zc Zr) (hW : W ≤ 7000)
    (hc : ∀ e Z, sX7_change (nI k) a b l Zc = some (.inl e, Z) → oc = some (.inl e, Z)) (hcr : ∀ r Z, sX7_change (nI k) a b l Zc = some (.inr r, Z) → oc = some (.inr r, Z))
    (h0 : ∀ Z1 Z2 Z3 Z4 r, sX8_begin Zr = some Z1 → rP k a b l Z1 = some (0, Z2) → rE k a b l Z2 = some (r, Z3) → sX8_commit r Z3 = some (r, Z4) → or = some (r, Z4))
    (h1 : ∀ Z1 Z2 q, 1 ≤ q → q ≤ 4 → sX8_begin Zr = some Z1 → rP k a b l Z1 = some (nI (kc k q), Z2) → or = some (0, pI Z2 0 8 (nI (kc k q)))) : opI lw (W + 1) (kc k) oc or := by
  obtain ⟨Zr1, b1, h⟩ := x_ch (a := a) (b := b) (l := l) hk hG hW
  rcases h with ⟨r, Zc', Zr2, Zr3, Zr', c1, c2, c3, c4, c5, c6⟩ | ⟨q, Zc', Zr2, q1, q2, c1, c2, c3⟩
  · exact ⟨.inr r, Zc', r, Zr', hcr _ _ c1, h0 _ _ _ _ _ b1 c2 c3 c4, c5, Or.inr ⟨rfl, c6⟩⟩
  · exact ⟨.inl q, Zc', 0, _, hc _ _ c1, h1 _ _ q q1 q2 b1 c2, G_mono c3 (by omega), Or.inl ⟨q, rfl, q1, by omega, gI_pI_s _ _ _ _⟩⟩
theorem kc_pos {k q : Nat} (h1 : 1 ≤ q) (h2 : q ≤ 4) : 1 ≤ kc k q ∧ kc k q ≤ 4 := by
  unfold kc
  split
  · rw [if_neg (by omega)]; omega
  · split
    · split <;> omega
    · omega
theorem kc_nle {k q : Nat} (h1 : 1 ≤ q) (h2 : q ≤ 4) : ¬ nI (kc k q) ≤ 0 := by
  have := kc_pos (k := k) h1 h2
  exact nI_nle (by omega) (by omega)
theorem o_addSwitch {lw : LW} {W : Nat} {Zc Zr : ZZ} (hG : G lw W Zc Zr) (hW : W ≤ 7000) : opI lw (W + 1) (kc 0) (sX7_addSwitch Zc) (sX8_addSwitch Zr) := by
  refine opI_mk (k := 0) (a := 0) (b := 0) (l := 0) (by decide) hG hW (fun e Z h => ?_) (fun r Z h => ?_) (fun Z1 Z2 Z3 Z4 r b1 p e c => ?_) (fun Z1 Z2 q q1 q2 b1 p => ?_)
  · unfold sX7_addSwitch
    rw [show sX7_change 0 0 0 0 Zc = some (.inl e, Z) from h, bnd_s]; rfl
  · unfold sX7_addSwitch
    rw [show sX7_change 0 0 0 0 Zc = some (.inr r, Z) from h, bnd_s]; rfl
  · have p' : some ((if gI Z1 1 (0 : Int32).toNatClampNeg = 8 then (1 : Int32) else 0), Z1) = some (0, Z2) := p
    obtain ⟨p1, p2⟩ := some_pair p'
    unfold sX8_addSwitch
    rw [b1, bnd_s, gd_t (by decide)]
    by_cases cc : gI Z1 1 (0 : Int32).toNatClampNeg = 8
    · rw [if_pos cc] at p1; exact absurd p1 (by decide)
    · rw [if_neg cc, p2, show sX8_addsSwitch Z2 = some (r, Z3) from e, bnd_s, c, bnd_s]
  · have p' : some ((if gI Z1 1 (0 : Int32).toNatClampNeg = 8 then (1 : Int32) else 0), Z1) = some (nI (kc 0 q), Z2) := p
    obtain ⟨p1, p2⟩ := some_pair p'
    have e1 : kc 0 q = 1 := by
      unfold kc
      rw [if_pos (Or.inl rfl), if_neg (by omega)]
    unfold sX8_addSwitch
    rw [b1, bnd_s, gd_t (by decide)]
    by_cases cc : gI Z1 1 (0 : Int32).toNatClampNeg = 8
    · rw [if_pos cc, p2, e1]; rfl
    · rw [if_neg cc, e1] at p1; exact absurd p1 (by decide)
theorem o_addTrunk {lw : LW} {W : Nat} {a b l : Int32} {Zc Zr : ZZ} (hG : G lw W Zc Zr) (hW : W ≤ 7000) : opI lw (W + 1) (kc 1) (sX7_addTrunk a b l Zc) (sX8_addTrunk a b l Zr) := by
  refine opI_mk (k := 1) (a := a) (b := b) (l := l) (by decide) hG hW (fun e Z h => ?_) (fun r Z h => ?_) (fun Z1 Z2 Z3 Z4 r b1 p e c => ?_) (fun Z1 Z2 q q1 q2 b1 p => ?_)
  · unfold sX7_addTrunk
    rw [show sX7_change 1 a b l Zc = some (.inl e, Z) from h, bnd_s]; rfl
  · unfold sX7_addTrunk
    rw [show sX7_change 1 a b l Zc = some (.inr r, Z) from h, bnd_s]; rfl
  · unfold sX8_addTrunk
    rw [b1, bnd_s, show sX8_cannotLay a b l Z1 = some (0, Z2) from p, bnd_s, nm_d, if_pos le00, show sX8_lays a b l Z2 = some (r, Z3) from e, bnd_s, c, bnd_s]
  · unfold sX8_addTrunk
    rw [b1, bnd_s, show sX8_cannotLay a b l Z1 = _ from p, bnd_s, nm_d, if_neg (kc_nle q1 q2)]; rfl
theorem o_addSubscriber {lw : LW} {W : Nat} {a b : Int32} {Zc Zr : ZZ} (hG : G lw W Zc Zr) (hW : W ≤ 7000) : opI lw (W + 1) (kc 2) (sX7_addSubscriber a b Zc) (sX8_addSubscriber a b Zr) := by
  refine opI_mk (k := 2) (a := a) (b := b) (l := 0) (by decide) hG hW (fun e Z h => ?_) (fun r Z h => ?_) (fun Z1 Z2 Z3 Z4 r b1 p e c => ?_) (fun Z1 Z2 q q1 q2 b1 p => ?_)
  · unfold sX7_addSubscriber
    rw [show sX7_change 2 a b 0 Zc = some (.inl e, Z) from h, bnd_s]; rfl
  · unfold sX7_addSubscriber
    rw [show sX7_change 2 a b 0 Zc = some (.inr r, Z) from h, bnd_s]; rfl
  · unfold sX8_addSubscriber
    rw [b1, bnd_s, show sX8_cannotJoin a b Z1 = some (0, Z2) from p, bnd_s, nm_d, if_pos le00, show sX8_joins a b Z2 = some (r, Z3) from e, bnd_s, c, bnd_s]
  · unfold sX8_addSubscriber
    rw [b1, bnd_s, show sX8_cannotJoin a b Z1 = _ from p, bnd_s, nm_d, if_neg (kc_nle q1 q2)]; rfl
theorem o_call {lw : LW} {W : Nat} {a b : Int32} {Zc Zr : ZZ} (hG : G lw W Zc Zr) (hW : W ≤ 7000) : opI lw (W + 1) (kc 3) (sX7_call a b Zc) (sX8_call a b Zr) := by
  refine opI_mk (k := 3) (a := a) (b := b) (l := 0) (by decide) hG hW (fun e Z h => ?_) (fun r Z h => ?_) (fun Z1 Z2 Z3 Z4 r b1 p e c => ?_) (fun Z1 Z2 q q1 q2 b1 p => ?_)
  · unfold sX7_call
    rw [show sX7_change 3 a b 0 Zc = some (.inl e, Z) from h, bnd_s]; rfl
  · unfold sX7_call
    rw [show sX7_change 3 a b 0 Zc = some (.inr r, Z) from h, bnd_s]; rfl
  · obtain ⟨q, p1, p2⟩ := bnd_some (show bnd (sX8_cannotCall a b Z1) (fun q => bnd (sX8_blocks a b q.1 q.2) (fun z => some (q.1, z))) = some (0, Z2) from p)
    obtain ⟨z, p3, p4⟩ := bnd_some p2
    obtain ⟨p5, p6⟩ := some_pair p4
    unfold sX8_call
    rw [b1, bnd_s, p1, bnd_s, nm_d, p3, bnd_s, p5, p6, if_pos (by decide), show sX8_connects a b Z2 = some (r, Z3) from e, bnd_s, c, bnd_s]
  · obtain ⟨r, p1, p2⟩ := bnd_some (show bnd (sX8_cannotCall a b Z1) (fun q => bnd (sX8_blocks a b q.1 q.2) (fun z => some (q.1, z))) = some (nI (kc 3 q), Z2) from p)
    obtain ⟨z, p3, p4⟩ := bnd_some p2
    obtain ⟨p5, p6⟩ := some_pair p4
    unfold sX8_call
    rw [b1, bnd_s, p1, bnd_s, nm_d, p3, bnd_s, p5, p6, if_neg (kc_nle q1 q2)]; rfl
theorem o_hangUp {lw : LW} {W : Nat} {a : Int32} {Zc Zr : ZZ} (hG : G lw W Zc Zr) (hW : W ≤ 7000) : opI lw (W + 1) (kc 4) (sX7_hangUp a Zc) (sX8_hangUp a Zr) := by
  refine opI_mk (k := 4) (a := a) (b := 0) (l := 0) (by decide) hG hW (fun e Z h => ?_) (fun r Z h => ?_) (fun Z1 Z2 Z3 Z4 r b1 p e c => ?_) (fun Z1 Z2 q q1 q2 b1 p => ?_)
  · unfold sX7_hangUp
    rw [show sX7_change 4 a 0 0 Zc = some (.inl e, Z) from h, bnd_s]; rfl
  · unfold sX7_hangUp
    rw [show sX7_change 4 a 0 0 Zc = some (.inr r, Z) from h, bnd_s]; rfl
  · obtain ⟨z, p3, p4⟩ := bnd_some (show bnd (sX8_callOf a Z2) (fun q => sX8_ends q.1 q.2) = some (r, Z3) from e)
    unfold sX8_hangUp
    rw [b1, bnd_s, show sX8_cannotHang a Z1 = some (0, Z2) from p, bnd_s, nm_d, if_pos le00, p3, bnd_s, p4, bnd_s, c, bnd_s]
  · unfold sX8_hangUp
    rw [b1, bnd_s, show sX8_cannotHang a Z1 = _ from p, bnd_s, nm_d, if_neg (kc_nle q1 q2)]; rfl
theorem o_mend {lw : LW} {W : Nat} {a : Int32} {Zc Zr : ZZ} (hG : G lw W Zc Zr) (hW : W ≤ 7000) : opI lw (W + 1) (kc 6) (sX7_mend a Zc) (sX8_mend a Zr) := by
  refine opI_mk (k := 6) (a := a) (b := 0) (l := 0) (by decide) hG hW (fun e Z h => ?_) (fun r Z h => ?_) (fun Z1 Z2 Z3 Z4 r b1 p e c => ?_) (fun Z1 Z2 q q1 q2 b1 p => ?_)
  · unfold sX7_mend
    rw [show sX7_change 6 a 0 0 Zc = some (.inl e, Z) from h, bnd_s]; rfl
  · unfold sX7_mend
    rw [show sX7_change 6 a 0 0 Zc = some (.inr r, Z) from h, bnd_s]; rfl
  · unfold sX8_mend
    rw [b1, bnd_s, show sX8_cannotMend a Z1 = some (0, Z2) from p, bnd_s, nm_d, if_pos le00, show sX8_mends a Z2 = some (r, Z3) from e, bnd_s, c, bnd_s]
  · unfold sX8_mend
    rw [b1, bnd_s, show sX8_cannotMend a Z1 = _ from p, bnd_s, nm_d, if_neg (kc_nle q1 q2)]; rfl
theorem o_pass {lw : LW} {W : Nat} {a : Int32} {Zc Zr : ZZ} (hG : G lw W Zc Zr) (hW : W ≤ 7000) : opI lw (W + 1) (kc 7) (sX7_pass a Zc) (sX8_pass a Zr) := by
  refine opI_mk (k := 7) (a := a) (b := 0) (l := 0) (by decide) hG hW (fun e Z h => ?_) (fun r Z h => ?_) (fun Z1 Z2 Z3 Z4 r b1 p e c => ?_) (fun Z1 Z2 q q1 q2 b1 p => ?_)
  · unfold sX7_pass
    rw [show sX7_change 7 a 0 0 Zc = some (.inl e, Z) from h, bnd_s]; rfl
  · unfold sX7_pass
    rw [show sX7_change 7 a 0 0 Zc = some (.inr r, Z) from h, bnd_s]; rfl
  · obtain ⟨z, p3, p4⟩ := bnd_some (show bnd (sX8_in a 1 60 Z1) (fun q => some ((if q.1 = 0 then (1 : Int32) else 0), q.2)) = some (0, Z2) from p)
    obtain ⟨p5, p6⟩ := some_pair p4
    unfold sX8_pass
    rw [b1, bnd_s, p3, bnd_s]
    by_cases cz : z.1 = 0
    · rw [if_pos cz] at p5; exact absurd p5 (by decide)
    · rw [if_neg cz, p6, show sX8_passes a Z2 = some (r, Z3) from e, bnd_s, c, bnd_s]
  · obtain ⟨z, p3, p4⟩ := bnd_some (show bnd (sX8_in a 1 60 Z1) (fun q => some ((if q.1 = 0 then (1 : Int32) else 0), q.2)) = some (nI (kc 7 q), Z2) from p)
    obtain ⟨p5, p6⟩ := some_pair p4
    have e1 : kc 7 q = 1 := by
      unfold kc
      rw [if_pos (Or.inr rfl), if_neg (by omega)]
    unfold sX8_pass
    rw [b1, bnd_s, p3, bnd_s]
    by_cases cz : z.1 = 0
    · rw [if_pos cz, p6, e1]; rfl
    · rw [if_neg cz, e1] at p5; exact absurd p5 (by decide)
theorem o_cut {lw : LW} {W : Nat} {a : Int32} {Zc Zr : ZZ} (hG : G lw W Zc Zr) (hW : W ≤ 7000) : opI lw (W + 1) (kc 5) (sX7_cut a Zc) (sX8_cut a Zr) := by
  obtain ⟨Zr1, b1, h⟩ := x_ch (k := 5) (a := a) (b := 0) (l := 0) (by decide) hG hW
  rcases h with ⟨r, Zc', Zr2, Zr3, Zr', c1, c2, c3, c4, c5, c6⟩ | ⟨q, Zc', Zr2, q1, q2, c1, c2, c3⟩
  · refine ⟨.inr (if r = 1 then 1 else 0), Zc', if r = 1 then 1 else 0, Zr', ?_, ?_, c5, Or.inr ⟨rfl, c6⟩⟩
    · unfold sX7_cut
      rw [show sX7_change 5 a 0 0 Zc = some (.inr r, Zc') from c1, bnd_s]
      show (if r = 1 then some ((.inr 1 : Nat ⊕ Int32), Zc') else some (.inr 0, Zc')) = _
      split <;> rfl
    · unfold sX8_cut
      rw [b1, bnd_s, show sX8_cannotCut a Zr1 = some (0, Zr2) from c2, bnd_s, nm_d, if_pos le00, show sX8_cuts a Zr2 = some (r, Zr3) from c3, bnd_s, c4, bnd_s]
      dsimp only
      split <;> rfl
  · refine ⟨.inl q, Zc', 0, _, ?_, ?_, G_mono c3 (by omega), Or.inl ⟨q, rfl, q1, by omega, gI_pI_s _ _ _ _⟩⟩
    · unfold sX7_cut
      rw [show sX7_change 5 a 0 0 Zc = some (.inl q, Zc') from c1, bnd_s]; rfl
    · unfold sX8_cut
      rw [b1, bnd_s, show sX8_cannotCut a Zr1 = _ from c2, bnd_s, nm_d, if_neg (kc_nle q1 q2)]; rfl
