/-! routes, blocked calls, sums, the text, the ring -/
theorem d_sym_le {N : NN} {W s g : Nat} {p : Nat → Bool} {d d' : Nat → Nat} (hI : iN N W) (hs : s < N 0) (hg : g < N 0) (h : isD N p s d) (h' : isD N p g d') : ∀ (m v : Nat), d v ≤ m → v < 8 → d v < 1000000 → d' v ≤ 2000 → d' s ≤ d' v + d v := by
  have h8 := hI.1.1
  intro m
  induction m with
  | zero =>
    intro v hm hv hf hf'
    rcases h.2.2 v hv hf with c | ⟨w, k, e1, e2, e3⟩
    · rw [c]; omega
    · have := edge_lt hI e1; omega
  | succ m ih =>
    intro v hm hv hf hf'
    rcases h.2.2 v hv hf with c | ⟨w, k, e1, e2, e3⟩
    · rw [c]; omega
    · obtain ⟨l1, l2, l3, l4, l5⟩ := edge_lt hI e1
      have t := h'.2.1 v w k (by omega) (edge_sym e1)
      have hb : d' w ≤ 1288 := by
        obtain ⟨-, q, -⟩ := dec8 hI hg (isD_G h') _ w (by omega) (by omega) (Nat.le_refl _)
        have := rnk_le (N := N) (d := d') (v := w) (by omega)
        omega
      have := ih w (by omega) (by omega) e2 (by omega)
      omega
theorem d_sym {N : NN} {W s g : Nat} {p : Nat → Bool} {d d' : Nat → Nat} (hI : iN N W) (hs : s < N 0) (hg : g < N 0) (h : isD N p s d) (h' : isD N p g d') (hf : d g < 1000000 ∨ d' s < 1000000) : d g = d' s := by
  have h8 := hI.1.1
  have a := fun q => d_sym_le hI hs hg h h' (d g) g (Nat.le_refl _) (by omega) q (by rw [h'.1]; omega)
  have b := fun q => d_sym_le hI hg hs h' h (d' s) s (Nat.le_refl _) (by omega) q (by rw [h.1]; omega)
  rw [h'.1] at a
  rw [h.1] at b
  rcases hf with q | q
  · have := a q
    have := b (by omega)
    omega
  · have := b q
    have := a (by omega)
    omega
theorem leastN_congr {N : NN} {p q : Nat → Bool} {a b : Nat} (hp : ∀ i, i < N 1 → p i = q i) : ∀ S, leastN N p a b S = leastN N q a b S := by
  have hc : ∀ S, cutC N p S (N 1) = cutC N q S (N 1) := fun S => sumf_congr (fun i hi => by unfold cutI; rw [hp i hi])
  intro S
  induction S with
  | zero => rfl
  | succ S ih => unfold leastN; rw [ih, hc]
section Q
variable {lw : LW} {W : Nat} {x y : Int32} {Zc Zr : ZZ}
theorem nsw_f {N : NN} (hB : rB N Zc 19) (h : (viB x (N 0) && viB y (N 0)) = false) : sX7_needSwitches x y Zc = some (.inl 1, Zc) := by
  unfold sX7_needSwitches
  rw [p_hSw (by decide) (rB19.1 hB).1.1, bnd_s]
  cases vx : viB x (N 0) with
  | false => rfl
  | true =>
    rw [vx, Bool.true_and] at h
    simp only [if_true]
    rw [if_neg (by decide), p_hSw (by decide) (rB19.1 hB).1.1, bnd_s, h]; rfl
theorem nsw_t {N : NN} (hB : rB N Zc 19) (h : (viB x (N 0) && viB y (N 0)) = true) : sX7_needSwitches x y Zc = some (.inr (), Zc) := by
  rw [Bool.and_eq_true] at h
  unfold sX7_needSwitches
  rw [p_hSw (by decide) (rB19.1 hB).1.1, bnd_s, h.1]
  simp only [if_true]
  rw [if_neg (by decide), p_hSw (by decide) (rB19.1 hB).1.1, bnd_s, h.2]; rfl
theorem m_sh {N : NN} (hA : rA N Zr 1) (h8 : N 0 ≤ 8) : sX8_shortest x y Zr = sX8_shortest_B22 x y (if viB x (N 0) && viB y (N 0) then 1 else 0) Zr := by
  unfold sX8_shortest
  rw [m_isSw hA (by omega), bnd_s]
  cases vx : viB x (N 0) with
  | false => rfl
  | true =>
    simp only [if_true, Bool.true_and]
    rw [if_neg (by decide), m_isSw hA (by omega), bnd_s]
    cases vy : viB y (N 0) with
    | false => rfl
    | true =>
      simp only [if_true]
      rw [if_neg (by decide)]
theorem m_sh_t {N : NN} {s g : Nat} {d' : Nat → Nat} (hA : rA N Zr 1) (hI : iN N W) (hs : s < N 0) (hg : g < N 0) (hd : isD N (frE N 5) g d') : ∃ Zr', sX8_shortest (nI s) (nI g) Zr = some (if d' s < 1000000 then nI (d' s / 8) else 0, Zr') ∧ onlyX Zr Zr' ∧ gI Zr' 0 8 = nI (if d' s < 1000000 then 0 else 2) := by
  have h8 := hI.1.1
  obtain ⟨Z1, m1, m2, m3⟩ := p_measures (rA_8 (x := 0) hA) hI hg (Or.inr (by decide)) hd
  obtain ⟨n1, n2⟩ := m3 s (by omega)
  have e8 : gI Z1 0 8 = nI 0 := by rw [m2.1 _ _ (by decide) (by decide), gI_pI_s]; rfl
  have est : sX8_shortest (nI s) (nI g) Zr = if gI Z1 6 s = 9999 then bnd (sX8_fail 2 Z1) (fun q => some (q.1, q.2)) else some (gI Z1 6 s, Z1) := by
    rw [m_sh hA h8, viB_n hs (by omega), viB_n hg (by omega)]
    unfold sX8_shortest_B22
    show bnd (sX8_checked 1 Zr) _ = _
    rw [chk_t, bnd_s, if_pos le00, show sX8_measures (nI g) (-1) (pI Zr 0 8 0) = some Z1 from m1, bnd_s, gd_t (vin_n (by omega) (by decide)), gd_t (vin_n (by omega) (by decide)), cl_n (by omega)]
  by_cases c : d' s < 1000000
  · obtain ⟨w1, w2, w3⟩ := n1 c
    refine ⟨Z1, ?_, onlyX_tr (onlyX_8 _ _) (onlyX_67 m2), by rw [if_pos c]; exact e8⟩
    rw [est, w1]
    simp only [eq_nl (show d' s / 8 < 2 ^ 31 by omega) (show 9999 < 2 ^ 31 by decide)]
    rw [if_neg (by omega), if_pos c]
  · refine ⟨pI Z1 0 8 2, ?_, onlyX_tr (onlyX_tr (onlyX_8 _ _) (onlyX_67 m2)) (onlyX_8 _ _), by rw [if_neg c, gI_pI_s]; rfl⟩
    rw [est, n2 c, if_pos (by decide), if_neg c]; rfl
theorem m_sh_f {N : NN} (hA : rA N Zr 1) (h8 : N 0 ≤ 8) (h : (viB x (N 0) && viB y (N 0)) = false) : sX8_shortest x y Zr = some (0, pI Zr 0 8 1) := by
  rw [m_sh hA h8, h]
  unfold sX8_shortest_B22
  show bnd (sX8_checked 0 Zr) _ = _
  rw [chk_f, bnd_s]; rfl
theorem o_routeLength (hG : G lw W Zc Zr) : opI lw W cd1 (sX7_routeLength x y Zc) (sX8_routeLength x y Zr) := by
  have hG0 := hG
  obtain ⟨N, Hs, n, ⟨hB, hA, hI, hu⟩, -⟩ := hG
  have h8 := hI.1.1
  have h5 := hI.1.2.2.2.1
  cases v : (viB x (N 0) && viB y (N 0)) with
  | false =>
    refine opI_e (e := 1) (rr := 0) (Zc' := Zc) (Zr' := pI Zr 0 8 1) hG0 ?_ ?_ (onlyR_rf _) (onlyX_8 _ _) (by decide) (by decide) (gI_pI_s _ _ _ _)
    · unfold sX7_routeLength
      rw [nsw_f hB v, bnd_s]; rfl
    · unfold sX8_routeLength
      rw [m_sh_f hA h8 v, bnd_s]
  | true =>
    have v2 := v
    rw [Bool.and_eq_true] at v2
    obtain ⟨s, s1, rfl⟩ := viB_t (by omega) v2.1
    obtain ⟨g, g1, rfl⟩ := viB_t (by omega) v2.2
    obtain ⟨d', hd'⟩ := ex_isD hI (rNet_of hB) g1 (frE N 5)
    obtain ⟨Z1, d, a1, a2, a3, a4⟩ := p_shortest (p := free N) (g := g) hI (rNet_of hB) s1 (by omega)
    obtain ⟨Zr', b1, b2, b3⟩ := m_sh_t hA hI s1 g1 hd'
    have hsym := d_sym hI s1 g1 a4 (isD_congr hd' (fun i hi => frE_free (by omega) hi))
    have ec : sX7_routeLength (nI s) (nI g) Zc = bnd (sX7_needLength (sLen d g) Z1) (fun q_4 => thr q_4 (fun r9 Zq => some (.inr r9, Zq))) := by
      unfold sX7_routeLength
      rw [nsw_t hB v, bnd_s, thr_inr, p_freeTrunks hB hI, bnd_s]
      show bnd (sX5_shortestLength (19 + 1) (nI (msk (free N) 16)) (nI s) (nI g) Zc) _ = _
      rw [a1, bnd_s]
    by_cases c : d' s < 1000000
    · have e := hsym (Or.inr c)
      rw [if_pos c] at b1 b3
      refine opI_v (v := nI (d' s / 8)) (Zc' := Z1) (Zr' := Zr') hG0 ?_ (by unfold sX8_routeLength; rw [b1, bnd_s]) (onlyR_15 a3) b2 b3
      rw [ec]
      unfold sLen sX7_needLength
      rw [e, if_pos c, if_neg (ne_m1 (by omega)), bnd_s]; rfl
    · have c2 : ¬ d g < 1000000 := fun q => c (by rw [← hsym (Or.inl q)]; exact q)
      rw [if_neg c] at b1 b3
      refine opI_e (e := 5) (rr := 0) (Zc' := Z1) (Zr' := Zr') hG0 ?_ (by unfold sX8_routeLength; rw [b1, bnd_s]) (onlyR_15 a3) b2 (by decide) (by decide) b3
      rw [ec]
      unfold sLen sX7_needLength
      rw [if_neg c2, if_pos rfl, bnd_s]; rfl
theorem o_routeLengthByRelaxation (hG : G lw W Zc Zr) : opI lw W cd1 (sX7_routeLengthByRelaxation x y Zc) (sX8_routeLengthByRelaxation x y Zr) := by
  have hG0 := hG
  obtain ⟨N, Hs, n, ⟨hB, hA, hI, hu⟩, -⟩ := hG
  have h8 := hI.1.1
  have h5 := hI.1.2.2.2.1
  cases v : (viB x (N 0) && viB y (N 0)) with
  | false =>
    refine opI_e (e := 1) (rr := 0) (Zc' := Zc) (Zr' := pI Zr 0 8 1) hG0 ?_ ?_ (onlyR_rf _) (onlyX_8 _ _) (by decide) (by decide) (gI_pI_s _ _ _ _)
    · unfold sX7_routeLengthByRelaxation
      rw [nsw_f hB v, bnd_s]; rfl
    · unfold sX8_routeLengthByRelaxation
      rw [m_sh_f hA h8 v, bnd_s]
  | true =>
    have v2 := v
    rw [Bool.and_eq_true] at v2
    obtain ⟨s, s1, rfl⟩ := viB_t (by omega) v2.1
    obtain ⟨g, g1, rfl⟩ := viB_t (by omega) v2.2
    obtain ⟨d', hd'⟩ := ex_isD hI (rNet_of hB) g1 (frE N 5)
    obtain ⟨Zx, d, -, hrd, -, a4⟩ := p_measure (p := free N) hI (rNet_of hB) s1
    obtain ⟨Z1, a1, a3⟩ := p_relaxed (g := g) hI (rNet_of hB) s1 (by omega) a4 (fun v hv => (hrd v hv).2)
    obtain ⟨Zr', b1, b2, b3⟩ := m_sh_t hA hI s1 g1 hd'
    have hsym := d_sym hI s1 g1 a4 (isD_congr hd' (fun i hi => frE_free (by omega) hi))
    have ec : sX7_routeLengthByRelaxation (nI s) (nI g) Zc = bnd (sX7_needLength (sLen d g) Z1) (fun q_4 => thr q_4 (fun r9 Zq => some (.inr r9, Zq))) := by
      unfold sX7_routeLengthByRelaxation
      rw [nsw_t hB v, bnd_s, thr_inr, p_freeTrunks hB hI, bnd_s]
      show bnd (sX5_relaxedLength (19 + 1) (nI (msk (free N) 16)) (nI s) (nI g) Zc) _ = _
      rw [a1, bnd_s]
    by_cases c : d' s < 1000000
    · have e := hsym (Or.inr c)
      rw [if_pos c] at b1 b3
      refine opI_v (v := nI (d' s / 8)) (Zc' := Z1) (Zr' := Zr') hG0 ?_ (by unfold sX8_routeLengthByRelaxation; rw [b1, bnd_s]) (onlyR_15 a3) b2 b3
      rw [ec]
      unfold sLen sX7_needLength
      rw [e, if_pos c, if_neg (ne_m1 (by omega)), bnd_s]; rfl
    · have c2 : ¬ d g < 1000000 := fun q => c (by rw [← hsym (Or.inl q)]; exact q)
      rw [if_neg c] at b1 b3
      refine opI_e (e := 5) (rr := 0) (Zc' := Z1) (Zr' := Zr') hG0 ?_ (by unfold sX8_routeLengthByRelaxation; rw [b1, bnd_s]) (onlyR_15 a3) b2 (by decide) (by decide) b3
      rw [ec]
      unfold sLen sX7_needLength
      rw [if_neg c2, if_pos rfl, bnd_s]; rfl
theorem m_lst {N : NN} (hA : rA N Zr 1) (h8 : N 0 ≤ 8) : sX8_least x y Zr = sX8_least_B31 x y (if viB x (N 0) && viB y (N 0) then (if x = y then 2 else 0) else 1) Zr := by
  unfold sX8_least
  rw [m_isSw hA (by omega), bnd_s]
  cases vx : viB x (N 0) with
  | false => rfl
  | true =>
    simp only [if_true, Bool.true_and]
    rw [if_neg (by decide), m_isSw hA (by omega), bnd_s]
    cases vy : viB y (N 0) with
    | false => rfl
    | true =>
      simp only [if_true]
      rw [if_neg (by decide)]
      split <;> rfl
theorem lst_cases {N : NN} (hB : rB N Zc 19) (hA : rA N Zr 1) (hI : iN N W) : (sX7_needSwitches x y Zc = some (.inl 1, Zc) ∧ sX8_least x y Zr = some (0, pI Zr 0 8 1)) ∨ (sX7_needSwitches x y Zc = some (.inr (), Zc) ∧ x = y ∧ sX8_least x y Zr = some (0, pI Zr 0 8 2)) ∨
    (∃ a b, x = nI a ∧ y = nI b ∧ a < N 0 ∧ b < N 0 ∧ a ≠ b ∧ x ≠ y ∧ sX7_needSwitches x y Zc = some (.inr (), Zc) ∧ sX8_least x y Zr = some (nI (leastN N (free N) a b (2 ^ N 0)), pI Zr 0 8 0)) := by
  have h8 := hI.1.1
  have h5 := hI.1.2.2.2.1
  cases v : (viB x (N 0) && viB y (N 0)) with
  | false =>
    left
    refine ⟨nsw_f hB v, ?_⟩
    rw [m_lst hA h8, v]
    unfold sX8_least_B31
    rw [nm_d, gI_pI_s]; rfl
  | true =>
    right
    by_cases c : x = y
    · left
      refine ⟨nsw_t hB v, c, ?_⟩
      rw [m_lst hA h8, v, if_pos rfl, if_pos c]
      unfold sX8_least_B31
      rw [nm_d, gI_pI_s, if_neg nm2p]
    · right
      have v2 := v
      rw [Bool.and_eq_true] at v2
      obtain ⟨a, a1, rfl⟩ := viB_t (by omega) v2.1
      obtain ⟨b, b1, rfl⟩ := viB_t (by omega) v2.2
      refine ⟨a, b, rfl, rfl, a1, b1, fun e => c (by rw [e]), c, nsw_t hB v, ?_⟩
      rw [m_lst hA h8, v, if_pos rfl, if_neg c]
      unfold sX8_least_B31
      rw [nm_d, gI_pI_s, if_pos le00]
      have := p_least_L (a := a) (b := b) hI (rA_8 (x := 0) hA) (by omega) (by omega) (2 ^ N 0) 0 3000 (by omega) (by have := pow_N0 hI; omega)
      rw [leastN_congr (q := free N) (fun i hi => frE_free (by omega) hi) (2 ^ N 0)] at this
      exact this
theorem o_disjointRoutes (hG : G lw W Zc Zr) : opI lw W cd1 (sX7_disjointRoutes x y Zc) (sX8_disjointRoutes x y Zr) := by
  have hG0 := hG
  obtain ⟨N, Hs, n, ⟨hB, hA, hI, hu⟩, -⟩ := hG
  have h8 := hI.1.1
  rcases lst_cases (x := x) (y := y) hB hA hI with ⟨h1, h2⟩ | ⟨h1, hxy, h2⟩ | ⟨a, b, rfl, rfl, a1, b1, hab, hne, h1, h2⟩
  · exact opI_e (e := 1) (rr := 0) (Zc' := Zc) (Zr' := pI Zr 0 8 1) hG0 (by unfold sX7_disjointRoutes; rw [h1, bnd_s]; rfl) (by unfold sX8_disjointRoutes; rw [h2, bnd_s]) (onlyR_rf _) (onlyX_8 _ _) (by decide) (by decide) (gI_pI_s _ _ _ _)
  · exact opI_e (e := 2) (rr := 0) (Zc' := Zc) (Zr' := pI Zr 0 8 2) hG0 (by unfold sX7_disjointRoutes sX7_needDifferent; rw [h1, bnd_s, thr_inr, if_pos hxy, bnd_s]; rfl) (by unfold sX8_disjointRoutes; rw [h2, bnd_s]) (onlyR_rf _) (onlyX_8 _ _) (by decide) (by decide) (gI_pI_s _ _ _ _)
  · obtain ⟨Z1, c1, c2⟩ := p_count (p := free N) hI (rNet_of hB) a1 b1 hab
    refine opI_v (v := nI (leastN N (free N) a b (2 ^ N 0))) (Zc' := Z1) (Zr' := pI Zr 0 8 0) hG0 ?_ (by unfold sX8_disjointRoutes; rw [h2, bnd_s]) c2 (onlyX_8 _ _) (gI_pI_s _ _ _ _)
    unfold sX7_disjointRoutes sX7_needDifferent
    rw [h1, bnd_s, thr_inr, if_neg hne, bnd_s, thr_inr, p_freeTrunks hB hI, bnd_s]
    show bnd (sX5_countDisjoint (19 + 1) (nI (msk (free N) 16)) (nI a) (nI b) Zc) _ = _
    rw [c1, bnd_s]
theorem o_minimalCut (hG : G lw W Zc Zr) : opI lw W cd1 (sX7_minimalCut x y Zc) (sX8_minimalCut x y Zr) := by
  have hG0 := hG
  obtain ⟨N, Hs, n, ⟨hB, hA, hI, hu⟩, -⟩ := hG
  have h8 := hI.1.1
  rcases lst_cases (x := x) (y := y) hB hA hI with ⟨h1, h2⟩ | ⟨h1, hxy, h2⟩ | ⟨a, b, rfl, rfl, a1, b1, hab, hne, h1, h2⟩
  · exact opI_e (e := 1) (rr := 0) (Zc' := Zc) (Zr' := pI Zr 0 8 1) hG0 (by unfold sX7_minimalCut; rw [h1, bnd_s]; rfl) (by unfold sX8_minimalCut; rw [h2, bnd_s]) (onlyR_rf _) (onlyX_8 _ _) (by decide) (by decide) (gI_pI_s _ _ _ _)
  · exact opI_e (e := 2) (rr := 0) (Zc' := Zc) (Zr' := pI Zr 0 8 2) hG0 (by unfold sX7_minimalCut sX7_needDifferent; rw [h1, bnd_s, thr_inr, if_pos hxy, bnd_s]; rfl) (by unfold sX8_minimalCut; rw [h2, bnd_s]) (onlyR_rf _) (onlyX_8 _ _) (by decide) (by decide) (gI_pI_s _ _ _ _)
  · have c1 := p_cut (p := free N) (t := 19 + 1) (a := a) (b := b) (Z := Zc) hI (rNet_of hB) (by omega) (by omega)
    refine opI_v (v := nI (leastN N (free N) a b (2 ^ N 0))) (Zc' := Zc) (Zr' := pI Zr 0 8 0) hG0 ?_ (by unfold sX8_minimalCut; rw [h2, bnd_s]) (onlyR_rf _) (onlyX_8 _ _) (gI_pI_s _ _ _ _)
    unfold sX7_minimalCut sX7_needDifferent
    rw [h1, bnd_s, thr_inr, if_neg hne, bnd_s, thr_inr, p_freeTrunks hB hI, bnd_s]
    show bnd (sX5_smallestCut (19 + 1) (nI (msk (free N) 16)) (nI a) (nI b) Zc) _ = _
    rw [c1, bnd_s]
theorem ob_cases {m : Nat} (hm : m ≤ 8) (h1 : gI Zc 3 0 = nI m) (h2 : gI Zr 0 12 = nI m) : (sX7_needBlocked x Zc = some (.inl 5, Zc) ∧ ∀ o, sX8_ofBlocked x o Zr = some (0, pI Zr 0 8 1)) ∨
    (∃ j, j < m ∧ x = nI j ∧ sX7_needBlocked x Zc = some (.inr (), Zc) ∧ ∀ o, o < 3 → sX8_ofBlocked x (nI o) Zr = some (gI Zr 5 (3 * j + o), pI Zr 0 8 0)) := by
  cases v : viB x m with
  | false =>
    left
    constructor
    · unfold sX7_needBlocked
      rw [h1]
      by_cases c : x < 0
      · rw [if_pos c]
      · have : ¬ x < nI m := fun q => by
          obtain ⟨j, j1, rfl⟩ := nI_of c
          rw [lt_nn j1 (by omega)] at q
          rw [viB_n q (by omega)] at v; cases v
        rw [if_neg c, if_neg this]
    · intro o
      unfold sX8_ofBlocked
      rw [h2, p_in0 (by omega), v, bnd_s]
      show bnd (sX8_checked 0 Zr) _ = _
      rw [chk_f, bnd_s]; rfl
  | true =>
    right
    obtain ⟨j, j1, rfl⟩ := viB_t (by omega) v
    refine ⟨j, j1, rfl, ?_, fun o ho => ?_⟩
    · unfold sX7_needBlocked
      rw [h1, if_neg (nI_pos (by omega)), if_pos (nI_lt j1 (by omega))]
    · unfold sX8_ofBlocked
      rw [h2, p_in0 (by omega), v, bnd_s]
      show bnd (sX8_checked 1 Zr) _ = _
      rw [chk_t, bnd_s, if_pos le00, show (3 : Int32) * nI j = nI (3 * j) from pk_mul 3 j, nI_add, gd_t (vin_n (by omega) (by decide)), cl_n (by omega), gI_pI_k _ _ _ _ (by decide)]
theorem o_blockedCaller (hG : G lw W Zc Zr) : opI lw W cd2 (sX7_blockedCaller x Zc) (sX8_blockedCaller x Zr) := by
  have hG0 := hG
  obtain ⟨N, Hs, n, -, ⟨m, hm, h1, h2, h3⟩, -⟩ := hG
  rcases ob_cases (x := x) hm h1 h2 with ⟨a, b⟩ | ⟨j, j1, rfl, a, b⟩
  · exact opI_e (e := 5) (rr := 0) (Zc' := Zc) (Zr' := pI Zr 0 8 1) hG0 (by unfold sX7_blockedCaller; rw [a, bnd_s]; rfl) (by unfold sX8_blockedCaller; rw [b, bnd_s]) (onlyR_rf _) (onlyX_8 _ _) (by decide) (by decide) (gI_pI_s _ _ _ _)
  · refine opI_v (v := gI Zc 4 j) (Zc' := Zc) (Zr' := pI Zr 0 8 0) hG0 ?_ ?_ (onlyR_rf _) (onlyX_8 _ _) (gI_pI_s _ _ _ _)
    · unfold sX7_blockedCaller
      rw [a, bnd_s, thr_inr, gd_t (vin_n (by omega) (by decide)), cl_n (by omega)]
    · unfold sX8_blockedCaller
      rw [show sX8_ofBlocked (nI j) 0 Zr = _ from b 0 (by decide), bnd_s, Nat.add_zero, (h3 j j1).1]
theorem o_blockedCallee (hG : G lw W Zc Zr) : opI lw W cd2 (sX7_blockedCallee x Zc) (sX8_blockedCallee x Zr) := by
  have hG0 := hG
  obtain ⟨N, Hs, n, -, ⟨m, hm, h1, h2, h3⟩, -⟩ := hG
  rcases ob_cases (x := x) hm h1 h2 with ⟨a, b⟩ | ⟨j, j1, rfl, a, b⟩
  · exact opI_e (e := 5) (rr := 0) (Zc' := Zc) (Zr' := pI Zr 0 8 1) hG0 (by unfold sX7_blockedCallee; rw [a, bnd_s]; rfl) (by unfold sX8_blockedCallee; rw [b, bnd_s]) (onlyR_rf _) (onlyX_8 _ _) (by decide) (by decide) (gI_pI_s _ _ _ _)
  · refine opI_v (v := gI Zc 5 j) (Zc' := Zc) (Zr' := pI Zr 0 8 0) hG0 ?_ ?_ (onlyR_rf _) (onlyX_8 _ _) (gI_pI_s _ _ _ _)
    · unfold sX7_blockedCallee
      rw [a, bnd_s, thr_inr, gd_t (vin_n (by omega) (by decide)), cl_n (by omega)]
    · unfold sX8_blockedCallee
      rw [show sX8_ofBlocked (nI j) 1 Zr = _ from b 1 (by decide), bnd_s, (h3 j j1).2.1]
theorem br_ok {w : Int32} (h : w = 98 ∨ w = 114) : nch w = true ∧ ichar w = w := by
  rcases h with h | h <;> subst h <;> decide
theorem o_blockedReason (hG : G lw W Zc Zr) : opI lw W cd2 (sX7_blockedReason x Zc) (sX8_blockedReason x Zr) := by
  have hG0 := hG
  obtain ⟨N, Hs, n, -, ⟨m, hm, h1, h2, h3⟩, -⟩ := hG
  rcases ob_cases (x := x) hm h1 h2 with ⟨a, b⟩ | ⟨j, j1, rfl, a, b⟩
  · exact opI_e (e := 5) (rr := 32) (Zc' := Zc) (Zr' := pI Zr 0 8 1) hG0 (by unfold sX7_blockedReason; rw [a, bnd_s]; rfl) (by unfold sX8_blockedReason; rw [b, bnd_s, nm_d, gI_pI_s, if_neg (by decide), gd_t (by decide)]) (onlyR_rf _) (onlyX_8 _ _) (by decide) (by decide) (gI_pI_s _ _ _ _)
  · obtain ⟨-, -, q1, q2⟩ := h3 j j1
    obtain ⟨r1, r2⟩ := br_ok q2
    refine opI_v (v := gI Zc 6 j) (Zc' := Zc) (Zr' := pI Zr 0 8 0) hG0 ?_ ?_ (onlyR_rf _) (onlyX_8 _ _) (gI_pI_s _ _ _ _)
    · unfold sX7_blockedReason
      rw [a, bnd_s, thr_inr, gd_t (vin_n (by omega) (by decide)), cl_n (by omega), gd_t r1]
    · unfold sX8_blockedReason
      rw [show sX8_ofBlocked (nI j) 2 Zr = _ from b 2 (by decide), bnd_s, nm_d, gI_pI_s, if_pos le00, q1, r2, gd_t r1]
/-! sums -/
theorem c_sum_L {N : NN} (hB : rB N Zc 19) (h10 : N 2 ≤ 10) (hb : ∀ i, i < N 2 → nU N i 2 < 2 ^ 31) : ∀ (e i n : Nat), i + e = N 2 → e < n → sX6_sumOfBills_L4 19 n (lN (sumf (fun i => nU N i 2) i)) (nI i) Zc = some (lN (sumf (fun i => nU N i 2) (N 2)), Zc) := by
  obtain ⟨⟨a0, a1, a2, a3, a4, a5⟩, am, aT, aU, aC⟩ := rB19.1 hB
  intro e
  induction e with
  | zero =>
    intro i n hi hn
    obtain ⟨n, rfl⟩ : ∃ q, n = q + 1 := ⟨n - 1, by omega⟩
    rw [sX6_sumOfBills_L4, a2, if_pos (nI_le (by omega) (by omega)), show i = N 2 by omega]
  | succ e ih =>
    intro i n hi hn
    obtain ⟨n, rfl⟩ : ∃ q, n = q + 1 := ⟨n - 1, by omega⟩
    rw [sX6_sumOfBills_L4, a2, if_neg (nI_ge (by omega) (by omega)), gd_t (vin_n (by omega) (by decide)), nm_d, cl_n (by omega), show gI Zc (19 + 8) i = _ from (aU i (by omega)).2.2, nI_l (hb i (by omega)), lN_add, ad_n1]
    exact ih (i + 1) n (by omega) (by omega)
theorem sumf_ge {f : Nat → Nat} : ∀ n i, i < n → f i ≤ sumf f n := by
  intro n
  induction n with
  | zero => intro i hi; omega
  | succ n ih =>
    intro i hi
    show f i ≤ sumf f n + f n
    by_cases c : i = n
    · rw [c]; omega
    · have := ih i (by omega); omega
theorem c_sum {N : NN} (hB : rB N Zc 19) (hI : iN N W) (hW : W ≤ 7000) : sX6_sumOfBills 19 Zc = some (lN (N 5), Zc) := by
  have h10 := hI.1.2.2.1
  have hS := hI.2.2.2.2.2.2.2.1
  have hBd := hI.2.2.2.2.2.2.2.2
  unfold sX6_sumOfBills
  rw [gd_t (by decide)]
  have := c_sum_L hB h10 (fun i hi => by
    have := sumf_ge (f := fun i => nU N i 2) (N 2) i hi
    have e : (fun i => nU N i 2) i = nU N i 2 := rfl
    omega) (N 2) 0 3000 (by omega) (by omega)
  rw [hS] at this
  exact this
def opL (lw : LW) (W : Nat) (oc or : Option (Int64 × ZZ)) : Prop := ∃ r Zc' Zr', oc = some (r, Zc') ∧ or = some (r, Zr') ∧ G lw W Zc' Zr'
theorem o_totalBills (hG : G lw W Zc Zr) (hW : W ≤ 7000) : opL lw W (sX7_totalBills Zc) (sX8_totalBills Zr) := by
  have hG0 := hG
  obtain ⟨N, Hs, n, ⟨hB, hA, hI, hu⟩, -⟩ := hG
  have hBd := hI.2.2.2.2.2.2.2.2
  refine ⟨lN (N 5), Zc, pI Zr 0 8 0, ?_, ?_, G_look hG0 (onlyR_rf _) (onlyX_8 _ _)⟩
  · unfold sX7_totalBills
    rw [c_sum hB hI hW, bnd_s]
  · unfold sX8_totalBills sX8_plain
    rw [gd_t (by decide), g5 hA, nm_d, bnd_s, nI_l (by omega)]
theorem o_totalCharges (hG : G lw W Zc Zr) (hW : W ≤ 7000) : opL lw W (sX7_totalCharges Zc) (sX8_totalCharges Zr) := by
  have hG0 := hG
  obtain ⟨N, Hs, n, ⟨hB, hA, hI, hu⟩, -⟩ := hG
  have hBd := hI.2.2.2.2.2.2.2.2
  refine ⟨lN (N 5), Zc, pI Zr 0 8 0, ?_, ?_, G_look hG0 (onlyR_rf _) (onlyX_8 _ _)⟩
  · unfold sX7_totalCharges
    rw [(rB19.1 hB).1.2.2.2.2.2]
  · unfold sX8_totalCharges sX8_plain
    rw [gd_t (by decide), g5 hA, nm_d, bnd_s, nI_l (by omega)]
theorem c_share_L {N : NN} (hB : rB N Zc 19) (hI : iN N W) (hu : uN N) : ∀ (e i n : Nat), i + e = N 3 → e < n → sX6_sharesNoTrunk_L10 19 n (nI (msk (fun i => decide (nT N i 3 = 1)) 16 ||| uBits N i)) (nI i) Zc = some (1, Zc) := by
  have h5 := hI.1.2.2.2.1
  have h16 := hI.1.2.1
  have a3 := (rB19.1 hB).1.2.2.2.1
  intro e
  induction e with
  | zero =>
    intro i n hi hn
    obtain ⟨n, rfl⟩ : ∃ q, n = q + 1 := ⟨n - 1, by omega⟩
    rw [sX6_sharesNoTrunk_L10, a3, if_pos (nI_le (by omega) (by omega))]
  | succ e ih =>
    intro i n hi hn
    obtain ⟨n, rfl⟩ : ∃ q, n = q + 1 := ⟨n - 1, by omega⟩
    have ez : (msk (fun i => decide (nT N i 3 = 1)) 16 ||| uBits N i) &&& cBits N i = 0 := by
      apply Nat.eq_of_testBit_eq
      intro x
      rw [Nat.testBit_and, Nat.testBit_or, msk_bit, uBits_bit, cBits_bit, Nat.zero_testBit]
      cases ho : onC N i x with
      | false => rw [Bool.and_false]
      | true =>
        obtain ⟨j, j1, j2⟩ := of_decide_eq_true ho
        have q := hu i (by omega) j j1
        rw [j2] at q
        have e1 : decide (nT N x 3 = 1) = false := decide_eq_false (by omega)
        have e2 : decide (∃ k, k < i ∧ onC N k x = true) = false := decide_eq_false (fun ⟨k, k1, k2⟩ => by
          have := (hI.2.2.2.2.2.2.1 k i (by omega) (by omega) (by omega)).2.2.2 x k2
          rw [ho] at this; cases this)
        rw [e1, e2]; simp
    rw [sX6_sharesNoTrunk_L10, a3, if_neg (nI_ge (by omega) (by omega)), gd_t (vin_n (by omega) (by decide)), elC19 (by omega), show sX1_trunkBits (29 + 2 * i) Zc = some (nI (cBits N i), Zc) from p_tb hB hI (by omega), bnd_s, nm_d]
    dsimp only
    rw [and_nn, ez, if_pos (by decide), or_nn, nm_d, nm_d, ad_n1, Nat.or_assoc]
    exact ih (i + 1) n (by omega) (by omega)
theorem o_isConsistent (hG : G lw W Zc Zr) (hW : W ≤ 7000) : opP lw W (sX7_isConsistent Zc) (sX8_isConsistent Zr) := by
  have hG0 := hG
  obtain ⟨N, Hs, n, ⟨hB, hA, hI, hu⟩, -⟩ := hG
  obtain ⟨Z1, a1, a2⟩ := p_agree (p := free N) hI (rNet_of hB)
  have hB1 := rB_R hB hI a2
  refine opP_v hG0 (v := 1) (Zc' := Z1) (Zr' := pI Zr 0 8 0) ?_ ?_ a2 (onlyX_8 _ _)
  · unfold sX7_isConsistent
    rw [p_freeTrunks hB hI, bnd_s]
    show bnd (sX5_agreesWithItself (19 + 1) (nI (msk (free N) 16)) Zc) _ = _
    rw [a1, bnd_s]
    dsimp only
    rw [if_neg (by decide), c_sum hB1 hI hW, bnd_s, (rB19.1 hB1).1.2.2.2.2.2]
    have hz : lg_cmp (lN (N 5)) (lN (N 5)) = 0 := by unfold lg_cmp; simp
    dsimp only
    rw [hz, if_pos rfl]
    unfold sX6_sharesNoTrunk
    rw [gd_t (by decide), show gI Z1 (19 + 1) 6 = _ from (rB19.1 hB1).2.1, nm_d]
    have := c_share_L hB1 hI hu (N 3) 0 3000 (by omega) (by have := hI.1.2.2.2.1; omega)
    rw [show uBits N 0 = 0 from rfl, Nat.or_zero] at this
    rw [show sX6_sharesNoTrunk_L10 19 3000 (nI (msk (fun i => decide (nT N i 3 = 1)) 16)) 0 Z1 = _ from this, bnd_s]
    dsimp only
    rw [if_neg (by decide)]
  · unfold sX8_isConsistent sX8_plain
    rw [nm_d, bnd_s, if_pos rfl]
end Q
