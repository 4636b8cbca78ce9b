/-! relaxedLength answers what shortestLength answers -/
def lowD (D d : Nat → Nat) : Prop := ∀ v, v < 8 → D v ≤ d v
theorem updN_le (d : Nat → Nat) (v x w : Nat) : updN d v (min (d v) x) w ≤ d w := by
  unfold updN
  by_cases c : w = v
  · subst c; rw [if_pos rfl]; omega
  · rw [if_neg c]; exact Nat.le_refl _
theorem updN_s (d : Nat → Nat) (v x : Nat) : updN d v x v = x := if_pos rfl
theorem low_upd {N : NN} {W : Nat} {ky : Nat → Nat} {p : Nat → Bool} {s v w k : Nat} {D d : Nat → Nat} (hI : iN N W) (h : isDG ky N p s D) (hl : lowD D d) (hm : ∀ v, v < 8 → D v ≤ 1000000) (he : edgeG ky N p v w k) : lowD D (updN d w (min (d w) (d v + k))) := by
  have h8 := hI.1.1
  obtain ⟨v1, w1, -⟩ := edgeG_lt hI he
  intro u hu
  unfold updN
  by_cases c : u = w
  · rw [if_pos c, c]
    have a := hl v (by omega)
    have b := hl w (by omega)
    rcases Nat.lt_or_ge (D v) 1000000 with q | q
    · have := h.2.1 v w k q he
      omega
    · have := hm w (by omega)
      omega
  · rw [if_neg c]; exact hl u hu
theorem p_relax_in {N : NN} {W t s : Nat} {p : Nat → Bool} {D : Nat → Nat} {x3 x4 y5 : Int32} {k18 : Int32 → ZZ → Option (Int32 × ZZ)} (hI : iN N W) (hG : isDG (fun l => l) N p s D) (hm : ∀ v, v < 8 → D v ≤ 1000000) : ∀ (e i n : Nat) (Z : ZZ) (d : Nat → Nat), i + e = N 1 → e < n → rNet N Z t → rD d Z → lowD D d →
    ∃ Z' d', sX5_relaxedLength_L30 t (nI (msk p 16)) x3 x4 k18 n y5 (nI i) Z = k18 (y5 + 1) Z' ∧ rD d' Z' ∧ only15 Z Z' ∧ lowD D d' ∧
      ∀ w, w < 8 → d' w ≤ d w ∧ ∀ j v, i ≤ j → j < N 1 → p j = true → ends N j v w → d' w ≤ d v + nT N j 2 := by
  have h16 := hI.1.2.1
  have h8 := hI.1.1
  intro e
  induction e with
  | zero =>
    intro i n Z d hi hn hR hD hl
    obtain ⟨n, rfl⟩ : ∃ q, n = q + 1 := ⟨n - 1, by omega⟩
    refine ⟨Z, d, ?_, hD, only15_rf Z, hl, fun w hw => ⟨Nat.le_refl _, fun j v h1 h2 => by omega⟩⟩
    rw [sX5_relaxedLength_L30, hR.2.2.1, if_pos (nI_le (by omega) (by omega)), nm_d]
  | succ e ih =>
    intro i n Z d hi hn hR hD hl
    obtain ⟨n, rfl⟩ : ∃ q, n = q + 1 := ⟨n - 1, by omega⟩
    have hmk := msk_lt p 16
    obtain ⟨hr0, hr1, hlen⟩ := hR.2.2.2 i (by omega)
    obtain ⟨q0, q1, q2, q3, q4, -⟩ := hI.2.1 i (by omega)
    rw [sX5_relaxedLength_L30, hR.2.2.1, if_neg (nI_ge (by omega) (by omega)), p_hasBit (by omega) (by omega), bnd_s, msk_bit]
    have e2 : decide (i < 16) = true := decide_eq_true (by omega)
    rw [e2, Bool.true_and]
    cases hp : p i with
    | false =>
      simp only [Bool.false_eq_true, if_false]
      rw [if_pos trivial, nm_d, ad_n1]
      obtain ⟨Z', d', h1, h2, h3, h4, h5⟩ := ih (i + 1) n Z d (by omega) (by omega) hR hD hl
      refine ⟨Z', d', h1, h2, h3, h4, fun w hw => ⟨(h5 w hw).1, fun j v j1 j2 j3 j4 => ?_⟩⟩
      by_cases c : j = i
      · subst c; rw [hp] at j3; cases j3
      · exact (h5 w hw).2 j v (by omega) j2 j3 j4
    | true =>
      simp only [if_true]
      have ha8 : nT N i 0 < 8 := by omega
      have hb8 : nT N i 1 < 8 := by omega
      have hda := (hD _ ha8).2
      have hdb := (hD _ hb8).2
      obtain ⟨Z1, s1, s2, s3⟩ := p_shorten (v := nT N i 1) (x := d (nT N i 0) + nT N i 2) hD hb8 (by omega)
      have hR1 := rNet_15 hR s3
      obtain ⟨-, -, hlen1⟩ := hR1.2.2.2 i (by omega)
      have hdb1 := (s2 _ hb8).2
      obtain ⟨Z2, s4, s5, s6⟩ := p_shorten (v := nT N i 0) (x := updN d (nT N i 1) (min (d (nT N i 1)) (d (nT N i 0) + nT N i 2)) (nT N i 1) + nT N i 2) s2 ha8 (by omega)
      rw [if_neg (by decide), gd_t (vin_n (by omega) (by decide)), nm_d, gd_t (vin_n (by omega) (by decide)), nm_d, cl_n (by omega), hr0, hr1, p_dist hD ha8, bnd_s, gd_t (vin_n (by omega) (by decide)), hlen]
      simp only [nI_add, s1, bnd_s, p_dist s2 hb8]
      rw [gd_t (vin_n (by omega) (by decide)), hlen1]
      simp only [nI_add, s4, bnd_s, nm_d, ad_n1]
      have l1 := low_upd (v := nT N i 0) (w := nT N i 1) hI hG hl hm ⟨i, by omega, hp, rfl, Or.inl ⟨rfl, rfl⟩⟩
      have l2 := low_upd (v := nT N i 1) (w := nT N i 0) hI hG l1 hm ⟨i, by omega, hp, rfl, Or.inr ⟨rfl, rfl⟩⟩
      obtain ⟨Z', d', h1, h2, h3, h4, h5⟩ := ih (i + 1) n Z2 _ (by omega) (by omega) (rNet_15 hR1 s6) s5 l2
      have m1 : ∀ w, updN d (nT N i 1) (min (d (nT N i 1)) (d (nT N i 0) + nT N i 2)) w ≤ d w := fun w => updN_le _ _ _ _
      have m2 : ∀ w, _ ≤ updN d (nT N i 1) (min (d (nT N i 1)) (d (nT N i 0) + nT N i 2)) w := fun w => updN_le _ (nT N i 0) (updN d (nT N i 1) (min (d (nT N i 1)) (d (nT N i 0) + nT N i 2)) (nT N i 1) + nT N i 2) w
      have m3 := updN_s d (nT N i 1) (min (d (nT N i 1)) (d (nT N i 0) + nT N i 2))
      have m4 := updN_s (updN d (nT N i 1) (min (d (nT N i 1)) (d (nT N i 0) + nT N i 2))) (nT N i 0) (min (updN d (nT N i 1) (min (d (nT N i 1)) (d (nT N i 0) + nT N i 2)) (nT N i 0)) (updN d (nT N i 1) (min (d (nT N i 1)) (d (nT N i 0) + nT N i 2)) (nT N i 1) + nT N i 2))
      refine ⟨Z', d', h1, h2, only15_tr s3 (only15_tr s6 h3), h4, fun w hw => ⟨?_, fun j v j1 j2 j3 j4 => ?_⟩⟩
      · have := (h5 w hw).1
        have := m2 w
        have := m1 w
        omega
      · by_cases c : j = i
        · subst c
          have g := (h5 w hw).1
          rcases j4 with ⟨rfl, rfl⟩ | ⟨rfl, rfl⟩
          · have := m2 (nT N j 1)
            omega
          · have := m1 (nT N j 1)
            omega
        · have g := (h5 w hw).2 j v (by omega) j2 j3 j4
          have := m2 v
          have := m1 v
          omega
theorem p_relax_out {N : NN} {W t s : Nat} {p : Nat → Bool} {D : Nat → Nat} {x3 x4 : Int32} (hI : iN N W) (hG : isDG (fun l => l) N p s D) (hm : ∀ v, v < 8 → D v ≤ 1000000) (hs0 : s < N 0) : ∀ (e r n : Nat) (Z : ZZ) (d : Nat → Nat), r + 1 + e = N 0 → e < n → rNet N Z t → rD d Z → lowD D d → d s = 0 →
    (∀ v, v < 8 → D v < 1000000 → rnk N D v ≤ r → d v ≤ D v) →
    ∃ Z' d', sX5_relaxedLength_L18 t (nI (msk p 16)) x3 x4 n (nI (r + 1)) Z = sX5_relaxedLength_B118 t (nI (msk p 16)) x3 x4 Z' ∧ rD d' Z' ∧ only15 Z Z' ∧ ∀ v, v < 8 → d' v = D v := by
  have h16 := hI.1.2.1
  have h8 := hI.1.1
  intro e
  induction e with
  | zero =>
    intro r n Z d hi hn hR hD hl hz hr
    obtain ⟨n, rfl⟩ : ∃ q, n = q + 1 := ⟨n - 1, by omega⟩
    refine ⟨Z, d, ?_, hD, only15_rf Z, fun v hv => ?_⟩
    · rw [sX5_relaxedLength_L18, hR.2.1, if_pos (nI_le (by omega) (by omega))]
    · have a := hl v hv
      have b := (hD v hv).2
      rcases Nat.lt_or_ge (D v) 1000000 with q | q
      · have hvN : v < N 0 := by
          rcases hG.2.2 v hv q with rfl | ⟨w, k, e1, -⟩
          · exact hs0
          · exact (edgeG_lt hI e1).2.1
        have := rnk_le (N := N) (d := D) hvN
        have := hr v hv q (by omega)
        omega
      · have := hm v hv
        omega
  | succ e ih =>
    intro r n Z d hi hn hR hD hl hz hr
    obtain ⟨n, rfl⟩ : ∃ q, n = q + 1 := ⟨n - 1, by omega⟩
    rw [sX5_relaxedLength_L18, hR.2.1, if_neg (nI_ge (by omega) (by omega))]
    obtain ⟨Z1, d1, m1, m2, m3, m4, m5⟩ := p_relax_in (x3 := x3) (x4 := x4) (y5 := nI (r + 1)) (k18 := fun y5 Z => sX5_relaxedLength_L18 t (nI (msk p 16)) x3 x4 n y5 Z) (p := p) hI hG hm (N 1) 0 3000 Z d (by omega) (by omega) hR hD hl
    rw [ad_n1] at m1
    obtain ⟨Z', d', q1, q2, q3, q4⟩ := ih (r + 1) n Z1 d1 (by omega) (by omega) (rNet_15 hR m3) m2 m4 (by have := (m5 s (by omega)).1; omega) (fun v hv hf hrk => by
      rcases hG.2.2 v hv hf with rfl | ⟨w, k, e1, e2, e3⟩
      · have := (m5 v hv).1; omega
      · obtain ⟨w1, -, -, l, l1, -, l3⟩ := edgeG_lt hI e1
        have hk : k = l := l3
        have h1 := rnk_lt (N := N) (d := D) w1 (show D w < D v by omega)
        have h2 := hr w (by omega) e2 (by omega)
        obtain ⟨j, j1, j2, j3, j4⟩ := e1
        have j3' : k = nT N j 2 := j3
        have := (m5 v hv).2 j w (by omega) j1 j2 j4
        omega)
    exact ⟨Z', d', m1.trans q1, q2, only15_tr m3 q3, q4⟩
/-- the distance in length alone, from the distance in length and number -/
def dLen (d : Nat → Nat) (v : Nat) : Nat := if d v < 1000000 then d v / 8 else 1000000
theorem dLen_G {N : NN} {W : Nat} {p : Nat → Bool} {s : Nat} {d : Nat → Nat} (hI : iN N W) (hs0 : s < N 0) (h : isD N p s d) : isDG (fun l => l) N p s (dLen d) := by
  have h1 := dec8_K (B := 1) (c := 0) hI hs0 (Or.inl ⟨rfl, rfl⟩) (isD_G h)
  have e1 : (fun l => 1 * l + 0) = (fun l : Nat => l) := by funext l; omega
  have e2 : (fun v => if d v < 1000000 then 1 * (d v / 8) + 0 * (d v % 8) else 1000000) = dLen d := by
    funext v
    unfold dLen
    rw [Nat.one_mul, Nat.zero_mul, Nat.add_zero]
  rw [e1, e2] at h1
  exact h1
/-- the answer: the length of the shortest way, -1 if there is none -/
def sLen (d : Nat → Nat) (v : Nat) : Int32 := if d v < 1000000 then nI (d v / 8) else -1
theorem p_shortest {N : NN} {Z : ZZ} {W t s g : Nat} {p : Nat → Bool} (hI : iN N W) (hR : rNet N Z t) (hs0 : s < N 0) (hg : g < 8) : ∃ Z' d, sX5_shortestLength t (nI (msk p 16)) (nI s) (nI g) Z = some (sLen d g, Z') ∧ rD d Z' ∧ only15 Z Z' ∧ isD N p s d := by
  obtain ⟨Z1, d, m1, m2, m3, m4⟩ := p_measure (p := p) hI hR hs0
  refine ⟨Z1, d, ?_, m2, m3, m4⟩
  have hd := (m2 g hg).2
  unfold sX5_shortestLength sLen
  rw [gd_t hR.1, m1, bnd_s, p_dist m2 hg, bnd_s]
  show (if nI (d g) < nI 1000000 then _ else _) = _
  by_cases c : d g < 1000000
  · rw [if_pos (nI_lt c (by omega)), if_pos c, p_dist m2 hg, bnd_s]
    show some (nI (d g) / 8, Z1) = _
    rw [show (8 : Int32) = nI 8 from rfl, pk_div (by omega) (by omega) (by omega)]
  · rw [if_neg (by rw [lt_nn (by omega) (by omega)]; exact c), if_neg c]
theorem p_relaxed {N : NN} {Z : ZZ} {W t s g : Nat} {p : Nat → Bool} {d : Nat → Nat} (hI : iN N W) (hR : rNet N Z t) (hs0 : s < N 0) (hg : g < 8) (hd : isD N p s d) (hb : ∀ v, v < 8 → d v ≤ 1000000) : ∃ Z', sX5_relaxedLength t (nI (msk p 16)) (nI s) (nI g) Z = some (sLen d g, Z') ∧ only15 Z Z' := by
  have h8 := hI.1.1
  obtain ⟨Z1, f1, f2, f3⟩ := p_fill5 (x := 1000000) (Z := Z)
  obtain ⟨Z2, g1, g2, g3⟩ := p_shorten (d := fun _ => 1000000) (v := s) (x := 0) (fun v hv => ⟨f2 v hv, Nat.le_refl _⟩) (by omega) (by omega)
  have e0 : ∀ v, updN (fun _ => 1000000) s (min 1000000 0) v = if v = s then 0 else 1000000 := fun v => rfl
  have hG := dLen_G hI hs0 hd
  have hm : ∀ v, v < 8 → dLen d v ≤ 1000000 := fun v hv => by
    have := hb v hv
    unfold dLen; split <;> omega
  obtain ⟨Z', d', q1, q2, q3, q4⟩ := p_relax_out (x3 := nI s) (x4 := nI g) hI hG hm hs0 (N 0 - 1) 0 3000 Z2 _ (by omega) (by omega) (rNet_15 (rNet_15 hR f3) g3) g2
    (fun v hv => by
      rw [e0]
      by_cases c : v = s
      · rw [if_pos c, c, hG.1]; exact Nat.le_refl _
      · rw [if_neg c]; exact hm v hv) (by rw [e0, if_pos rfl])
    (fun v hv hf hr => by
      rw [e0]
      by_cases c : v = s
      · rw [if_pos c]; omega
      · exfalso
        rcases hG.2.2 v hv hf with q | ⟨w, k, e1, e2, e3⟩
        · exact c q
        · obtain ⟨w1, -, -, l, l1, -, l3⟩ := edgeG_lt hI e1
          have hk : k = l := l3
          have := rnk_lt (N := N) (d := dLen d) w1 (show dLen d w < dLen d v by omega)
          omega)
  refine ⟨Z', ?_, only15_tr f3 (only15_tr g3 q3)⟩
  unfold sX5_relaxedLength
  rw [gd_t hR.1, show (1000000 : Int32) = nI 1000000 from rfl, f1, bnd_s, show (0 : Int32) = nI 0 from rfl, g1, bnd_s, show (1 : Int32) = nI (0 + 1) from rfl, q1]
  unfold sX5_relaxedLength_B118 sLen
  rw [p_dist q2 hg, bnd_s, q4 g hg]
  show (if nI (dLen d g) < nI 1000000 then _ else _) = _
  by_cases c : d g < 1000000
  · have e : dLen d g = d g / 8 := if_pos c
    rw [e, if_pos (nI_lt (by omega) (by omega)), if_pos c, p_dist q2 hg, bnd_s, q4 g hg, e]
  · have e : dLen d g = 1000000 := if_neg c
    rw [e, if_neg (by decide), if_neg c]
