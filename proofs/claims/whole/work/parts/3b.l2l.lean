/-! the reference's eight passes come to the distance -/
theorem p_m8_in {N : NN} {W c s : Nat} {D : Nat → Nat} {x1 y3 : Int32} {k39 : Int32 → ZZ → Option ZZ} (hI : iN N W) (hc : c < N 3 ∨ 5 ≤ c) (hG : isDG (fun l => 6000 * l + 1) N (frE N c) s D) (hm : ∀ v, v < 8 → D v ≤ 1000000) (hm2 : ∀ v, v < 8 → D v < 1000000 → D v ≤ 840007) : ∀ (e i n : Nat) (Z : ZZ) (fr hp : Nat → Nat) (M : Nat), i + e = N 1 → e < n → rA N Z 1 → rF fr hp M Z → M + 40 * e ≤ 5120 → lowD D (cmb fr hp) → (∀ v, v < 8 → fr v ≠ 9999 → D v < 1000000) →
    ∃ Z' fr' hp', sX8_measures_L48 x1 (cI c) k39 n y3 (nI i) Z = k39 (y3 + 1) Z' ∧ rF fr' hp' (M + 40 * e) Z' ∧ only67 Z Z' ∧ lowD D (cmb fr' hp') ∧ (∀ v, v < 8 → fr' v ≠ 9999 → D v < 1000000) ∧
      ∀ w, w < 8 → cmb fr' hp' w ≤ cmb fr hp w ∧ ∀ j v, i ≤ j → j < N 1 → frE N c j = true → ends N j v w → cmb fr' hp' w ≤ cmb fr hp v + (6000 * nT N j 2 + 1) := by
  have h16 := hI.1.2.1
  have h8 := hI.1.1
  intro e
  induction e with
  | zero =>
    intro i n Z fr hp M hi hn hA hF hM hl hre
    obtain ⟨n, rfl⟩ : ∃ q, n = q + 1 := ⟨n - 1, by omega⟩
    refine ⟨Z, fr, hp, ?_, hF, only67_rf Z, hl, hre, fun w hw => ⟨Nat.le_refl _, fun j v h1 h2 => by omega⟩⟩
    rw [sX8_measures_L48, gd_t (by decide), show ((1 : Int32).toNatClampNeg) = 1 from by decide, hA 1 (by decide), if_pos (nI_le (by omega) (by omega)), nm_d]
  | succ e ih =>
    intro i n Z fr hp M hi hn hA hF hM hl hre
    obtain ⟨n, rfl⟩ : ∃ q, n = q + 1 := ⟨n - 1, by omega⟩
    obtain ⟨q0, q1, q2, q3, q4, -⟩ := hI.2.1 i (by omega)
    rw [sX8_measures_L48, gd_t (by decide), show ((1 : Int32).toNatClampNeg) = 1 from by decide, hA 1 (by decide), if_neg (nI_ge (by omega) (by omega)), p_isFree hA hI (by omega) hc, bnd_s]
    cases hp2 : frE N c i with
    | false =>
      simp only [Bool.false_eq_true, if_false]
      rw [if_pos trivial, nm_d, ad_n1]
      obtain ⟨Z', fr', hp', h1, h2, h3, h4, h5, h6⟩ := ih (i + 1) n Z fr hp M (by omega) (by omega) hA hF (by omega) hl hre
      refine ⟨Z', fr', hp', h1, fun v hv => ?_, h3, h4, h5, fun w hw => ⟨(h6 w hw).1, fun j v j1 j2 j3 j4 => ?_⟩⟩
      · obtain ⟨a, b, c, d⟩ := h2 v hv
        exact ⟨a, b, by omega, by omega⟩
      · by_cases c : j = i
        · subst c; rw [hp2] at j3; cases j3
        · exact (h6 w hw).2 j v (by omega) j2 j3 j4
    | true =>
      simp only [if_true]
      rw [if_neg (by decide), p_t0 hA (by omega), bnd_s]
      obtain ⟨Z1, fr1, hp1, a1, a2, a3, a4, a5⟩ := p_nears (x := nT N i 0) hA hI (show i < N 1 by omega) (Or.inl rfl) hF (by omega)
      have hA1 := rA_67 hA (by omega) a3
      obtain ⟨Z2, fr2, hp2', b1, b2, b3, b4, b5⟩ := p_nears (x := nT N i 1) hA1 hI (show i < N 1 by omega) (Or.inr rfl) a2 (by omega)
      have hA2 := rA_67 hA1 (by omega) b3
      simp only [a1, bnd_s]
      rw [p_t1 hA1 (by omega), bnd_s]
      simp only [b1, bnd_s, nm_d, ad_n1]
      have o0 : oth N i (nT N i 0) = nT N i 1 := if_pos rfl
      have o1 : oth N i (nT N i 1) = nT N i 0 := if_neg q2
      rw [o0] at a4 a5
      rw [o1] at b4 b5
      have he0 : edgeG (fun l => 6000 * l + 1) N (frE N c) (nT N i 1) (nT N i 0) (6000 * nT N i 2 + 1) := ⟨i, by omega, hp2, rfl, Or.inr ⟨rfl, rfl⟩⟩
      have he1 : edgeG (fun l => 6000 * l + 1) N (frE N c) (nT N i 0) (nT N i 1) (6000 * nT N i 2 + 1) := ⟨i, by omega, hp2, rfl, Or.inl ⟨rfl, rfl⟩⟩
      have l1 : lowD D (cmb fr1 hp1) := fun v hv => by rw [a4 v hv]; exact low_upd hI hG hl hm he0 v hv
      have l2 : lowD D (cmb fr2 hp2') := fun v hv => by rw [b4 v hv]; exact low_upd hI hG l1 hm he1 v hv
      have r1 : ∀ v, v < 8 → fr1 v ≠ 9999 → D v < 1000000 := fun v hv h => by
        rcases a5 v hv h with q | ⟨q, q'⟩
        · exact hre v hv q
        · have g1 := hre _ (by omega) q'
          have g2 := hm2 _ (by omega) g1
          have g3 := hG.2.1 _ _ _ g1 he0
          rw [q]; omega
      have r2 : ∀ v, v < 8 → fr2 v ≠ 9999 → D v < 1000000 := fun v hv h => by
        rcases b5 v hv h with q | ⟨q, q'⟩
        · exact r1 v hv q
        · have g1 := r1 _ (by omega) q'
          have g2 := hm2 _ (by omega) g1
          have g3 := hG.2.1 _ _ _ g1 he1
          rw [q]; omega
      obtain ⟨Z', fr', hp', h1, h2, h3, h4, h5, h6⟩ := ih (i + 1) n Z2 fr2 hp2' (M + 20 + 20) (by omega) (by omega) hA2 b2 (by omega) l2 r2
      have m1 : ∀ w, w < 8 → cmb fr1 hp1 w ≤ cmb fr hp w := fun w hw => by rw [a4 w hw]; exact updN_le _ _ _ _
      have m2 : ∀ w, w < 8 → cmb fr2 hp2' w ≤ cmb fr1 hp1 w := fun w hw => by rw [b4 w hw]; exact updN_le _ _ _ _
      have m3 := a4 (nT N i 0) (by omega)
      have m4 := b4 (nT N i 1) (by omega)
      rw [updN_s] at m3 m4
      refine ⟨Z', fr', hp', h1, fun v hv => ?_, only67_tr a3 (only67_tr b3 h3), h4, h5, fun w hw => ⟨?_, fun j v j1 j2 j3 j4 => ?_⟩⟩
      · obtain ⟨a, b, c, d⟩ := h2 v hv
        exact ⟨a, b, by omega, by omega⟩
      · have := (h6 w hw).1
        have := m2 w hw
        have := m1 w hw
        omega
      · by_cases cj : j = i
        · subst cj
          have g := (h6 w hw).1
          rcases j4 with ⟨rfl, rfl⟩ | ⟨rfl, rfl⟩
          · have := m1 (nT N j 0) (by omega)
            omega
          · have := m2 (nT N j 0) (by omega)
            omega
        · have g := (h6 w hw).2 j v (by omega) j2 j3 j4
          have hv8 : v < 8 := by
            obtain ⟨x0, x1, -⟩ := hI.2.1 j j2
            rcases j4 with ⟨e, -⟩ | ⟨e, -⟩ <;> omega
          have := m2 v hv8
          have := m1 v hv8
          omega
theorem p_m8_out {N : NN} {W c s : Nat} {D : Nat → Nat} {x1 : Int32} (hI : iN N W) (hs0 : s < N 0) (hc : c < N 3 ∨ 5 ≤ c) (hG : isDG (fun l => 6000 * l + 1) N (frE N c) s D) (hm : ∀ v, v < 8 → D v ≤ 1000000) (hm2 : ∀ v, v < 8 → D v < 1000000 → D v ≤ 840007) : ∀ (e r n : Nat) (Z : ZZ) (fr hp : Nat → Nat), r + e = 8 → e < n → rA N Z 1 → rF fr hp (640 * r) Z → lowD D (cmb fr hp) → (∀ v, v < 8 → fr v ≠ 9999 → D v < 1000000) → cmb fr hp s = 0 →
    (∀ v, v < 8 → D v < 1000000 → rnk N D v < r → cmb fr hp v ≤ D v) →
    ∃ Z' fr' hp', sX8_measures_L39 x1 (cI c) n (nI r) Z = some Z' ∧ rF fr' hp' 5120 Z' ∧ only67 Z Z' ∧ ∀ v, v < 8 → (D v < 1000000 → cmb fr' hp' v = D v) ∧ (¬ D v < 1000000 → fr' v = 9999) := by
  have h16 := hI.1.2.1
  have h8 := hI.1.1
  intro e
  induction e with
  | zero =>
    intro r n Z fr hp hi hn hA hF hl hre hz hr
    obtain ⟨n, rfl⟩ : ∃ q, n = q + 1 := ⟨n - 1, by omega⟩
    have hr8 : r = 8 := by omega
    subst hr8
    refine ⟨Z, fr, hp, by rw [sX8_measures_L39, if_pos (by decide)], hF, only67_rf Z, fun v hv => ⟨fun q => ?_, fun q => ?_⟩⟩
    · have hvN : v < N 0 := by
        rcases hG.2.2 v hv q with rfl | ⟨w, k, e1, -⟩
        · exact hs0
        · exact (edgeG_lt hI e1).2.1
      have := rnk_le (N := N) (d := D) hvN
      have := hr v hv q (by omega)
      have := hl v hv
      omega
    · rcases Nat.decEq (fr v) 9999 with q2 | q2
      · exact absurd (hre v hv q2) q
      · exact q2
  | succ e ih =>
    intro r n Z fr hp hi hn hA hF hl hre hz hr
    obtain ⟨n, rfl⟩ : ∃ q, n = q + 1 := ⟨n - 1, by omega⟩
    rw [sX8_measures_L39, if_neg (lge (show r < 8 by omega) (by omega))]
    obtain ⟨Z1, fr1, hp1, m1, m2, m3, m4, m5, m6⟩ := p_m8_in (x1 := x1) (y3 := nI r) (k39 := fun y3 Z => sX8_measures_L39 x1 (cI c) n y3 Z) hI hc hG hm hm2 (N 1) 0 3000 Z fr hp (640 * r) (by omega) (by omega) hA hF (by omega) hl hre
    rw [ad_n1] at m1
    obtain ⟨Z', fr', hp', q1, q2, q3, q4⟩ := ih (r + 1) n Z1 fr1 hp1 (by omega) (by omega) (rA_67 hA (by omega) m3) (fun v hv => by
      obtain ⟨a, b, c, d⟩ := m2 v hv
      exact ⟨a, b, by omega, by omega⟩) m4 m5 (by have := (m6 s (by omega)).1; omega) (fun v hv hf hrk => by
      rcases hG.2.2 v hv hf with rfl | ⟨w, k, e1, e2, e3⟩
      · have := (m6 v hv).1; omega
      · obtain ⟨w1, -, -, l, l1, -, l3⟩ := edgeG_lt hI e1
        have hk : k = 6000 * l + 1 := l3
        have h1 := rnk_lt (N := N) (d := D) w1 (show D w < D v by omega)
        have h2 := hr w (by omega) e2 (by omega)
        obtain ⟨j, j1, j2, j3, j4⟩ := e1
        have j3' : k = 6000 * nT N j 2 + 1 := j3
        have := (m6 v hv).2 j w (by omega) j1 j2 j4
        omega)
    exact ⟨Z', fr', hp', m1.trans q1, q2, only67_tr m3 q3, q4⟩
theorem only67_p (Z : ZZ) (i : Nat) (x y : Int32) : only67 Z (pI (pI Z 6 i x) 7 i y) := ⟨fun k j h6 h7 => by rw [gI_pI_k _ _ _ _ h7, gI_pI_k _ _ _ _ h6], fun k => rfl⟩
theorem p_m8_init {x1 x2 : Int32} : ∀ (e i n : Nat) (Z : ZZ), i + e = 8 → e < n → (∀ v, v < i → gI Z 6 v = nI 9999 ∧ gI Z 7 v = nI 0) → ∃ Z', sX8_measures_L2 x1 x2 n (nI i) Z = sX8_measures_B30 x1 x2 Z' ∧ (∀ v, v < 8 → gI Z' 6 v = nI 9999 ∧ gI Z' 7 v = nI 0) ∧ only67 Z Z' := by
  intro e
  induction e with
  | zero =>
    intro i n Z hi hn h
    obtain ⟨n, rfl⟩ : ∃ q, n = q + 1 := ⟨n - 1, by omega⟩
    have hi8 : i = 8 := by omega
    subst hi8
    exact ⟨Z, by rw [sX8_measures_L2, if_pos (by decide)], h, only67_rf Z⟩
  | succ e ih =>
    intro i n Z hi hn h
    obtain ⟨n, rfl⟩ : ∃ q, n = q + 1 := ⟨n - 1, by omega⟩
    obtain ⟨Z', h1, h2, h3⟩ := ih (i + 1) n (pI (pI Z 6 i 9999) 7 i 0) (by omega) (by omega) (fun v hv => by
      by_cases c : v = i
      · subst c
        rw [gI_pI_k _ _ _ _ (by decide), gI_pI_s, gI_pI_s]; exact ⟨rfl, rfl⟩
      · rw [gI_pI_k _ _ _ _ (by decide), gI_pI_j _ _ _ _ c, gI_pI_j _ _ _ _ c, gI_pI_k _ _ _ _ (by decide)]; exact h v (by omega))
    refine ⟨Z', ?_, h2, only67_tr (only67_p Z i 9999 0) h3⟩
    rw [sX8_measures_L2, if_neg (lge (show i < 8 by omega) (by omega)), gd_t (vin_n (by omega) (by decide)), nm_d, gd_t (vin_n (by omega) (by decide)), nm_d, nm_d, cl_n (by omega), ad_n1]
    exact h1
/-- the reference's rows far and hops are the distance's length and number -/
theorem p_measures {N : NN} {Z : ZZ} {W c g : Nat} {d : Nat → Nat} (hA : rA N Z 1) (hI : iN N W) (hg : g < N 0) (hc : c < N 3 ∨ 5 ≤ c) (hd : isD N (frE N c) g d) :
    ∃ Z', sX8_measures (nI g) (cI c) Z = some Z' ∧ only67 Z Z' ∧ ∀ v, v < 8 → (d v < 1000000 → gI Z' 6 v = nI (d v / 8) ∧ gI Z' 7 v = nI (d v % 8) ∧ d v / 8 ≤ 5120) ∧ (¬ d v < 1000000 → gI Z' 6 v = nI 9999) := by
  have h8 := hI.1.1
  have hG := dec8_K (B := 6000) (c := 1) hI hg (Or.inr ⟨rfl, by decide, by decide⟩) (isD_G hd)
  have hm2 : ∀ v, v < 8 → d v < 1000000 → d v / 8 ≤ 140 := fun v hv hf => by
    have hvN : v < N 0 := by
      rcases hd.2.2 v hv hf with rfl | ⟨w, k, e1, -⟩
      · exact hg
      · exact (edge_lt hI e1).2.1
    have h1 := rnk_le (N := N) (d := d) hvN
    obtain ⟨-, a, -⟩ := dec8 hI hg (isD_G hd) _ v hvN hf (Nat.le_refl _)
    omega
  obtain ⟨Z1, f1, f2, f3⟩ := p_m8_init (x1 := nI g) (x2 := cI c) 8 0 3000 Z (by omega) (by omega) (fun v hv => by omega)
  have hF : rF (fun v => if v = g then 0 else 9999) (fun _ => 0) (640 * 0) (pI Z1 6 g 0) := fun v hv => by
    obtain ⟨a, b⟩ := f2 v hv
    show gI (pI Z1 6 g 0) 6 v = nI (if v = g then 0 else 9999) ∧ gI (pI Z1 6 g 0) 7 v = nI 0 ∧ ((if v = g then 0 else 9999) = 9999 ∨ (if v = g then 0 else 9999) ≤ 0) ∧ 0 ≤ 0
    by_cases e : v = g
    · subst e
      rw [if_pos rfl, gI_pI_s, gI_pI_k _ _ _ _ (by decide)]
      exact ⟨rfl, b, Or.inr (Nat.le_refl _), Nat.le_refl _⟩
    · rw [if_neg e, gI_pI_j _ _ _ _ e, gI_pI_k _ _ _ _ (by decide)]
      exact ⟨a, b, Or.inl rfl, Nat.le_refl _⟩
  have o1 : only67 Z (pI Z1 6 g 0) := only67_tr f3 ⟨fun k j h6 h7 => gI_pI_k _ _ _ _ h6, fun k => rfl⟩
  have hcm : ∀ v, cmb (fun v => if v = g then 0 else 9999) (fun _ => 0) v = if v = g then 0 else BIG := fun v => by
    unfold cmb
    by_cases e : v = g
    · simp [e]
    · simp [e]
  have hD6 : ∀ v, v < 8 → (if d v < 1000000 then 6000 * (d v / 8) + 1 * (d v % 8) else 1000000) ≤ 1000000 := fun v hv => by
    by_cases q : d v < 1000000
    · have := hm2 v hv q
      rw [if_pos q]; omega
    · rw [if_neg q]; exact Nat.le_refl _
  obtain ⟨Z', fr, hp, q1, q2, q3, q4⟩ := p_m8_out (x1 := nI g) hI hg hc hG hD6 (fun v hv q => by
      have q : (if d v < 1000000 then 6000 * (d v / 8) + 1 * (d v % 8) else 1000000) < 1000000 := q
      show (if d v < 1000000 then 6000 * (d v / 8) + 1 * (d v % 8) else 1000000) ≤ 840007
      by_cases r : d v < 1000000
      · have := hm2 v hv r
        rw [if_pos r]; omega
      · rw [if_neg r] at q; omega) 8 0 3000 (pI Z1 6 g 0) _ _ (by omega) (by omega) (rA_67 hA (by omega) o1) hF (fun v hv => by
      rw [hcm]
      show (if d v < 1000000 then 6000 * (d v / 8) + 1 * (d v % 8) else 1000000) ≤ _
      by_cases e : v = g
      · have h0 := hd.1
        rw [e, h0, if_pos rfl, if_pos (by omega)]; omega
      · have := hD6 v hv
        rw [if_neg e]; unfold BIG; omega) (fun v hv q => by
      have q : (if v = g then 0 else 9999) ≠ 9999 := q
      show (if d v < 1000000 then 6000 * (d v / 8) + 1 * (d v % 8) else 1000000) < 1000000
      by_cases e : v = g
      · have h0 := hd.1
        rw [e, h0, if_pos (by omega)]; omega
      · rw [if_neg e] at q; exact absurd rfl q) (by rw [hcm, if_pos rfl]) (fun v hv _ q => by omega)
  refine ⟨Z', ?_, only67_tr o1 q3, fun v hv => ?_⟩
  · unfold sX8_measures
    rw [show (0 : Int32) = nI 0 from rfl, f1]
    unfold sX8_measures_B30
    rw [gd_t (vin_n (by omega) (by decide)), nm_d, cl_n (by omega)]
    exact q1
  · obtain ⟨a, b, c, e⟩ := q2 v hv
    obtain ⟨g1, g2⟩ := q4 v hv
    refine ⟨fun r => ?_, fun r => ?_⟩
    · have hb := hm2 v hv r
      have g1' : (if d v < 1000000 then 6000 * (d v / 8) + 1 * (d v % 8) else 1000000) < 1000000 → cmb fr hp v = (if d v < 1000000 then 6000 * (d v / 8) + 1 * (d v % 8) else 1000000) := g1
      rw [if_pos r] at g1'
      have g3 := g1' (by omega)
      unfold cmb BIG at g3
      split at g3
      · omega
      · have e1 : fr v = d v / 8 := by omega
        have e2 : hp v = d v % 8 := by omega
        rw [a, b, e1, e2]
        exact ⟨rfl, rfl, by omega⟩
    · have g2' : ¬ (if d v < 1000000 then 6000 * (d v / 8) + 1 * (d v % 8) else 1000000) < 1000000 → fr v = 9999 := g2
      rw [if_neg r] at g2'
      rw [a, g2' (by omega)]
