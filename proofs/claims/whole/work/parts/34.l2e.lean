theorem p_fill5_L {x : Nat} : ∀ (e i n : Nat) (Z : ZZ), i + e = 8 → e < n → (∀ v, v < i → gI Z 15 v = nI x) → ∃ Z', sJ_fill_5_L5 15 (nI x) n (nI i) 8 Z = some Z' ∧ (∀ v, v < 8 → gI Z' 15 v = nI x) ∧ only15 Z Z' := by
  intro e
  induction e with
  | zero =>
    intro i n Z hi hn h
    obtain ⟨n, rfl⟩ : ∃ q, n = q + 1 := ⟨n - 1, by omega⟩
    have hi8 : i = 8 := by omega
    subst hi8
    exact ⟨Z, by rw [sJ_fill_5_L5, if_pos (lle (n := 8) (by omega) (by omega))], h, only15_rf Z⟩
  | succ e ih =>
    intro i n Z hi hn h
    obtain ⟨n, rfl⟩ : ∃ q, n = q + 1 := ⟨n - 1, by omega⟩
    obtain ⟨Z', h1, h2, h3⟩ := ih (i + 1) n (pI Z 15 i (nI x)) (by omega) (by omega) (fun v hv => by
      by_cases c : v = i
      · subst c; exact gI_pI_s _ _ _ _
      · rw [gI_pI_j _ _ _ _ c]; exact h v (by omega))
    refine ⟨Z', ?_, h2, only15_tr ⟨fun k j hk => gI_pI_k _ _ _ _ hk, fun k => rfl⟩ h3⟩
    rw [sJ_fill_5_L5, if_neg (lge (n := 8) (by omega) (by omega)), gd_t (vin_n (by omega) (by decide)), nm_d, nm_d, cl_n (by omega), ad_n1]
    exact h1
theorem p_fill5 {x : Nat} {Z : ZZ} : ∃ Z', sJ_fill_5 15 (nI x) Z = some Z' ∧ (∀ v, v < 8 → gI Z' 15 v = nI x) ∧ only15 Z Z' := by
  obtain ⟨Z', h1, h2, h3⟩ := p_fill5_L (x := x) 8 0 3000 Z (by omega) (by omega) (fun v hv => by omega)
  exact ⟨Z', by unfold sJ_fill_5; rw [gd_t (by decide)]; exact h1, h2, h3⟩
def ends (N : NN) (i v w : Nat) : Prop := (nT N i 0 = v ∧ nT N i 1 = w) ∨ (nT N i 1 = v ∧ nT N i 0 = w)
def edge (N : NN) (p : Nat → Bool) (v w k : Nat) : Prop := ∃ i, i < N 1 ∧ p i = true ∧ k = nT N i 2 * 8 + 1 ∧ ends N i v w
theorem ends_sym {N : NN} {i v w : Nat} (h : ends N i v w) : ends N i w v := by
  rcases h with ⟨a, b⟩ | ⟨a, b⟩
  · exact Or.inr ⟨b, a⟩
  · exact Or.inl ⟨b, a⟩
theorem edge_sym {N : NN} {p : Nat → Bool} {v w k : Nat} (h : edge N p v w k) : edge N p w v k := by
  obtain ⟨i, a, b, c, d⟩ := h
  exact ⟨i, a, b, c, ends_sym d⟩
theorem acr_ends {N : NN} {W i v : Nat} (hI : iN N W) (hi : i < N 1) : (acr N i v = -1 ∧ ∀ w, ¬ ends N i v w) ∨ ∃ w, w < N 0 ∧ acr N i v = nI w ∧ ends N i v w ∧ ∀ u, ends N i v u → u = w := by
  obtain ⟨q0, q1, q2, -⟩ := hI.2.1 i hi
  unfold acr
  by_cases c : nT N i 0 = v
  · rw [if_pos c]
    refine Or.inr ⟨nT N i 1, q1, rfl, Or.inl ⟨c, rfl⟩, fun u hu => ?_⟩
    rcases hu with ⟨-, b⟩ | ⟨a, b⟩
    · exact b.symm
    · omega
  · rw [if_neg c]
    by_cases c2 : nT N i 1 = v
    · rw [if_pos c2]
      refine Or.inr ⟨nT N i 0, q0, rfl, Or.inr ⟨c2, rfl⟩, fun u hu => ?_⟩
      rcases hu with ⟨a, b⟩ | ⟨a, b⟩
      · exact absurd a c
      · exact b.symm
    · rw [if_neg c2]
      refine Or.inl ⟨rfl, fun w hw => ?_⟩
      rcases hw with ⟨a, -⟩ | ⟨a, -⟩
      · exact c a
      · exact c2 a
theorem edge_lt {N : NN} {W : Nat} {p : Nat → Bool} {v w k : Nat} (hI : iN N W) (h : edge N p v w k) : v < N 0 ∧ w < N 0 ∧ v ≠ w ∧ 9 ≤ k ∧ k ≤ 161 := by
  obtain ⟨i, a, b, c, d⟩ := h
  obtain ⟨q0, q1, q2, q3, q4, -⟩ := hI.2.1 i a
  rcases d with ⟨e, f⟩ | ⟨e, f⟩ <;> exact ⟨by omega, by omega, by omega, by omega, by omega⟩
/-- the inner loop of 'measure': all trunks at v are tried -/
theorem p_meas_in {N : NN} {W t v : Nat} {p : Nat → Bool} {x3 y4 y5 : Int32} {k21 : Int32 → Int32 → ZZ → Option ZZ} (hI : iN N W) (hv : v < 8) : ∀ (e i n : Nat) (Z : ZZ) (d : Nat → Nat), i + e = N 1 → e < n → rNet N Z t → rD d Z → d v < 1000000 →
    ∃ Z' d', sX5_measure_L58 t (nI (msk p 16)) x3 k21 n y4 y5 (nI v) (nI i) Z = k21 y4 (y5 + 1) Z' ∧ rD d' Z' ∧ only15 Z Z' ∧ d' v = d v ∧
      ∀ w, w < 8 → d' w ≤ d w ∧ (∀ j, i ≤ j → j < N 1 → p j = true → ends N j v w → d' w ≤ d v + (nT N j 2 * 8 + 1)) ∧ (d' w = d w ∨ ∃ k, edge N p v w k ∧ d' w = d v + k) := by
  have h16 := hI.1.2.1
  have h8 := hI.1.1
  intro e
  induction e with
  | zero =>
    intro i n Z d hi hn hR hD hf
    obtain ⟨n, rfl⟩ : ∃ q, n = q + 1 := ⟨n - 1, by omega⟩
    refine ⟨Z, d, ?_, hD, only15_rf Z, rfl, fun w hw => ⟨Nat.le_refl _, fun j h1 h2 => by omega, Or.inl rfl⟩⟩
    rw [sX5_measure_L58, hR.2.2.1, if_pos (nI_le (by omega) (by omega)), nm_d]
  | succ e ih =>
    intro i n Z d hi hn hR hD hf
    obtain ⟨n, rfl⟩ : ∃ q, n = q + 1 := ⟨n - 1, by omega⟩
    have hm := msk_lt p 16
    obtain ⟨-, -, hlen⟩ := hR.2.2.2 i (by omega)
    obtain ⟨q0, q1, q2, q3, q4, -⟩ := hI.2.1 i (by omega)
    rw [sX5_measure_L58, hR.2.2.1, if_neg (nI_ge (by omega) (by omega)), p_hasBit (by omega) (by omega), bnd_s, msk_bit]
    have e2 : decide (i < 16) = true := decide_eq_true (by omega)
    rw [e2, Bool.true_and]
    cases hp : p i with
    | false =>
      simp only [Bool.false_eq_true, if_false]
      rw [if_pos trivial, nm_d, ad_n1]
      obtain ⟨Z', d', h1, h2, h3, h4, h5⟩ := ih (i + 1) n Z d (by omega) (by omega) hR hD hf
      refine ⟨Z', d', h1, h2, h3, h4, fun w hw => ⟨(h5 w hw).1, fun j j1 j2 j3 j4 => ?_, (h5 w hw).2.2⟩⟩
      by_cases c : j = i
      · subst c; rw [hp] at j3; cases j3
      · exact (h5 w hw).2.1 j (by omega) j2 j3 j4
    | true =>
      simp only [if_true]
      rw [if_neg (by decide), p_across hR hI (by omega) (by omega), bnd_s, p_dist hD hv, bnd_s, gd_t (vin_n (by omega) (by decide)), cl_n (by omega), hlen, p_key, bnd_s]
      rcases acr_ends (v := v) hI (show i < N 1 by omega) with ⟨a1, a2⟩ | ⟨w0, w1, a1, a2, a3⟩
      · simp only [a1, p_shorten_m, bnd_s, nm_d, ad_n1]
        obtain ⟨Z', d', h1, h2, h3, h4, h5⟩ := ih (i + 1) n Z d (by omega) (by omega) hR hD hf
        refine ⟨Z', d', h1, h2, h3, h4, fun w hw => ⟨(h5 w hw).1, fun j j1 j2 j3 j4 => ?_, (h5 w hw).2.2⟩⟩
        by_cases c : j = i
        · subst c; exact absurd j4 (a2 w)
        · exact (h5 w hw).2.1 j (by omega) j2 j3 j4
      · have hne : w0 ≠ v := by
          rcases a2 with ⟨b1, b2⟩ | ⟨b1, b2⟩ <;> omega
        simp only [a1, nI_add]
        obtain ⟨Z1, s1, s2, s3⟩ := p_shorten (v := w0) (x := d v + (nT N i 2 * 8 + 1)) hD (by omega) (by omega)
        simp only [s1, bnd_s, nm_d, ad_n1]
        have hdv : updN d w0 (min (d w0) (d v + (nT N i 2 * 8 + 1))) v = d v := if_neg (fun q => hne q.symm)
        obtain ⟨Z', d', h1, h2, h3, h4, h5⟩ := ih (i + 1) n Z1 _ (by omega) (by omega) (rNet_15 hR s3) s2 (by rw [hdv]; exact hf)
        rw [hdv] at h4 h5
        refine ⟨Z', d', h1, h2, only15_tr s3 h3, h4, fun w hw => ?_⟩
        obtain ⟨g1, g2, g3⟩ := h5 w hw
        by_cases cw : w = w0
        · subst cw
          have eu : updN d w (min (d w) (d v + (nT N i 2 * 8 + 1))) w = min (d w) (d v + (nT N i 2 * 8 + 1)) := if_pos rfl
          rw [eu] at g1 g3
          refine ⟨by omega, fun j j1 j2 j3 j4 => ?_, ?_⟩
          · by_cases c : j = i
            · subst c; omega
            · exact g2 j (by omega) j2 j3 j4
          · rcases g3 with g | g
            · by_cases c : d w ≤ d v + (nT N i 2 * 8 + 1)
              · left; omega
              · right; exact ⟨nT N i 2 * 8 + 1, ⟨i, by omega, hp, rfl, a2⟩, by omega⟩
            · exact Or.inr g
        · have eu : updN d w0 (min (d w0) (d v + (nT N i 2 * 8 + 1))) w = d w := if_neg cw
          rw [eu] at g1 g3
          refine ⟨g1, fun j j1 j2 j3 j4 => ?_, g3⟩
          by_cases c : j = i
          · subst c; exact absurd (a3 w j4) cw
          · exact g2 j (by omega) j2 j3 j4
