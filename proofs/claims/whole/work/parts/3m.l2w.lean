theorem p_agree_in {N : NN} {W t a : Nat} {p : Nat → Bool} {k2 : Int32 → ZZ → Option (Int32 × ZZ)} (hI : iN N W) (ha : a < N 0) : ∀ (e i n : Nat) (Z : ZZ), i + e = N 0 → e < n → a < i → rNet N Z t → ∃ Z', sX5_agreesWithItself_L15 t (nI (msk p 16)) k2 n (nI a) (nI i) Z = k2 (nI (a + 1)) Z' ∧ onlyR Z Z' := by
  have h8 := hI.1.1
  intro e
  induction e with
  | zero =>
    intro i n Z hi hn hai hR
    obtain ⟨n, rfl⟩ : ∃ q, n = q + 1 := ⟨n - 1, by omega⟩
    exact ⟨Z, by rw [sX5_agreesWithItself_L15, hR.2.1, if_pos (nI_le (by omega) (by omega)), nm_d, ad_n1], onlyR_rf Z⟩
  | succ e ih =>
    intro i n Z hi hn hai hR
    obtain ⟨n, rfl⟩ : ∃ q, n = q + 1 := ⟨n - 1, by omega⟩
    obtain ⟨Z1, d, a1, a2, a3, a4⟩ := p_shortest (p := p) (g := i) hI hR ha (by omega)
    have o1 := onlyR_15 a3
    have hR1 := rNet_R hR o1
    obtain ⟨Z2, b1, b2⟩ := p_relaxed (g := i) hI hR1 ha (by omega) a4 (fun v hv => (a2 v hv).2)
    have o2 := onlyR_15 b2
    have hR2 := rNet_R hR1 o2
    obtain ⟨Z3, c1, c2⟩ := p_count (p := p) hI hR2 ha (show i < N 0 by omega) (by omega)
    have hR3 := rNet_R hR2 c2
    obtain ⟨Z', e1, e2⟩ := ih (i + 1) n Z3 (by omega) (by omega) (by omega) hR3
    refine ⟨Z', ?_, onlyR_tr o1 (onlyR_tr o2 (onlyR_tr c2 e2))⟩
    rw [sX5_agreesWithItself_L15, hR.2.1, if_neg (nI_ge (by omega) (by omega)), a1, bnd_s, b1, bnd_s, if_pos rfl, c1, bnd_s, p_cut hI hR3 (by omega) (by omega), bnd_s, if_pos rfl, nm_d, ad_n1]
    exact e1
theorem p_agree_out {N : NN} {W t : Nat} {p : Nat → Bool} (hI : iN N W) : ∀ (e a n : Nat) (Z : ZZ), a + e = N 0 → e < n → rNet N Z t → ∃ Z', sX5_agreesWithItself_L2 t (nI (msk p 16)) n (nI a) Z = some (1, Z') ∧ onlyR Z Z' := by
  have h8 := hI.1.1
  intro e
  induction e with
  | zero =>
    intro a n Z hi hn hR
    obtain ⟨n, rfl⟩ : ∃ q, n = q + 1 := ⟨n - 1, by omega⟩
    exact ⟨Z, by rw [sX5_agreesWithItself_L2, hR.2.1, if_pos (nI_le (by omega) (by omega))], onlyR_rf Z⟩
  | succ e ih =>
    intro a n Z hi hn hR
    obtain ⟨n, rfl⟩ : ∃ q, n = q + 1 := ⟨n - 1, by omega⟩
    obtain ⟨Z1, a1, a2⟩ := p_agree_in (t := t) (p := p) (k2 := fun y3 Z => sX5_agreesWithItself_L2 t (nI (msk p 16)) n y3 Z) hI (show a < N 0 by omega) (N 0 - (a + 1)) (a + 1) 3000 Z (by omega) (by omega) (by omega) hR
    obtain ⟨Z', b1, b2⟩ := ih (a + 1) n Z1 (by omega) (by omega) (rNet_R hR a2)
    refine ⟨Z', ?_, onlyR_tr a2 b2⟩
    rw [sX5_agreesWithItself_L2, hR.2.1, if_neg (nI_ge (by omega) (by omega)), nm_d, ad_n1]
    exact a1.trans b1
/-- the router always agrees with itself -/
theorem p_agree {N : NN} {W t : Nat} {p : Nat → Bool} {Z : ZZ} (hI : iN N W) (hR : rNet N Z t) : ∃ Z', sX5_agreesWithItself t (nI (msk p 16)) Z = some (1, Z') ∧ onlyR Z Z' := by
  have h8 := hI.1.1
  obtain ⟨Z', h1, h2⟩ := p_agree_out (p := p) hI (N 0) 0 3000 Z (by omega) (by omega) hR
  exact ⟨Z', by unfold sX5_agreesWithItself; rw [gd_t hR.1]; exact h1, h2⟩
