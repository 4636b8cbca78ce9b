theorem p_fill12_L : ∀ (e i n : Nat) (Z : ZZ), i + e = 16 → e < n → (∀ v, v < i → gI Z 16 v = nI 0) → ∃ Z', sJ_fill_12_L5 16 (nI 0) n (nI i) 16 Z = some Z' ∧ (∀ v, v < 16 → gI Z' 16 v = nI 0) ∧ onlyR Z Z' := by
  intro e
  induction e with
  | zero =>
    intro i n Z hi hn h
    obtain ⟨n, rfl⟩ : ∃ q, n = q + 1 := ⟨n - 1, by omega⟩
    have hi8 : i = 16 := by omega
    subst hi8
    exact ⟨Z, by rw [sJ_fill_12_L5, if_pos (by decide)], h, onlyR_rf Z⟩
  | succ e ih =>
    intro i n Z hi hn h
    obtain ⟨n, rfl⟩ : ∃ q, n = q + 1 := ⟨n - 1, by omega⟩
    obtain ⟨Z', h1, h2, h3⟩ := ih (i + 1) n (pI Z 16 i (nI 0)) (by omega) (by omega) (fun v hv => by
      by_cases c : v = i
      · subst c; exact gI_pI_s _ _ _ _
      · rw [gI_pI_j _ _ _ _ c]; exact h v (by omega))
    refine ⟨Z', ?_, h2, onlyR_tr (onlyR_pI (by omega)) h3⟩
    rw [sJ_fill_12_L5, if_neg (lge (n := 16) (by omega) (by omega)), gd_t (vin_n (by omega) (by decide)), nm_d, nm_d, cl_n (by omega), ad_n1]
    exact h1
theorem p_count {N : NN} {W t a b : Nat} {p : Nat → Bool} {Z : ZZ} (hI : iN N W) (hR : rNet N Z t) (ha : a < N 0) (hb : b < N 0) (hab : a ≠ b) :
    ∃ Z', sX5_countDisjoint t (nI (msk p 16)) (nI a) (nI b) Z = some (nI (leastN N p a b (2 ^ N 0)), Z') ∧ onlyR Z Z' := by
  have h16 := hI.1.2.1
  obtain ⟨Z1, f1, f2, f3⟩ := p_fill12_L 16 0 3000 Z (by omega) (by omega) (fun v hv => by omega)
  have hnet : ∀ x, net N (fun _ => 0) x = 0 := fun x => sumI_zero fun i _ => by unfold ctr; split <;> (try split) <;> rfl
  have hF : isF N p a b (fun _ => 0) 0 := ⟨fun i _ => ⟨Or.inl rfl, (by decide : (-1 : Int) ≤ 0), (by decide : (0 : Int) ≤ 1)⟩, fun x _ _ _ => hnet x, hnet a⟩
  obtain ⟨Z', b1, b2⟩ := p_cnt_L (t := t) (p := p) hI ha hb hab 16 0 3000 Z1 (fun _ => 0) (by omega) (by omega) (rNet_R hR f3) (fun i hi => ⟨(f2 i (by omega)).trans (by decide : nI 0 = nF 0), (by decide : (-1 : Int) ≤ 0), (by decide : (0 : Int) ≤ 1)⟩) hF
  refine ⟨Z', ?_, onlyR_tr f3 b2⟩
  unfold sX5_countDisjoint sJ_fill_12
  rw [gd_t hR.1, gd_t (by decide)]
  show bnd (sJ_fill_12_L5 16 (nI 0) 3000 (nI 0) 16 Z) _ = _
  rw [f1, bnd_s]
  exact b1
