theorem p_aug {N : NN} {W t a b tl k : Nat} {p : Nat → Bool} {f : Nat → Int} {r : Nat → Bool} {q ar : Nat → Nat} {Z : ZZ} (hI : iN N W) (hs : srI N p f a r q ar tl Z) (hR : rNet N Z t) (hF : rFl N f Z) (hf : isF N p a b f k) (hb : b < N 0) (hab : a ≠ b) (hrb : r b = true) :
    ∃ Z' g, sX5_augment t (nI a) (nI b) Z = some Z' ∧ onlyR Z Z' ∧ rFl N g Z' ∧ isF N p a b g (k + 1) := by
  have h8 := hI.1.1
  have htl : tl ≤ 8 := by have := crd_le r 8; have := hs.1.2.1; omega
  obtain ⟨j, j1, j2⟩ := hs.2.2.1 b (by omega) hrb
  have ha : a < N 0 := by
    have := (hs.2.1 0 (by have := hs.1.1; omega)).1
    rw [hs.1.2.2] at this; exact this
  obtain ⟨Z', g, b1, b2, b3, b4, b5⟩ := p_aug_L (b := b) (t := t) hI hs htl 8 j 0 3000 Z f (by omega) j1 (by omega) (by omega) hR hF (fun _ => rfl) (fun i hi => (hf.1 i hi).1) (fun _ _ _ => rfl) (fun x hx => by rw [j2]; omega)
  refine ⟨Z', g, ?_, b2, b3, fun i hi => ⟨b4 i hi, (b3 i hi).2⟩, fun x hx h1 h2 => ?_, ?_⟩
  · unfold sX5_augment
    rw [gd_t hR.1]
    rw [j2] at b1
    exact b1
  · rw [b5 x hx, if_neg h1, if_neg h2, hf.2.1 x hx h1 h2]; rfl
  · rw [b5 a ha, if_pos rfl, if_neg hab, hf.2.2]
    omega
theorem p_cnt_L {N : NN} {W t a b : Nat} {p : Nat → Bool} (hI : iN N W) (ha : a < N 0) (hb : b < N 0) (hab : a ≠ b) : ∀ (e k n : Nat) (Z : ZZ) (f : Nat → Int), k + e = 16 → e < n → rNet N Z t → rFl N f Z → isF N p a b f k →
    ∃ Z', sX5_countDisjoint_L11 t (nI (msk p 16)) (nI a) (nI b) n (nI k) Z = some (nI (leastN N p a b (2 ^ N 0)), Z') ∧ onlyR Z Z' := by
  have h8 := hI.1.1
  intro e
  induction e with
  | zero =>
    intro k n Z f hk hn hR hF hf
    obtain ⟨n, rfl⟩ : ∃ q, n = q + 1 := ⟨n - 1, by omega⟩
    have hk16 : k = 16 := by omega
    subst hk16
    rw [least_flow hI hf ha (by omega) (Or.inl rfl)]
    exact ⟨Z, by rw [sX5_countDisjoint_L11, if_pos (by decide)], onlyR_rf Z⟩
  | succ e ih =>
    intro k n Z f hk hn hR hF hf
    obtain ⟨n, rfl⟩ : ∃ q, n = q + 1 := ⟨n - 1, by omega⟩
    obtain ⟨Z1, r, q, ar, tl, m1, m2, m3, m4, m5⟩ := p_search (p := p) hI hR hF ha hb
    rw [sX5_countDisjoint_L11, if_neg (lge (show k < 16 by omega) (by omega)), m1, bnd_s]
    cases hrb : r b with
    | true =>
      obtain ⟨Z2, g, b1, b2, b3, b4⟩ := p_aug hI m2 (rNet_R hR m4) (rFl_k hF m5) hf hb hab hrb
      obtain ⟨Z', c1, c2⟩ := ih (k + 1) n Z2 g (by omega) (by omega) (rNet_R (rNet_R hR m4) b2) b3 b4
      refine ⟨Z', ?_, onlyR_tr m4 (onlyR_tr b2 c2)⟩
      simp only [if_true]
      rw [if_neg (by decide), b1, bnd_s, nm_d, ad_n1]
      exact c1
    | false =>
      refine ⟨Z1, ?_, m4⟩
      have hbit : ∀ v, v < 8 → (msk r 8).testBit v = r v := fun v hv => by rw [msk_bit, show decide (v < 8) = true from decide_eq_true hv, Bool.true_and]
      have hra : r a = true := by
        have := (m2.2.1 0 (by have := m2.1.1; omega)).2
        rw [m2.1.2.2] at this; exact this
      have hcut : cutC N p (msk r 8) (N 1) = k := flow_eq hI hf ha (by rw [hbit a (by omega)]; exact hra) (by rw [hbit b (by omega)]; exact hrb) (fun i hi hpi => by
        obtain ⟨q0, q1, q2, -⟩ := hI.2.1 i hi
        obtain ⟨-, g2, g3⟩ := hf.1 i hi
        rw [hbit _ (by omega), hbit _ (by omega)]
        refine ⟨fun h1 h2 => ?_, fun h1 h2 => ?_⟩
        · rcases Int.lt_or_le (f i) 1 with x | x
          · exfalso
            obtain ⟨j, j1, j2⟩ := m2.2.2.1 _ (by omega) h1
            have := m3 j j1 i (nT N i 1) hi hpi (Or.inl ⟨j2.symm, rfl⟩) (by unfold room; rw [if_pos j2.symm]; exact decide_eq_true x)
            rw [h2] at this; cases this
          · omega
        · rcases Int.lt_or_le (-1) (f i) with x | x
          · exfalso
            obtain ⟨j, j1, j2⟩ := m2.2.2.1 _ (by omega) h2
            have := m3 j j1 i (nT N i 0) hi hpi (Or.inr ⟨j2.symm, rfl⟩) (by unfold room; rw [if_neg (by omega)]; exact decide_eq_true x)
            rw [h1] at this; cases this
          · omega)
      have hlt : msk r 8 < 2 ^ N 0 := Nat.lt_pow_two_of_testBit _ (fun i hi => by
        rw [msk_bit]
        rcases Nat.lt_or_ge i 8 with x | x
        · cases hri : r i with
          | false => simp
          | true =>
            obtain ⟨j, j1, j2⟩ := m2.2.2.1 i x hri
            have := (m2.2.1 j j1).1
            omega
        · rw [decide_eq_false (by omega)]; rfl)
      rw [least_flow hI hf ha (by omega) (Or.inr ⟨_, hlt, by rw [hbit a (by omega)]; exact hra, by rw [hbit b (by omega)]; exact hrb, hcut⟩)]
      simp only [Bool.false_eq_true, if_false]
      rw [if_pos trivial]
