/-- one more along the way found -/
theorem p_aug_L {N : NN} {W t a b tl : Nat} {p : Nat → Bool} {f : Nat → Int} {r : Nat → Bool} {q ar : Nat → Nat} {Z0 : ZZ} (hI : iN N W) (hs : srI N p f a r q ar tl Z0) (htl : tl ≤ 8) : ∀ (e j y n : Nat) (Z : ZZ) (g : Nat → Int), j ≤ e → j < tl → y + j ≤ 7 → e < n → rNet N Z t → rFl N g Z → (∀ i, gI Z 18 i = gI Z0 18 i) → (∀ i, i < N 1 → g i = 0 ∨ p i = true) → (∀ k, 0 < k → k ≤ j → g (ar (q k)) = f (ar (q k))) →
    (∀ x, x < N 0 → net N g x = net N f x + (if x = q j then 1 else 0) - (if x = b then 1 else 0)) →
    ∃ Z' g', sX5_augment_L6 t (nI a) (nI b) n (nI (q j)) (nI y) Z = some Z' ∧ onlyR Z Z' ∧ rFl N g' Z' ∧ (∀ i, i < N 1 → g' i = 0 ∨ p i = true) ∧ (∀ x, x < N 0 → net N g' x = net N f x + (if x = a then 1 else 0) - (if x = b then 1 else 0)) := by
  have h16 := hI.1.2.1
  have h8 := hI.1.1
  obtain ⟨⟨s1, s2, s3⟩, s4, s5, s6, s7, s8, s9⟩ := hs
  intro e
  induction e with
  | zero =>
    intro j y n Z g hj hjt hy hn hR hF h18 hp hk hnet
    obtain ⟨n, rfl⟩ : ∃ q, n = q + 1 := ⟨n - 1, by omega⟩
    have hj0 : j = 0 := by omega
    subst hj0
    rw [s3] at hnet ⊢
    refine ⟨Z, g, ?_, onlyR_rf Z, hF, hp, hnet⟩
    rw [sX5_augment_L6]
    by_cases c : (7 : Int32) ≤ nI y
    · rw [if_pos c]
    · rw [if_neg c, if_pos rfl]
  | succ e ih =>
    intro j y n Z g hj hjt hy hn hR hF h18 hp hk hnet
    obtain ⟨n, rfl⟩ : ∃ q, n = q + 1 := ⟨n - 1, by omega⟩
    by_cases hj0 : j = 0
    · subst hj0
      rw [s3] at hnet ⊢
      refine ⟨Z, g, ?_, onlyR_rf Z, hF, hp, hnet⟩
      rw [sX5_augment_L6]
      by_cases c : (7 : Int32) ≤ nI y
      · rw [if_pos c]
      · rw [if_neg c, if_pos rfl]
    · obtain ⟨k, k1, k2, k3, k4, k5⟩ := s7 j (by omega) hjt
      have hv := (s4 j hjt).1
      have hu := (s4 k (by omega)).1
      have hva : q j ≠ a := fun h => by
        have := s6 j 0 hjt (by omega) (by rw [s3]; exact h)
        omega
      have har : gI Z 18 (q j) = nI (ar (q j)) := by rw [h18]; exact s9 j (by omega) hjt
      obtain ⟨g0, -⟩ := hR.2.2.2 (ar (q j)) (by omega)
      obtain ⟨f1, f2, f3⟩ := hF _ k2
      obtain ⟨q0, q1, q2, -⟩ := hI.2.1 _ k2
      obtain ⟨t1, t2⟩ := ends_is hI k2 (ends_sym k4)
      have hgf := hk j (by omega) (Nat.le_refl _)
      -- the new flow
      have hroom : -1 ≤ g (ar (q j)) + (if nT N (ar (q j)) 0 = q k then 1 else -1) ∧ g (ar (q j)) + (if nT N (ar (q j)) 0 = q k then 1 else -1) ≤ 1 := by
        unfold room at k5
        rw [← hgf] at k5
        by_cases c : nT N (ar (q j)) 0 = q k
        · rw [if_pos c] at k5 ⊢
          have := of_decide_eq_true k5
          omega
        · rw [if_neg c] at k5 ⊢
          have := of_decide_eq_true k5
          omega
      have hstep : ∀ Z1, Z1 = pI Z 16 (ar (q j)) (nF (g (ar (q j)) + (if nT N (ar (q j)) 0 = q k then 1 else -1))) → ∃ Z' g', sX5_augment_L6 t (nI a) (nI b) n (nI (q k)) (nI (y + 1)) Z1 = some Z' ∧ onlyR Z Z' ∧ rFl N g' Z' ∧ (∀ i, i < N 1 → g' i = 0 ∨ p i = true) ∧ (∀ x, x < N 0 → net N g' x = net N f x + (if x = a then 1 else 0) - (if x = b then 1 else 0)) := by
        intro Z1 hZ1
        subst hZ1
        have o1 : onlyR Z (pI Z 16 (ar (q j)) (nF (g (ar (q j)) + (if nT N (ar (q j)) 0 = q k then 1 else -1)))) := onlyR_pI (by omega)
        obtain ⟨Z', g', b1, b2, b3, b4, b5⟩ := ih k (y + 1) n _ (updI g (ar (q j)) (g (ar (q j)) + (if nT N (ar (q j)) 0 = q k then 1 else -1))) (by omega) (by omega) (by omega) (by omega) (rNet_R hR o1)
          (fun i hi => by
            unfold updI
            by_cases c : i = ar (q j)
            · subst c
              rw [if_pos rfl, gI_pI_s]; exact ⟨rfl, hroom⟩
            · rw [if_neg c, gI_pI_j _ _ _ _ c]; exact hF i hi)
          (fun i => by rw [gI_pI_k _ _ _ _ (by decide)]; exact h18 i)
          (fun i hi => by
            unfold updI
            by_cases c : i = ar (q j)
            · exact Or.inr (by rw [c]; exact k3)
            · rw [if_neg c]; exact hp i hi)
          (fun m m0 mk => by
            have hne : ar (q m) ≠ ar (q j) := fun h => by
              obtain ⟨z, z1, z2, z3, z4, -⟩ := s7 m m0 (by omega)
              rw [h] at z4
              have hin : q j = q z ∨ q j = q m := by
                rcases z4 with ⟨x1, x2⟩ | ⟨x1, x2⟩ <;> rcases k4 with ⟨y1, y2⟩ | ⟨y1, y2⟩ <;> first | (left; omega) | (right; omega)
              rcases hin with w | w
              · have := s6 j z hjt (by omega) w; omega
              · have := s6 j m hjt (by omega) w; omega
            unfold updI
            rw [if_neg hne]; exact hk m m0 (by omega))
          (fun x hx => by
            rw [net_push hI k2 k4, hnet x hx]; omega)
        exact ⟨Z', g', b1, onlyR_tr o1 b2, b3, b4, b5⟩
      have hadd : ∀ x : Int, -1 ≤ x → x ≤ 1 → nF x + 1 = nF (x + 1) ∧ nF x + (-1) = nF (x + -1) := by
        intro x h1 h2
        have : x = -1 ∨ x = 0 ∨ x = 1 := by omega
        rcases this with e | e | e <;> subst e <;> exact ⟨by decide, by decide⟩
      obtain ⟨hd1, hd2⟩ := hadd _ f2 f3
      have haN : a < N 0 := by
        have := (s4 0 (by omega)).1
        rw [s3] at this; exact this
      rw [sX5_augment_L6, if_neg (lge (show y < 7 by omega) (by omega)), if_neg (by rw [eq_nn (by omega) (by omega)]; exact hva), p_hasSw hI hR hv, bnd_s, if_neg (show ¬ (1 : Int32) = 0 by decide), gd_t (vin_n (by omega) (by decide)), nm_d, cl_n (by omega), har, p_across hR hI k2 (by omega), bnd_s, nm_d, acr_oth, if_pos t1, t2, p_hasTrunk hR.1 hR.2.2.1 (by omega) (by omega), bnd_s, if_pos k2, if_neg (show ¬ (1 : Int32) = 0 by decide), gd_t (vin_n (by omega) (by decide)), gd_t (vin_n (by omega) (by decide)), cl_n (by omega), g0]
      simp only [eq_nn (show nT N (ar (q j)) 0 < 2 ^ 31 by omega) (show q k < 2 ^ 31 by omega)]
      by_cases c : nT N (ar (q j)) 0 = q k
      · rw [if_pos c, gd_t (vin_n (by omega) (by decide)), f1, hd1, nm_d, nm_d, ad_n1]
        exact hstep _ (by rw [if_pos c])
      · rw [if_neg c, gd_t (vin_n (by omega) (by decide)), f1, hd2, nm_d, nm_d, ad_n1]
        exact hstep _ (by rw [if_neg c])
