theorem p_hasSw {N : NN} {W t w : Nat} {Z : ZZ} (hI : iN N W) (hR : rNet N Z t) (hw : w < N 0) : sX3_hasSwitch t (nI w) Z = some (1, Z) := by
  have h8 := hI.1.1
  unfold sX3_hasSwitch
  rw [gd_t hR.1, if_neg (nI_pos (by omega)), hR.2.1, if_neg (nI_ge hw (by omega))]
theorem p_hasSw_m {N : NN} {t : Nat} {Z : ZZ} (hR : rNet N Z t) : sX3_hasSwitch t (-1) Z = some (0, Z) := by
  unfold sX3_hasSwitch
  rw [gd_t hR.1, if_pos (by decide)]
/-- the row of flows is kept -/
def keep16 (Z Z' : ZZ) : Prop := ∀ i, gI Z' 16 i = gI Z 16 i
theorem rFl_k {N : NN} {f : Nat → Int} {Z Z' : ZZ} (h : rFl N f Z) (hk : keep16 Z Z') : rFl N f Z' := fun i hi => by rw [hk]; exact h i hi
theorem p_srch_in {N : NN} {W t a h u : Nat} {p : Nat → Bool} {f : Nat → Int} {x3 x4 y7 : Int32} {k19 : Int32 → Int32 → Int32 → ZZ → Option (Int32 × ZZ)} (hI : iN N W) (hu : u < N 0) : ∀ (e i n : Nat) (Z : ZZ) (r : Nat → Bool) (q ar : Nat → Nat) (tl : Nat), i + e = N 1 → e < n → rNet N Z t → rFl N f Z → srI N p f a r q ar tl Z → h < tl → q h = u → (∀ j w, j < i → p j = true → ends N j u w → room N f j u = true → r w = true) →
    ∃ Z' r' q' ar' tl', sX5_search_L45 t (nI (msk p 16)) x3 x4 k19 n (nI (msk r 8)) (nI tl) y7 (nI u) (nI i) Z = k19 (nI (msk r' 8)) (nI tl') (y7 + 1) Z' ∧ srI N p f a r' q' ar' tl' Z' ∧ tl ≤ tl' ∧ (∀ j, j < tl → q' j = q j) ∧ (∀ v, r v = true → r' v = true) ∧ onlyR Z Z' ∧ keep16 Z Z' ∧ (∀ j w, j < N 1 → p j = true → ends N j u w → room N f j u = true → r' w = true) := by
  have h16 := hI.1.2.1
  have h8 := hI.1.1
  intro e
  induction e with
  | zero =>
    intro i n Z r q ar tl hi hn hR hF hs hh hq hcl
    obtain ⟨n, rfl⟩ : ∃ q, n = q + 1 := ⟨n - 1, by omega⟩
    refine ⟨Z, r, q, ar, tl, ?_, hs, Nat.le_refl _, fun _ _ => rfl, fun _ h => h, onlyR_rf Z, fun _ => rfl, fun j w hj => hcl j w (by omega)⟩
    rw [sX5_search_L45, hR.2.2.1, if_pos (nI_le (by omega) (by omega)), nm_d]
  | succ e ih =>
    intro i n Z r q ar tl hi hn hR hF hs hh hq hcl
    obtain ⟨n, rfl⟩ : ∃ q, n = q + 1 := ⟨n - 1, by omega⟩
    have hmk := msk_lt p 16
    have hmr := msk_lt r 8
    have hiN : i < N 1 := by omega
    have skip : (∀ w, p i = true → ends N i u w → room N f i u = true → r w = true) → ∃ Z' r' q' ar' tl', sX5_search_L45 t (nI (msk p 16)) x3 x4 k19 n (nI (msk r 8)) (nI tl) y7 (nI u) (nI (i + 1)) Z = k19 (nI (msk r' 8)) (nI tl') (y7 + 1) Z' ∧ srI N p f a r' q' ar' tl' Z' ∧ tl ≤ tl' ∧ (∀ j, j < tl → q' j = q j) ∧ (∀ v, r v = true → r' v = true) ∧ onlyR Z Z' ∧ keep16 Z Z' ∧ (∀ j w, j < N 1 → p j = true → ends N j u w → room N f j u = true → r' w = true) := fun hsk =>
      ih (i + 1) n Z r q ar tl (by omega) (by omega) hR hF hs hh hq (fun j w hj hpj hej hrj => by
        by_cases c : j = i
        · subst c; exact hsk w hpj hej hrj
        · exact hcl j w (by omega) hpj hej hrj)
    rw [sX5_search_L45, hR.2.2.1, if_neg (nI_ge (by omega) (by omega)), p_across hR hI hiN (by omega), bnd_s, nm_d, p_hasBit (by omega) (by omega), bnd_s, msk_bit]
    have e2 : decide (i < 16) = true := decide_eq_true (by omega)
    rw [e2, Bool.true_and]
    cases hp : p i with
    | false =>
      simp only [Bool.false_eq_true, if_false]
      rw [if_pos trivial, nm_d, ad_n1]
      exact skip (fun w h1 => by rw [hp] at h1; cases h1)
    | true =>
      simp only [if_true]
      rw [if_neg (by decide), p_room hI hR hF hiN (by omega), bnd_s]
      cases hr : room N f i u with
      | false =>
        simp only [Bool.false_eq_true, if_false]
        rw [if_pos trivial, nm_d, ad_n1]
        exact skip (fun w _ _ h1 => by rw [hr] at h1; cases h1)
      | true =>
        simp only [if_true]
        rw [if_neg (by decide)]
        rcases acr_ends (v := u) hI hiN with ⟨a1, a2⟩ | ⟨w, w1, a1, a2, a3⟩
        · rw [a1, p_hasSw_m hR, bnd_s, if_pos rfl, nm_d, ad_n1]
          exact skip (fun w _ h1 _ => absurd h1 (a2 w))
        · rw [a1, p_hasSw hI hR w1, bnd_s, if_neg (show ¬ (1 : Int32) = 0 by decide), p_hasBit (by omega) (by omega), bnd_s, msk_bit]
          have e3 : decide (w < 8) = true := decide_eq_true (by omega)
          rw [e3, Bool.true_and]
          cases hrw : r w with
          | true =>
            simp only [if_true]
            rw [if_neg (by decide), nm_d, ad_n1]
            exact skip (fun w' _ h1 _ => by rw [a3 w' h1]; exact hrw)
          | false =>
            simp only [Bool.false_eq_true, if_false]
            have htl8 : tl < 8 := by
              have c1 := crd_le r 8
              have c2 := hs.1.2.1
              rcases Nat.lt_or_ge tl 8 with x | x
              · exact x
              · have := crd_all (sp := r) (n := 8) (by omega) w (by omega)
                rw [hrw] at this; cases this
            have hs2 := srI_add hI hs hh hq hiN hp a2 hr w1 hrw
            have o1 : onlyR Z (pI (pI Z 18 w (nI i)) 17 tl (nI w)) := onlyR_tr (onlyR_pI (by omega)) (onlyR_pI (by omega))
            have k1 : keep16 Z (pI (pI Z 18 w (nI i)) 17 tl (nI w)) := fun j => by rw [gI_pI_k _ _ _ _ (by decide), gI_pI_k _ _ _ _ (by decide)]
            rw [if_pos trivial, if_neg (lge (show tl < 8 from htl8) (by omega)), p_bit (by omega), bnd_s, nm_d, or_msk (by omega), gd_t (vin_n (by omega) (by decide)), nm_d, gd_t (vin_n (by omega) (by decide)), nm_d, nm_d, nm_d, cl_n (by omega), cl_n (by omega), ad_n1, ad_n1]
            obtain ⟨Z', r', q', ar', tl', b1, b2, b3, b4, b5, b6, b7, b8⟩ := ih (i + 1) n _ _ _ _ (tl + 1) (by omega) (by omega) (rNet_R hR o1) (rFl_k hF k1) hs2 (by omega) (by unfold updN; rw [if_neg (by omega)]; exact hq) (fun j w' hj hpj hej hrj => by
              by_cases c : j = i
              · subst c
                rw [a3 w' hej]; simp
              · simp [hcl j w' (by omega) hpj hej hrj])
            refine ⟨Z', r', q', ar', tl', b1, b2, by omega, fun j hj => ?_, fun v hv => b5 v (by simp [hv]), onlyR_tr o1 b6, fun j => (b7 j).trans (k1 j), b8⟩
            rw [b4 j (by omega)]; unfold updN; rw [if_neg (by omega)]
