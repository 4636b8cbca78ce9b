/-- all that u reaches by one trunk with room is reached -/
def clR (N : NN) (p : Nat → Bool) (f : Nat → Int) (r : Nat → Bool) (u : Nat) : Prop := ∀ j w, j < N 1 → p j = true → ends N j u w → room N f j u = true → r w = true
theorem p_srch_out {N : NN} {W t a : Nat} {p : Nat → Bool} {f : Nat → Int} {x3 x4 : Int32} (hI : iN N W) : ∀ (e h n : Nat) (Z : ZZ) (r : Nat → Bool) (q ar : Nat → Nat) (tl : Nat), h + e = 8 → e < n → rNet N Z t → rFl N f Z → srI N p f a r q ar tl Z → h ≤ tl → (∀ j, j < h → clR N p f r (q j)) →
    ∃ Z' r' q' ar' tl', sX5_search_L19 t (nI (msk p 16)) x3 x4 n (nI (msk r 8)) (nI tl) (nI h) Z = sX5_search_B154 t (nI (msk p 16)) x3 x4 (nI (msk r' 8)) Z' ∧ srI N p f a r' q' ar' tl' Z' ∧ (∀ j, j < tl' → clR N p f r' (q' j)) ∧ onlyR Z Z' ∧ keep16 Z Z' := by
  have h16 := hI.1.2.1
  have h8 := hI.1.1
  intro e
  induction e with
  | zero =>
    intro h n Z r q ar tl hh hn hR hF hs hht hcl
    obtain ⟨n, rfl⟩ : ∃ q, n = q + 1 := ⟨n - 1, by omega⟩
    have c1 := crd_le r 8
    have c2 := hs.1.2.1
    have h8' : h = 8 := by omega
    subst h8'
    exact ⟨Z, r, q, ar, tl, by rw [sX5_search_L19, if_pos (by decide)], hs, fun j hj => hcl j (by omega), onlyR_rf Z, fun _ => rfl⟩
  | succ e ih =>
    intro h n Z r q ar tl hh hn hR hF hs hht hcl
    obtain ⟨n, rfl⟩ : ∃ q, n = q + 1 := ⟨n - 1, by omega⟩
    have c1 := crd_le r 8
    have c2 := hs.1.2.1
    rw [sX5_search_L19, if_neg (lge (show h < 8 by omega) (by omega))]
    by_cases c : tl ≤ h
    · exact ⟨Z, r, q, ar, tl, by rw [if_pos (nI_le c (by omega))], hs, fun j hj => hcl j (by omega), onlyR_rf Z, fun _ => rfl⟩
    · have hg := hs.2.2.2.2.2.1 h (by omega)
      have hqN := (hs.2.1 h (by omega)).1
      rw [if_neg (by rw [le_nn (by omega) (by omega)]; exact c), gd_t (vin_n (by omega) (by decide)), nm_d, cl_n (by omega), hg]
      obtain ⟨Z1, r1, q1, ar1, tl1, m1, m2, m3, m4, m5, m6, m7, m8⟩ := p_srch_in (x3 := x3) (x4 := x4) (y7 := nI h) (k19 := fun y5 y6 y7 Z => sX5_search_L19 t (nI (msk p 16)) x3 x4 n y5 y6 y7 Z) (h := h) hI hqN (N 1) 0 3000 Z r q ar tl (by omega) (by omega) hR hF hs (by omega) rfl (fun j w hj => by omega)
      rw [ad_n1] at m1
      obtain ⟨Z', r', q', ar', tl', b1, b2, b3, b4, b5⟩ := ih (h + 1) n Z1 r1 q1 ar1 tl1 (by omega) (by omega) (rNet_R hR m6) (rFl_k hF m7) m2 (by omega) (fun j hj => by
        rw [m4 j (by omega)]
        by_cases cj : j = h
        · subst cj; exact m8
        · intro i w i1 i2 i3 i4
          exact m5 w (hcl j (by omega) i w i1 i2 i3 i4))
      exact ⟨Z', r', q', ar', tl', m1.trans b1, b2, b3, onlyR_tr m6 b4, fun i => (b5 i).trans (m7 i)⟩
theorem p_search {N : NN} {W t a b : Nat} {p : Nat → Bool} {f : Nat → Int} {Z : ZZ} (hI : iN N W) (hR : rNet N Z t) (hF : rFl N f Z) (ha : a < N 0) (hb : b < N 0) :
    ∃ Z' r q ar tl, sX5_search t (nI (msk p 16)) (nI a) (nI b) Z = some (if r b then 1 else 0, Z') ∧ srI N p f a r q ar tl Z' ∧ (∀ j, j < tl → clR N p f r (q j)) ∧ onlyR Z Z' ∧ keep16 Z Z' := by
  have h8 := hI.1.1
  have em : ∀ a, a < 8 → msk (fun v => decide (v = a)) 8 = 2 ^ a := by decide +kernel
  have ec : ∀ a, a < 8 → crd (fun v => decide (v = a)) 8 = 1 := by decide +kernel
  have hs : srI N p f a (fun v => decide (v = a)) (fun _ => a) (fun _ => 0) 1 (pI Z 17 0 (nI a)) := by
    refine ⟨⟨by omega, ec a (by omega), rfl⟩, fun j hj => ⟨ha, by simp⟩, fun v hv hv2 => ⟨0, by omega, by simpa using (of_decide_eq_true hv2).symm⟩, fun j k hj hk _ => by omega, fun j h0 hj => by omega, fun j hj => ?_, fun j h0 hj => by omega⟩
    have : j = 0 := by omega
    subst this
    exact gI_pI_s _ _ _ _
  obtain ⟨Z', r, q, ar, tl, m1, m2, m3, m4, m5⟩ := p_srch_out (x3 := nI a) (x4 := nI b) hI 8 0 3000 (pI Z 17 0 (nI a)) _ _ _ 1 (by omega) (by omega) (rNet_R hR (onlyR_pI (by omega))) (rFl_k hF (fun i => gI_pI_k _ _ _ _ (by decide))) hs (by omega) (fun j hj => by omega)
  refine ⟨Z', r, q, ar, tl, ?_, m2, m3, onlyR_tr (onlyR_pI (by omega)) m4, fun i => (m5 i).trans (gI_pI_k _ _ _ _ (by decide))⟩
  have hmr := msk_lt r 8
  rw [em a (by omega)] at m1
  unfold sX5_search
  rw [gd_t hR.1, p_bit (by omega), bnd_s, nm_d, gd_t (by decide), nm_d, show ((0 : Int32).toNatClampNeg) = 0 from by decide]
  refine m1.trans ?_
  unfold sX5_search_B154
  rw [p_hasBit (by omega) (by omega), bnd_s, msk_bit, show decide (b < 8) = true from decide_eq_true (by omega), Bool.true_and]
  cases r b with
  | true => simp only [if_true]; rw [gd_t (by decide)]
  | false => simp only [Bool.false_eq_true, if_false]; rw [gd_t (by decide)]
