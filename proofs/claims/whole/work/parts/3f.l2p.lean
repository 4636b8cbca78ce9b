/-! the search for a way with room -/
def nF (x : Int) : Int32 := Int32.ofInt x
/-- the row of flows holds f -/
def rFl (N : NN) (f : Nat → Int) (Z : ZZ) : Prop := ∀ i, i < N 1 → gI Z 16 i = nF (f i) ∧ -1 ≤ f i ∧ f i ≤ 1
/-- trunk i takes one more from u -/
def room (N : NN) (f : Nat → Int) (i u : Nat) : Bool := if nT N i 0 = u then decide (f i < 1) else decide (-1 < f i)
theorem p_room {N : NN} {W t i u : Nat} {Z : ZZ} {f : Nat → Int} (hI : iN N W) (hR : rNet N Z t) (hF : rFl N f Z) (hi : i < N 1) (hu : u < 2 ^ 31) : sX5_hasRoom t (nI i) (nI u) Z = some (if room N f i u then 1 else 0, Z) := by
  have h16 := hI.1.2.1
  have h8 := hI.1.1
  obtain ⟨q0, q1, -⟩ := hI.2.1 i hi
  obtain ⟨g0, -⟩ := hR.2.2.2 i (by omega)
  obtain ⟨f1, f2, f3⟩ := hF i hi
  unfold sX5_hasRoom room
  rw [gd_t hR.1, gd_t (vin_n (by omega) (by decide)), gd_t (vin_n (by omega) (by decide)), gd_t (vin_n (by omega) (by decide)), cl_n (by omega), g0, f1]
  simp only [eq_nn (show nT N i 0 < 2 ^ 31 by omega) hu]
  have hv : f i = -1 ∨ f i = 0 ∨ f i = 1 := by omega
  by_cases c : nT N i 0 = u
  · rw [if_pos c]
    simp only [if_pos c]
    rcases hv with e | e | e <;> rw [e] <;> rfl
  · rw [if_neg c]
    simp only [if_neg c]
    rcases hv with e | e | e <;> rw [e] <;> rfl
/-- the state of the search: reached r, queue q of tl, arrivals ar -/
def srI (N : NN) (p : Nat → Bool) (f : Nat → Int) (a : Nat) (r : Nat → Bool) (q ar : Nat → Nat) (tl : Nat) (Z : ZZ) : Prop :=
  (1 ≤ tl ∧ crd r 8 = tl ∧ q 0 = a) ∧ (∀ j, j < tl → q j < N 0 ∧ r (q j) = true) ∧ (∀ v, v < 8 → r v = true → ∃ j, j < tl ∧ q j = v) ∧ (∀ j k, j < tl → k < tl → q j = q k → j = k) ∧
  (∀ j, 0 < j → j < tl → ∃ k, k < j ∧ ar (q j) < N 1 ∧ p (ar (q j)) = true ∧ ends N (ar (q j)) (q k) (q j) ∧ room N f (ar (q j)) (q k) = true) ∧
  (∀ j, j < tl → gI Z 17 j = nI (q j)) ∧ (∀ j, 0 < j → j < tl → gI Z 18 (q j) = nI (ar (q j)))
theorem srI_add {N : NN} {W i u w h tl a : Nat} {p : Nat → Bool} {f : Nat → Int} {r : Nat → Bool} {q ar : Nat → Nat} {Z : ZZ} (hI : iN N W) (hs : srI N p f a r q ar tl Z) (hh : h < tl) (hq : q h = u) (hi : i < N 1) (hp : p i = true) (he : ends N i u w) (hr : room N f i u = true) (hw : w < N 0) (hn : r w = false) :
    srI N p f a (fun v => r v || decide (v = w)) (updN q tl w) (updN ar w i) (tl + 1) (pI (pI Z 18 w (nI i)) 17 tl (nI w)) := by
  have h8 := hI.1.1
  obtain ⟨⟨s1, s2, s3⟩, s4, s5, s6, s7, s8, s9⟩ := hs
  have hne : ∀ j, j < tl → q j ≠ w := fun j hj e => by
    have := (s4 j hj).2
    rw [e, hn] at this; cases this
  have hu1 : ∀ j, j < tl → updN q tl w j = q j := fun j hj => if_neg (by omega)
  have hu2 : updN q tl w tl = w := if_pos rfl
  have hu3 : ∀ j, j < tl → updN ar w i (q j) = ar (q j) := fun j hj => if_neg (hne j hj)
  have hu4 : updN ar w i w = i := if_pos rfl
  refine ⟨⟨by omega, by rw [crd_add (by omega) hn, s2], by rw [hu1 0 (by omega)]; exact s3⟩, fun j hj => ?_, fun v hv hrv => ?_, fun j k hj hk e => ?_, fun j h0 hj => ?_, fun j hj => ?_, fun j h0 hj => ?_⟩
  · by_cases c : j = tl
    · subst c
      rw [hu2]; exact ⟨hw, by simp⟩
    · rw [hu1 j (by omega)]
      obtain ⟨x, y⟩ := s4 j (by omega)
      exact ⟨x, by simp [y]⟩
  · by_cases c : v = w
    · exact ⟨tl, by omega, by rw [hu2, c]⟩
    · have : r v = true := by simpa [c] using hrv
      obtain ⟨j, j1, j2⟩ := s5 v hv this
      exact ⟨j, by omega, by rw [hu1 j j1]; exact j2⟩
  · by_cases cj : j = tl
    · by_cases ck : k = tl
      · omega
      · rw [cj, hu2, hu1 k (by omega)] at e
        exact absurd e.symm (hne k (by omega))
    · by_cases ck : k = tl
      · rw [ck, hu2, hu1 j (by omega)] at e
        exact absurd e (hne j (by omega))
      · rw [hu1 j (by omega), hu1 k (by omega)] at e
        exact s6 j k (by omega) (by omega) e
  · by_cases c : j = tl
    · subst c
      refine ⟨h, hh, ?_⟩
      rw [hu2, hu4, hu1 h hh, hq]
      exact ⟨hi, hp, he, hr⟩
    · obtain ⟨k, k1, k2, k3, k4, k5⟩ := s7 j h0 (by omega)
      refine ⟨k, k1, ?_⟩
      rw [hu1 j (by omega), hu1 k (by omega), hu3 j (by omega)]
      exact ⟨k2, k3, k4, k5⟩
  · by_cases c : j = tl
    · subst c
      rw [hu2, gI_pI_s]
    · rw [hu1 j (by omega), gI_pI_j _ _ _ _ c, gI_pI_k _ _ _ _ (by decide)]
      exact s8 j (by omega)
  · by_cases c : j = tl
    · subst c
      rw [hu2, hu4, gI_pI_k _ _ _ _ (by decide), gI_pI_s]
    · rw [hu1 j (by omega), hu3 j (by omega), gI_pI_k _ _ _ _ (by decide), gI_pI_j _ _ _ _ (hne j (by omega))]
      exact s9 j h0 (by omega)
