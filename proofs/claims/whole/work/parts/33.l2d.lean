theorem lge {n a : Nat} (h : a < n) (hn : n < 2 ^ 31) : ¬ (OfNat.ofNat n : Int32) ≤ nI a := nI_ge h hn
theorem lle {n a : Nat} (h : n ≤ a) (ha : a < 2 ^ 31) : (OfNat.ofNat n : Int32) ≤ nI a := nI_le h ha
/-- the switch at the other end, as an answer -/
def acr (N : NN) (i s : Nat) : Int32 := if nT N i 0 = s then nI (nT N i 1) else if nT N i 1 = s then nI (nT N i 0) else -1
/-- the network part of the relation: what the router reads -/
def rNet (N : NN) (Z : ZZ) (t : Nat) : Prop :=
  shC t = 14 ∧ gI Z t 0 = nI (N 0) ∧ gI Z t 1 = nI (N 1) ∧ (∀ i, i < 16 → gI Z (t + 1) i = nI (nT N i 0) ∧ gI Z (t + 2) i = nI (nT N i 1) ∧ gI Z (t + 3) i = nI (nT N i 2))
theorem rNet_of {N : NN} {Z : ZZ} {b : Nat} (hB : rB N Z b) : rNet N Z (b + 1) := ⟨sh_X6_network hB.1, hB.2.1.1, hB.2.1.2.1, fun i hi => ⟨(hB.2.2.2.1 i hi).1, (hB.2.2.2.1 i hi).2.1, (hB.2.2.2.1 i hi).2.2.1⟩⟩
theorem p_across {N : NN} {Z : ZZ} {t W i s : Nat} (hR : rNet N Z t) (hI : iN N W) (hi : i < N 1) (hs : s < 2 ^ 31) : sX3_acrossFrom t (nI i) (nI s) Z = some (acr N i s, Z) := by
  obtain ⟨ht, h0, h1, hr⟩ := hR
  have h16 := hI.1.2.1
  have h8 := hI.1.1
  obtain ⟨r0, r1, -⟩ := hr i (by omega)
  obtain ⟨q0, q1, -⟩ := hI.2.1 i hi
  unfold sX3_acrossFrom acr
  rw [gd_t ht, if_neg (nI_pos (by omega)), h1, if_pos (nI_lt hi (by omega)), gd_t (vin_n (by omega) (by decide)), gd_t (vin_n (by omega) (by decide)), gd_t (vin_n (by omega) (by decide)), gd_t (vin_n (by omega) (by decide)), cl_n (by omega), r0, r1]
  simp only [eq_nn (show nT N i 0 < 2 ^ 31 by omega) hs, eq_nn (show nT N i 1 < 2 ^ 31 by omega) hs]
  by_cases c : nT N i 0 = s
  · rw [if_pos c, if_pos c]
  · rw [if_neg c, if_neg c]
    by_cases c2 : nT N i 1 = s
    · rw [if_pos c2, if_pos c2]
    · rw [if_neg c2, if_neg c2]
/-- the distances in the router's row -/
def rD (d : Nat → Nat) (Z : ZZ) : Prop := ∀ v, v < 8 → gI Z 15 v = nI (d v) ∧ d v ≤ 1000000
theorem p_dist {d : Nat → Nat} {Z : ZZ} {v : Nat} (hD : rD d Z) (hv : v < 8) : sX5_distanceOf (nI v) Z = some (nI (d v), Z) := by
  unfold sX5_distanceOf
  rw [if_neg (nI_pos (by omega)), if_neg (lge hv (by omega)), gd_t (vin_n hv (by decide)), cl_n (by omega), (hD v hv).1]
theorem p_key {k : Nat} {Z : ZZ} : sX5_keyOf (nI k) Z = some (nI (k * 8 + 1), Z) := by
  unfold sX5_keyOf
  rw [show (8 : Int32) = nI 8 from rfl, pk_mul, ad_n1]
def updN (d : Nat → Nat) (v x : Nat) : Nat → Nat := fun q => if q = v then x else d q
/-- nothing but the router's distances changed -/
def only15 (Z Z' : ZZ) : Prop := (∀ k j, k ≠ 15 → gI Z' k j = gI Z k j) ∧ ∀ k, gL Z' k = gL Z k
theorem only15_rf (Z : ZZ) : only15 Z Z := ⟨fun _ _ _ => rfl, fun _ => rfl⟩
theorem only15_tr {A B C : ZZ} (h1 : only15 A B) (h2 : only15 B C) : only15 A C := ⟨fun k j h => (h2.1 k j h).trans (h1.1 k j h), fun k => (h2.2 k).trans (h1.2 k)⟩
theorem rNet_15 {N : NN} {Z Z' : ZZ} {t : Nat} (h : rNet N Z t) (ho : only15 Z Z') : rNet N Z' t := by
  have ht : 19 ≤ t := by
    have : ∀ k, k < 19 → shC k ≠ 14 := by decide +kernel
    rcases Nat.lt_or_ge t 19 with q | q
    · exact absurd h.1 (this t q)
    · exact q
  obtain ⟨h1, h2, h3, h4⟩ := h
  refine ⟨h1, by rw [ho.1 _ _ (by omega)]; exact h2, by rw [ho.1 _ _ (by omega)]; exact h3, fun i hi => ?_⟩
  obtain ⟨a, b, c⟩ := h4 i hi
  exact ⟨by rw [ho.1 _ _ (by omega)]; exact a, by rw [ho.1 _ _ (by omega)]; exact b, by rw [ho.1 _ _ (by omega)]; exact c⟩
theorem p_shorten {d : Nat → Nat} {Z : ZZ} {v x : Nat} (hD : rD d Z) (hv : v < 8) (hx : x < 2 ^ 31) : ∃ Z', sX5_shorten (nI v) (nI x) Z = some Z' ∧ rD (updN d v (min (d v) x)) Z' ∧ only15 Z Z' := by
  unfold sX5_shorten
  obtain ⟨h1, h2⟩ := hD v hv
  rw [if_neg (nI_pos (by omega)), if_neg (lge hv (by omega)), gd_t (vin_n hv (by decide)), cl_n (by omega), h1]
  simp only [le_nn (show d v < 2 ^ 31 by omega) hx]
  by_cases c : d v ≤ x
  · refine ⟨Z, if_pos c, fun q hq => ?_, only15_rf Z⟩
    have e : updN d v (min (d v) x) q = d q := by
      unfold updN
      by_cases e : q = v
      · subst e; rw [if_pos rfl, Nat.min_eq_left c]
      · rw [if_neg e]
    rw [e]; exact hD q hq
  · refine ⟨pI Z 15 v (nI x), ?_, fun q hq => ?_, fun k j hk => gI_pI_k _ _ _ _ hk, fun k => rfl⟩
    · rw [if_neg c, gd_t (vin_n hv (by decide)), nm_d]
    · unfold updN
      by_cases e : q = v
      · subst e
        rw [if_pos rfl, Nat.min_eq_right (by omega), gI_pI_s]
        exact ⟨rfl, by omega⟩
      · rw [if_neg e, gI_pI_j _ _ _ _ e]
        exact hD q hq
theorem p_shorten_m {Z : ZZ} {x : Int32} : sX5_shorten (-1) x Z = some Z := by
  unfold sX5_shorten
  rw [if_pos (by decide)]
/-- the nearest of the unsettled switches -/
theorem p_nearest_L {d : Nat → Nat} {sp : Nat → Bool} {Z : ZZ} (hD : rD d Z) : ∀ (e i n : Nat) (y2 : Int32) (y3 : Nat), i + e = 8 → e < n → y3 ≤ 1000000 →
    ((y2 = -1 ∧ y3 = 1000000 ∧ ∀ v, v < i → sp v = false → 1000000 ≤ d v) ∨ (∃ v, v < i ∧ y2 = nI v ∧ sp v = false ∧ d v = y3 ∧ y3 < 1000000 ∧ ∀ u, u < i → sp u = false → y3 ≤ d u)) →
    (sX5_nearestUnsettled_L8 (nI (msk sp 8)) n y2 (nI y3) (nI i) Z = some (-1, Z) ∧ ∀ v, v < 8 → sp v = false → 1000000 ≤ d v) ∨
    (∃ v, v < 8 ∧ sX5_nearestUnsettled_L8 (nI (msk sp 8)) n y2 (nI y3) (nI i) Z = some (nI v, Z) ∧ sp v = false ∧ d v < 1000000 ∧ ∀ u, u < 8 → sp u = false → d v ≤ d u) := by
  intro e
  induction e with
  | zero =>
    intro i n y2 y3 hi hn hy h
    obtain ⟨n, rfl⟩ : ∃ q, n = q + 1 := ⟨n - 1, by omega⟩
    have hi8 : i = 8 := by omega
    subst hi8
    rw [sX5_nearestUnsettled_L8, if_pos (by decide)]
    rcases h with ⟨h1, h2, h3⟩ | ⟨v, h1, h2, h3, h4, h5, h6⟩
    · left; exact ⟨by rw [h1], h3⟩
    · right; exact ⟨v, h1, by rw [h2], h3, by omega, fun u hu hs => by rw [h4]; exact h6 u hu hs⟩
  | succ e ih =>
    intro i n y2 y3 hi hn hy h
    obtain ⟨n, rfl⟩ : ∃ q, n = q + 1 := ⟨n - 1, by omega⟩
    obtain ⟨g1, g2⟩ := hD i (by omega)
    have hm := msk_lt sp 8
    have h0 : ∀ i, i < 8 → (nI i &&& 31) = nI i := by decide +kernel
    have h1 : ∀ i, i < 8 → ((nI i).toBitVec.smod 32).toNat = i := by decide +kernel
    have eb : (nI (msk sp 8) >>> (nI i &&& 31)) &&& 1 = nI (if sp i then 1 else 0) := by
      rw [h0 i (by omega), pk_shrN (by omega) (nI i) i (h1 i (by omega)), pk_andN (m := 1) (by have := Nat.div_le_self (msk sp 8) (2 ^ i); omega) 1 (by decide)]
      have e1 : (msk sp 8).testBit i = decide (msk sp 8 / 2 ^ i % 2 = 1) := by rw [Nat.testBit_eq_decide_div_mod_eq]
      rw [msk_bit] at e1
      have e2 : decide (i < 8) = true := decide_eq_true (by omega)
      rw [e2, Bool.true_and] at e1
      rw [e1]
      by_cases c : msk sp 8 / 2 ^ i % 2 = 1
      · simp [c]
      · have : msk sp 8 / 2 ^ i % 2 = 0 := by omega
        simp [this]
    rw [sX5_nearestUnsettled_L8, if_neg (lge (show i < 8 by omega) (by omega)), eb]
    cases hs : sp i with
    | true =>
      simp only [if_true]
      rw [if_neg (by decide), nm_d, ad_n1]
      refine ih (i + 1) n y2 y3 (by omega) (by omega) hy ?_
      rcases h with ⟨a1, a2, a3⟩ | ⟨v, a1, a2, a3, a4, a5, a6⟩
      · refine Or.inl ⟨a1, a2, fun v hv hsv => ?_⟩
        by_cases q : v = i
        · subst q; rw [hs] at hsv; cases hsv
        · exact a3 v (by omega) hsv
      · refine Or.inr ⟨v, by omega, a2, a3, a4, a5, fun u hu hsu => ?_⟩
        by_cases q : u = i
        · subst q; rw [hs] at hsu; cases hsu
        · exact a6 u (by omega) hsu
    | false =>
      simp only [Bool.false_eq_true, if_false]
      rw [if_pos (by decide), gd_t (vin_n (by omega) (by decide)), gd_t (vin_n (by omega) (by decide)), cl_n (by omega), g1]
      simp only [le_nn (show y3 < 2 ^ 31 by omega) (show d i < 2 ^ 31 by omega)]
      by_cases c : y3 ≤ d i
      · rw [if_pos c, nm_d, ad_n1]
        refine ih (i + 1) n y2 y3 (by omega) (by omega) hy ?_
        rcases h with ⟨a1, a2, a3⟩ | ⟨v, a1, a2, a3, a4, a5, a6⟩
        · refine Or.inl ⟨a1, a2, fun v hv hsv => ?_⟩
          by_cases q : v = i
          · subst q; omega
          · exact a3 v (by omega) hsv
        · refine Or.inr ⟨v, by omega, a2, a3, a4, a5, fun u hu hsu => ?_⟩
          by_cases q : u = i
          · subst q; exact c
          · exact a6 u (by omega) hsu
      · rw [if_neg c, nm_d, nm_d, ad_n1]
        refine ih (i + 1) n (nI i) (d i) (by omega) (by omega) (by omega) (Or.inr ⟨i, by omega, rfl, hs, rfl, by omega, fun u hu hsu => ?_⟩)
        by_cases q : u = i
        · subst q; exact Nat.le_refl _
        · rcases h with ⟨a1, a2, a3⟩ | ⟨v, a1, a2, a3, a4, a5, a6⟩
          · have := a3 u (by omega) hsu; omega
          · have := a6 u (by omega) hsu; omega
theorem p_nearest {d : Nat → Nat} {sp : Nat → Bool} {Z : ZZ} (hD : rD d Z) :
    (sX5_nearestUnsettled (nI (msk sp 8)) Z = some (-1, Z) ∧ ∀ v, v < 8 → sp v = false → 1000000 ≤ d v) ∨
    (∃ v, v < 8 ∧ sX5_nearestUnsettled (nI (msk sp 8)) Z = some (nI v, Z) ∧ sp v = false ∧ d v < 1000000 ∧ ∀ u, u < 8 → sp u = false → d v ≤ d u) := by
  unfold sX5_nearestUnsettled
  exact p_nearest_L hD 8 0 3000 (-1) 1000000 (by omega) (by omega) (Nat.le_refl _) (Or.inl ⟨rfl, rfl, fun v hv => by omega⟩)
