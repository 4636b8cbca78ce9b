/-! the route -/
def oth (N : NN) (i v : Nat) : Nat := if nT N i 0 = v then nT N i 1 else nT N i 0
theorem acr_oth (N : NN) (i v : Nat) : acr N i v = if nT N i 0 = v ∨ nT N i 1 = v then nI (oth N i v) else -1 := by
  unfold acr oth
  by_cases c : nT N i 0 = v
  · rw [if_pos c, if_pos (Or.inl c), if_pos c]
  · rw [if_neg c, if_neg c]
    by_cases c2 : nT N i 1 = v
    · rw [if_pos c2, if_pos (Or.inr c2)]
    · rw [if_neg c2, if_neg (fun q => q.elim c c2)]
theorem ends_oth {N : NN} {i v : Nat} (h : nT N i 0 = v ∨ nT N i 1 = v) : ends N i v (oth N i v) := by
  unfold oth
  by_cases c : nT N i 0 = v
  · rw [if_pos c]; exact Or.inl ⟨c, rfl⟩
  · rw [if_neg c]; exact Or.inr ⟨h.elim (fun q => absurd q c) id, rfl⟩
theorem ends_is {N : NN} {W i v w : Nat} (hI : iN N W) (hi : i < N 1) (h : ends N i v w) : (nT N i 0 = v ∨ nT N i 1 = v) ∧ oth N i v = w := by
  obtain ⟨q0, q1, q2, -⟩ := hI.2.1 i hi
  unfold oth
  rcases h with ⟨a, b⟩ | ⟨a, b⟩
  · exact ⟨Or.inl a, by rw [if_pos a]; exact b⟩
  · exact ⟨Or.inr a, by rw [if_neg (by omega)]; exact b⟩
theorem oth_lt {N : NN} {W i v : Nat} (hI : iN N W) (hi : i < N 1) : oth N i v < N 0 := by
  obtain ⟨q0, q1, -⟩ := hI.2.1 i hi
  unfold oth; split <;> assumption
/-- a usable trunk at v on a shortest way -/
def tB (N : NN) (p : Nat → Bool) (d : Nat → Nat) (v i : Nat) : Bool := p i && decide (nT N i 0 = v ∨ nT N i 1 = v) && decide (d v = d (oth N i v) + (nT N i 2 * 8 + 1))
def ft (N : NN) (p : Nat → Bool) (d : Nat → Nat) (v : Nat) : Nat := fnd (tB N p d v) (N 1)
theorem p_first_L {N : NN} {Z : ZZ} {W t v : Nat} {p : Nat → Bool} {d : Nat → Nat} (hI : iN N W) (hR : rNet N Z t) (hD : rD d Z) (hv : v < 8) : ∀ (e i n : Nat), i + e = N 1 → e < n → (∀ k, k < i → tB N p d v k = false) → sX5_firstTrunkToGoal_L3 t (nI (msk p 16)) (nI v) n (nI i) Z = some (if ft N p d v < N 1 then nI (ft N p d v) else -1, Z) := by
  have h16 := hI.1.2.1
  have h8 := hI.1.1
  intro e
  induction e with
  | zero =>
    intro i n hi hn hk
    obtain ⟨n, rfl⟩ : ∃ q, n = q + 1 := ⟨n - 1, by omega⟩
    have e : ft N p d v = N 1 := fnd_none (fun k hk2 => hk k (by omega))
    rw [sX5_firstTrunkToGoal_L3, hR.2.2.1, if_pos (nI_le (by omega) (by omega)), e, if_neg (by omega)]
  | succ e ih =>
    intro i n hi hn hk
    obtain ⟨n, rfl⟩ : ∃ q, n = q + 1 := ⟨n - 1, by omega⟩
    have hmk := msk_lt p 16
    obtain ⟨-, -, hlen⟩ := hR.2.2.2 i (by omega)
    obtain ⟨q0, q1, q2, q3, q4, -⟩ := hI.2.1 i (by omega)
    have hnext : tB N p d v i = false → ∀ k, k < i + 1 → tB N p d v k = false := fun h k hk2 => by
      by_cases c : k = i
      · rw [c]; exact h
      · exact hk k (by omega)
    rw [sX5_firstTrunkToGoal_L3, hR.2.2.1, if_neg (nI_ge (by omega) (by omega)), p_across hR hI (by omega) (by omega), bnd_s, nm_d, acr_oth]
    by_cases c : nT N i 0 = v ∨ nT N i 1 = v
    · have ho := oth_lt (v := v) hI (show i < N 1 by omega)
      rw [if_pos c, if_neg (ne_m1 (by omega)), p_hasBit (by omega) (by omega), bnd_s, msk_bit]
      have e2 : decide (i < 16) = true := decide_eq_true (by omega)
      rw [e2, Bool.true_and]
      cases hp : p i with
      | false =>
        simp only [Bool.false_eq_true, if_false]
        rw [if_pos trivial, nm_d, ad_n1]
        exact ih (i + 1) n (by omega) (by omega) (hnext (by unfold tB; rw [hp]; rfl))
      | true =>
        simp only [if_true]
        have hdv := (hD v hv).2
        have hdw := (hD _ (show oth N i v < 8 by omega)).2
        rw [if_neg (by decide), p_dist hD hv, bnd_s, p_dist hD (by omega), bnd_s, gd_t (vin_n (by omega) (by decide)), cl_n (by omega), hlen, p_key, bnd_s]
        simp only [nI_add]
        simp only [eq_nn (show d v < 2 ^ 31 by omega) (show d (oth N i v) + (nT N i 2 * 8 + 1) < 2 ^ 31 by omega)]
        by_cases c2 : d v = d (oth N i v) + (nT N i 2 * 8 + 1)
        · have ht : tB N p d v i = true := by unfold tB; rw [hp, decide_eq_true c, decide_eq_true c2]; rfl
          have e3 : ft N p d v = i := fnd_some (by omega) hk ht
          rw [if_pos c2, e3, if_pos (by omega)]
        · rw [if_neg c2, nm_d, ad_n1]
          exact ih (i + 1) n (by omega) (by omega) (hnext (by unfold tB; rw [decide_eq_false c2, Bool.and_false]))
    · rw [if_neg c, if_pos rfl, nm_d, ad_n1]
      exact ih (i + 1) n (by omega) (by omega) (hnext (by unfold tB; rw [decide_eq_false c, Bool.and_false, Bool.false_and]))
theorem p_first {N : NN} {Z : ZZ} {W t v : Nat} {p : Nat → Bool} {d : Nat → Nat} (hI : iN N W) (hR : rNet N Z t) (hD : rD d Z) (hv : v < 8) : sX5_firstTrunkToGoal t (nI (msk p 16)) (nI v) Z = some (if ft N p d v < N 1 then nI (ft N p d v) else -1, Z) := by
  unfold sX5_firstTrunkToGoal
  rw [gd_t hR.1]
  exact p_first_L hI hR hD hv (N 1) 0 3000 (by omega) (by have := hI.1.2.1; omega) (fun k hk => by omega)
/-- from a switch that isn't the goal there is a trunk on a shortest way -/
theorem ft_lt {N : NN} {W g v : Nat} {p : Nat → Bool} {d : Nat → Nat} (hI : iN N W) (h : isD N p g d) (hv : v < 8) (hf : d v < 1000000) (hne : v ≠ g) : ft N p d v < N 1 ∧ p (ft N p d v) = true ∧ ends N (ft N p d v) v (oth N (ft N p d v) v) ∧ d v = d (oth N (ft N p d v) v) + K8 (nT N (ft N p d v) 2) := by
  have hlt : ft N p d v < N 1 := by
    rcases Nat.lt_or_ge (ft N p d v) (N 1) with q | q
    · exact q
    · exfalso
      have hall := fnd_ge (p := tB N p d v) (n := N 1) (by unfold ft at q; omega)
      rcases h.2.2 v hv hf with q2 | ⟨w, k, e1, e2, e3⟩
      · exact hne q2
      · obtain ⟨i, i1, i2, i3, i4⟩ := edge_sym e1
        obtain ⟨t1, t2⟩ := ends_is hI i1 i4
        have := hall i i1
        unfold tB at this
        rw [i2, decide_eq_true t1, t2, ← i3, decide_eq_true e3] at this
        cases this
  have ht : tB N p d v (ft N p d v) = true := (fnd_lt (p := tB N p d v) (n := N 1) hlt).1
  unfold tB at ht
  simp only [Bool.and_eq_true, decide_eq_true_eq] at ht
  exact ⟨hlt, ht.1.1, ends_oth ht.1.2, ht.2⟩
def rtV (N : NN) (p : Nat → Bool) (d : Nat → Nat) (s : Nat) : Nat → Nat
  | 0 => s
  | k + 1 => oth N (ft N p d (rtV N p d s k)) (rtV N p d s k)
/-- the k-th trunk of the route from s -/
def rtT (N : NN) (p : Nat → Bool) (d : Nat → Nat) (s k : Nat) : Nat := ft N p d (rtV N p d s k)
theorem rt_step {N : NN} {W g v : Nat} {p : Nat → Bool} {d : Nat → Nat} (hI : iN N W) (hg : g < N 0) (h : isD N p g d) (hv : v < N 0) (hf : d v < 1000000) (hne : v ≠ g) : oth N (ft N p d v) v < N 0 ∧ d (oth N (ft N p d v) v) < 1000000 ∧ d v / 8 = d (oth N (ft N p d v) v) / 8 + nT N (ft N p d v) 2 ∧ d v % 8 = d (oth N (ft N p d v) v) % 8 + 1 := by
  have h8 := hI.1.1
  obtain ⟨a, b, c, e⟩ := ft_lt hI h (by omega) hf hne
  have ho := oth_lt (v := v) hI a
  have hw : d (oth N (ft N p d v) v) < 1000000 := by omega
  obtain ⟨t1, t2⟩ := dec8_t hI hg (isD_G h) hv ho hw e hf
  exact ⟨ho, hw, t1, t2⟩
/-- nothing but the router's cells changed -/
def onlyR (Z Z' : ZZ) : Prop := (∀ k j, (k < 13 ∨ 18 < k) → gI Z' k j = gI Z k j) ∧ ∀ k, gL Z' k = gL Z k
theorem onlyR_rf (Z : ZZ) : onlyR Z Z := ⟨fun _ _ _ => rfl, fun _ => rfl⟩
theorem onlyR_tr {A B C : ZZ} (h1 : onlyR A B) (h2 : onlyR B C) : onlyR A C := ⟨fun k j h => (h2.1 k j h).trans (h1.1 k j h), fun k => (h2.2 k).trans (h1.2 k)⟩
theorem onlyR_15 {A B : ZZ} (h1 : only15 A B) : onlyR A B := ⟨fun k j h => h1.1 k j (by omega), h1.2⟩
theorem onlyR_pI {A : ZZ} {q j : Nat} {x : Int32} (h : 13 ≤ q ∧ q ≤ 18) : onlyR A (pI A q j x) := ⟨fun k i hk => gI_pI_k _ _ _ _ (by omega), fun k => rfl⟩
theorem sh14_ge {t : Nat} (h : shC t = 14) : 19 ≤ t := by
  have : ∀ k, k < 19 → shC k ≠ 14 := by decide +kernel
  rcases Nat.lt_or_ge t 19 with q | q
  · exact absurd h (this t q)
  · exact q
theorem rNet_R {N : NN} {Z Z' : ZZ} {t : Nat} (h : rNet N Z t) (ho : onlyR Z Z') : rNet N Z' t := by
  have ht := sh14_ge h.1
  obtain ⟨h1, h2, h3, h4⟩ := h
  refine ⟨h1, by rw [ho.1 _ _ (by omega)]; exact h2, by rw [ho.1 _ _ (by omega)]; exact h3, fun i hi => ?_⟩
  obtain ⟨a, b, c⟩ := h4 i hi
  exact ⟨by rw [ho.1 _ _ (by omega)]; exact a, by rw [ho.1 _ _ (by omega)]; exact b, by rw [ho.1 _ _ (by omega)]; exact c⟩
theorem p_find_L {N : NN} {W t s g m : Nat} {p : Nat → Bool} {d : Nat → Nat} {x3 : Int32} (hI : iN N W) (hg : g < N 0) (h : isD N p g d) (hm7 : m ≤ 7) : ∀ (e k n : Nat) (Z : ZZ) (v : Nat), k + e = m → e < n → rtV N p d s k = v → v < N 0 → d v < 1000000 → d v % 8 + k = m → rNet N Z t → rD d Z → (∀ j, j < k → gI Z 14 j = nI (rtT N p d s j)) → gI Z 13 1 = nI k →
    ∃ Z', sX5_findRoute_L43 t (nI (msk p 16)) x3 (nI g) n (nI v) (nI k) Z = some (1, Z') ∧ (∀ j, j < m → gI Z' 14 j = nI (rtT N p d s j)) ∧ gI Z' 13 1 = nI m ∧ gI Z' 13 2 = gI Z 13 2 ∧ onlyR Z Z' := by
  have h16 := hI.1.2.1
  have h8 := hI.1.1
  intro e
  induction e with
  | zero =>
    intro k n Z v hk hn hrv hv hf hd8 hR hD hrt hc
    obtain ⟨n, rfl⟩ : ∃ q, n = q + 1 := ⟨n - 1, by omega⟩
    have hkm : k = m := by omega
    subst hkm
    have hvg : v = g := (dec8 hI hg (isD_G h) _ v hv hf (Nat.le_refl _)).2.2 (by omega)
    subst hvg
    refine ⟨Z, ?_, hrt, hc, rfl, onlyR_rf Z⟩
    rw [sX5_findRoute_L43]
    unfold sX5_findRoute_B100
    by_cases c : (7 : Int32) ≤ nI k
    · rw [if_pos c, if_pos rfl]
    · rw [if_neg c, if_pos rfl, if_pos rfl]
  | succ e ih =>
    intro k n Z v hk hn hrv hv hf hd8 hR hD hrt hc
    obtain ⟨n, rfl⟩ : ∃ q, n = q + 1 := ⟨n - 1, by omega⟩
    have hvg : v ≠ g := by
      intro q
      subst q
      rw [h.1] at hd8; omega
    obtain ⟨f1, -, -, -⟩ := ft_lt hI h (by omega) hf hvg
    obtain ⟨s1, s2, s3, s4⟩ := rt_step hI hg h hv hf hvg
    obtain ⟨f1', f2', f3', f4'⟩ := ft_lt hI h (by omega) hf hvg
    have hR1 : rNet N (pI (pI Z 14 k (nI (ft N p d v))) 13 1 (nI (k + 1))) t := rNet_R hR (onlyR_tr (onlyR_pI (by omega)) (onlyR_pI (by omega)))
    have hD1 : rD d (pI (pI Z 14 k (nI (ft N p d v))) 13 1 (nI (k + 1))) := fun u hu => by
      rw [gI_pI_k _ _ _ _ (by decide), gI_pI_k _ _ _ _ (by decide)]; exact hD u hu
    obtain ⟨Z', a1, a2, a3, a4, a5⟩ := ih (k + 1) n _ (oth N (ft N p d v) v) (by omega) (by omega) (by rw [rtV, hrv]) s1 s2 (by omega) hR1 hD1 (fun j hj => by
      rw [gI_pI_k _ _ _ _ (by decide)]
      by_cases c : j = k
      · subst c
        rw [gI_pI_s]; unfold rtT; rw [hrv]
      · rw [gI_pI_j _ _ _ _ c]; exact hrt j (by omega)) (gI_pI_s _ _ _ _)
    refine ⟨Z', ?_, a2, a3, ?_, onlyR_tr (onlyR_tr (onlyR_pI (by omega)) (onlyR_pI (by omega))) a5⟩
    · rw [sX5_findRoute_L43, if_neg (lge (show k < 7 by omega) (by omega)), if_neg (by rw [eq_nn (by omega) (by omega)]; exact hvg), p_first hI hR hD (by omega), bnd_s, if_pos f1, nm_d, gd_t (vin_n (by omega) (by decide)), nm_d, cl_n (by omega), ad_n1, nm_d, p_across hR1 hI f1 (by omega), bnd_s, nm_d, nm_d, acr_oth, if_pos (ends_is hI f1 f3').1]
      exact a1
    · rw [a4, gI_pI_j _ _ _ _ (by decide), gI_pI_k _ _ _ _ (by decide)]
theorem p_findRoute {N : NN} {Z : ZZ} {W t s g : Nat} {p : Nat → Bool} (hI : iN N W) (hR : rNet N Z t) (hs : s < N 0) (hg : g < N 0) : ∃ Z' d, sX5_findRoute t (nI (msk p 16)) (nI s) (nI g) Z = some (if d s < 1000000 then 1 else 0, Z') ∧ isD N p g d ∧ onlyR Z Z' ∧
    (d s < 1000000 → gI Z' 13 1 = nI (d s % 8) ∧ gI Z' 13 2 = nI (d s / 8) ∧ d s / 8 ≤ 140 ∧ ∀ j, j < d s % 8 → gI Z' 14 j = nI (rtT N p d s j)) := by
  have h8 := hI.1.1
  obtain ⟨Z1, d, m1, m2, m3, m4⟩ := p_measure (p := p) hI hR hg
  have hb := (m2 s (by omega)).2
  have hD1 : ∀ x, rD d (pI Z1 13 1 x) := fun x u hu => by
    rw [gI_pI_k _ _ _ _ (by decide)]; exact m2 u hu
  unfold sX5_findRoute
  rw [gd_t hR.1, m1, bnd_s, nm_d, p_dist (hD1 _) (by omega), bnd_s]
  by_cases c : d s < 1000000
  · have hD2 : ∀ x y, rD d (pI (pI Z1 13 1 x) 13 2 y) := fun x y u hu => by
      rw [gI_pI_k _ _ _ _ (by decide)]; exact hD1 x u hu
    have hro : ∀ x y, onlyR Z (pI (pI Z1 13 1 x) 13 2 y) := fun x y => onlyR_tr (onlyR_15 m3) (onlyR_tr (onlyR_pI (by omega)) (onlyR_pI (by omega)))
    obtain ⟨Z', a1, a2, a3, a4, a5⟩ := p_find_L (t := t) (s := s) (x3 := nI s) (m := d s % 8) hI hg m4 (by omega) (d s % 8) 0 3000 (pI (pI Z1 13 1 0) 13 2 (nI (d s / 8))) s (by omega) (by omega) rfl hs c (by omega) (rNet_R hR (hro _ _)) (hD2 _ _) (fun j hj => by omega) (by rw [gI_pI_j _ _ _ _ (by decide), gI_pI_s]; rfl)
    refine ⟨Z', d, ?_, m4, onlyR_tr (hro _ _) a5, fun _ => ⟨a3, ?_, ?_, a2⟩⟩
    · show (if nI (d s) < nI 1000000 then _ else _) = _
      rw [if_pos (nI_lt c (by omega)), if_pos c, p_dist (hD1 _) (by omega), bnd_s]
      show (nm (pI (pI Z1 13 1 0) 13 2 (nI (d s) / 8)) _) = _
      rw [show (8 : Int32) = nI 8 from rfl, pk_div (by omega) (by omega) (by omega), nm_d]
      exact a1
    · rw [a4, gI_pI_s]
    · have h1 := rnk_le (N := N) (d := d) hs
      obtain ⟨-, a, -⟩ := dec8 hI hg (isD_G m4) _ s hs c (Nat.le_refl _)
      omega
  · refine ⟨pI Z1 13 1 0, d, ?_, m4, onlyR_tr (onlyR_15 m3) (onlyR_pI (by omega)), fun q => absurd q c⟩
    show (if nI (d s) < nI 1000000 then _ else _) = _
    rw [if_neg (by rw [lt_nn (by omega) (by omega)]; exact c), if_neg c]
