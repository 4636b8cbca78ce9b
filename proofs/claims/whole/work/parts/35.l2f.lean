def FARN : Nat := 1000000
/-- d is the distance from s over the usable trunks: 0 at s; no trunk is too long; what isn't far has a trunk that is tight -/
def isD (N : NN) (p : Nat → Bool) (s : Nat) (d : Nat → Nat) : Prop :=
  d s = 0 ∧ (∀ v w k, d v < 1000000 → edge N p v w k → d w ≤ d v + k) ∧ (∀ v, v < 8 → d v < 1000000 → v = s ∨ ∃ w k, edge N p w v k ∧ d w < 1000000 ∧ d v = d w + k)
theorem or_msk {sp : Nat → Bool} {v : Nat} (hv : v < 8) : nI (msk sp 8) ||| nI (2 ^ v) = nI (msk (fun q => sp q || decide (q = v)) 8) := by
  rw [or_nn]
  congr 1
  apply msk_of
  · exact Nat.or_lt_two_pow (msk_lt sp 8) (Nat.pow_lt_pow_right (by decide) hv)
  · intro i hi
    rw [Nat.testBit_or, msk_bit, Nat.testBit_two_pow]
    have : decide (i < 8) = true := decide_eq_true hi
    rw [this, Bool.true_and]
    by_cases c : v = i
    · subst c; simp
    · have : ¬ i = v := fun q => c q.symm
      simp [c, this]
def crd (sp : Nat → Bool) (n : Nat) : Nat := sumf (fun v => if sp v then 1 else 0) n
theorem crd_le (sp : Nat → Bool) (n : Nat) : crd sp n ≤ n := by
  induction n with
  | zero => exact Nat.le_refl _
  | succ n ih => unfold crd sumf; unfold crd at ih; split <;> omega
theorem crd_all {sp : Nat → Bool} {n : Nat} (h : crd sp n = n) : ∀ v, v < n → sp v = true := by
  induction n with
  | zero => intro v hv; omega
  | succ n ih =>
    intro v hv
    have h1 : crd sp (n + 1) = crd sp n + (if sp n then 1 else 0) := rfl
    have h2 := crd_le sp n
    have h3 : sp n = true := by
      cases c : sp n with
      | true => rfl
      | false => rw [h1, c] at h; simp at h; omega
    rw [h1, h3] at h
    by_cases c : v = n
    · subst c; exact h3
    · exact ih (by simpa using h) v (by omega)
theorem crd_add {sp : Nat → Bool} {n v : Nat} (hv : v < n) (hs : sp v = false) : crd (fun q => sp q || decide (q = v)) n = crd sp n + 1 := by
  induction n with
  | zero => omega
  | succ n ih =>
    have h1 : ∀ f : Nat → Bool, crd f (n + 1) = crd f n + (if f n then 1 else 0) := fun _ => rfl
    rw [h1, h1]
    by_cases c : v = n
    · subst c
      have e : crd (fun q => sp q || decide (q = v)) v = crd sp v := by
        have : ∀ m, m ≤ v → crd (fun q => sp q || decide (q = v)) m = crd sp m := by
          intro m
          induction m with
          | zero => intro _; rfl
          | succ m ihm =>
            intro hm
            have h1' : ∀ f : Nat → Bool, crd f (m + 1) = crd f m + (if f m then 1 else 0) := fun _ => rfl
            rw [h1', h1', ihm (by omega)]
            have : ¬ m = v := by omega
            simp [this]
        exact this v (Nat.le_refl _)
      rw [e, hs]; simp
    · rw [ih (by omega)]
      have : ¬ n = v := fun q => c q.symm
      simp [this]; omega
theorem crd_sub {sp : Nat → Bool} {n m : Nat} (hn : n ≤ m) (h : ∀ v, v < m → sp v = true → v < n) : crd sp m = crd sp n := by
  induction m with
  | zero => have : n = 0 := by omega
            subst this; rfl
  | succ m ih =>
    by_cases c : n = m + 1
    · subst c; rfl
    · have h1 : crd sp (m + 1) = crd sp m + (if sp m then 1 else 0) := rfl
      rw [h1, ih (by omega) (fun v hv => h v (by omega))]
      cases q : sp m with
      | true => have := h m (by omega) q; omega
      | false => simp
theorem p_meas_out {N : NN} {W t s : Nat} {p : Nat → Bool} {x3 : Int32} (hI : iN N W) (hs0 : s < N 0) : ∀ (e r n : Nat) (Z : ZZ) (d : Nat → Nat) (sp : Nat → Bool), r + e = N 0 → e < n → rNet N Z t → rD d Z → d s = 0 →
    (∀ v, v < 8 → d v < 1000000 → v < N 0 ∧ (v = s ∨ ∃ w k, sp w = true ∧ edge N p w v k ∧ d v = d w + k)) →
    (∀ v, v < 8 → sp v = true → d v < 1000000 ∧ ∀ w k, edge N p v w k → d w ≤ d v + k) →
    (∀ v u, v < 8 → u < 8 → sp v = true → sp u = false → d v ≤ d u) → crd sp 8 = r →
    ∃ Z' d', sX5_measure_L21 t (nI (msk p 16)) x3 n (nI (msk sp 8)) (nI r) Z = some Z' ∧ rD d' Z' ∧ only15 Z Z' ∧ isD N p s d' := by
  have h8 := hI.1.1
  intro e
  induction e with
  | zero =>
    intro r n Z d sp hi hn hR hD hz hc hd he hcr
    obtain ⟨n, rfl⟩ : ∃ q, n = q + 1 := ⟨n - 1, by omega⟩
    have hr : r = N 0 := by omega
    refine ⟨Z, d, by rw [sX5_measure_L21, hR.2.1, if_pos (nI_le (by omega) (by omega))], hD, only15_rf Z, hz, fun v w k hv hvw => ?_, fun v hv hv2 => ?_⟩
    · have hvN := (edge_lt hI hvw).1
      have hlt : ∀ v, v < 8 → sp v = true → v < N 0 := fun v hv hsv => (hc v hv (hd v hv hsv).1).1
      have hall := crd_all (sp := sp) (n := N 0) (by rw [← crd_sub (n := N 0) (m := 8) (by omega) hlt, hcr, hr])
      exact (hd v (by omega) (hall v hvN)).2 w k hvw
    · obtain ⟨h1, h2⟩ := hc v hv hv2
      rcases h2 with h2 | ⟨w, k, g1, g2, g3⟩
      · exact Or.inl h2
      · exact Or.inr ⟨w, k, g2, by omega, g3⟩
  | succ e ih =>
    intro r n Z d sp hi hn hR hD hz hc hd he hcr
    obtain ⟨n, rfl⟩ : ∃ q, n = q + 1 := ⟨n - 1, by omega⟩
    rw [sX5_measure_L21, hR.2.1, if_neg (nI_ge (by omega) (by omega))]
    rcases p_nearest (sp := sp) hD with ⟨a1, a2⟩ | ⟨v, a1, a2, a3, a4, a5⟩
    · refine ⟨Z, d, by rw [a1, bnd_s, nm_d, if_pos rfl], hD, only15_rf Z, hz, fun v w k hv hvw => ?_, fun v hv hv2 => ?_⟩
      · have hvN := (edge_lt hI hvw).1
        cases c : sp v with
        | true => exact (hd v (by omega) c).2 w k hvw
        | false => have := a2 v (by omega) c; omega
      · obtain ⟨h1, h2⟩ := hc v hv hv2
        rcases h2 with h2 | ⟨w, k, g1, g2, g3⟩
        · exact Or.inl h2
        · exact Or.inr ⟨w, k, g2, by omega, g3⟩
    · rw [a2, bnd_s, nm_d, if_neg (ne_m1 (by omega)), p_bit (by omega), bnd_s, nm_d, or_msk a1]
      have hvN := (hc v a1 a4).1
      obtain ⟨Z1, d1, m1, m2, m3, m4, m5⟩ := p_meas_in (x3 := x3) (y4 := nI (msk (fun q => sp q || decide (q = v)) 8)) (y5 := nI r) (k21 := fun y4 y5 Z => sX5_measure_L21 t (nI (msk p 16)) x3 n y4 y5 Z) (p := p) hI a1 (N 1) 0 3000 Z d (by omega) (by have := hI.1.2.1; omega) hR hD a4
      rw [ad_n1] at m1
      have hset : ∀ x, x < 8 → sp x = true → d1 x = d x := by
        intro x hx hsx
        obtain ⟨g1, -, g3⟩ := m5 x hx
        rcases g3 with g | ⟨k, hk, g⟩
        · exact g
        · have := he x v hx a1 hsx a3
          have := (edge_lt hI hk).2.2.2.1
          omega
      obtain ⟨Z', d', q1, q2, q3, q4⟩ := ih (r + 1) n Z1 d1 (fun q => sp q || decide (q = v)) (by omega) (by omega) (rNet_15 hR m3) m2 (by have := (m5 s (by omega)).1; omega)
        (fun w hw hfw => by
          obtain ⟨g1, -, g3⟩ := m5 w hw
          rcases g3 with g | ⟨k, hk, g⟩
          · obtain ⟨h1, h2⟩ := hc w hw (by omega)
            refine ⟨h1, ?_⟩
            rcases h2 with h2 | ⟨x, k, b1, b2, b3⟩
            · exact Or.inl h2
            · have hx8 := (edge_lt hI b2).1
              exact Or.inr ⟨x, k, by simp [b1], b2, by rw [hset x (by omega) b1, g]; exact b3⟩
          · exact ⟨(edge_lt hI hk).2.1, Or.inr ⟨v, k, by simp, hk, by rw [m4]; exact g⟩⟩)
        (fun x hx hsx => by
          by_cases c : x = v
          · subst c
            refine ⟨by omega, fun w k hk => ?_⟩
            obtain ⟨j, j1, j2, j3, j4⟩ := hk
            have hw8 : w < 8 := by have := (edge_lt hI ⟨j, j1, j2, j3, j4⟩).2.1; omega
            have := (m5 w hw8).2.1 j (by omega) j1 j2 j4
            omega
          · have hsx2 : sp x = true := by simpa [c] using hsx
            refine ⟨by rw [hset x hx hsx2]; exact (hd x hx hsx2).1, fun w k hk => ?_⟩
            have hw8 : w < 8 := by have := (edge_lt hI hk).2.1; omega
            have h1 := (m5 w hw8).1
            have h2 := (hd x hx hsx2).2 w k hk
            rw [hset x hx hsx2]; omega)
        (fun x u hx hu hsx hsu => by
          have hsu2 : sp u = false ∧ u ≠ v := by simpa using hsu
          have hu' : d v ≤ d1 u := by
            obtain ⟨-, -, g3⟩ := m5 u hu
            have := a5 u hu hsu2.1
            rcases g3 with g | ⟨k, -, g⟩ <;> omega
          by_cases c : x = v
          · subst c; omega
          · have hsx2 : sp x = true := by simpa [c] using hsx
            have := he x v hx a1 hsx2 a3
            rw [hset x hx hsx2]; omega)
        (by rw [crd_add a1 a3, hcr])
      exact ⟨Z', d', m1.trans q1, q2, only15_tr m3 q3, q4⟩
theorem p_measure {N : NN} {Z : ZZ} {W t s : Nat} {p : Nat → Bool} (hI : iN N W) (hR : rNet N Z t) (hs0 : s < N 0) : ∃ Z' d, sX5_measure t (nI (msk p 16)) (nI s) Z = some Z' ∧ rD d Z' ∧ only15 Z Z' ∧ isD N p s d := by
  have h8 := hI.1.1
  obtain ⟨Z1, f1, f2, f3⟩ := p_fill5 (x := 1000000) (Z := Z)
  obtain ⟨Z2, g1, g2, g3⟩ := p_shorten (d := fun _ => 1000000) (v := s) (x := 0) (fun v hv => ⟨f2 v hv, Nat.le_refl _⟩) (by omega) (by omega)
  have e0 : ∀ v, updN (fun _ => 1000000) s (min 1000000 0) v = if v = s then 0 else 1000000 := fun v => rfl
  obtain ⟨Z', d, m1, m2, m3, m4⟩ := p_meas_out (x3 := nI s) (p := p) hI hs0 (N 0) 0 3000 Z2 _ (fun _ => false) (by omega) (by omega) (rNet_15 (rNet_15 hR f3) g3) g2 (by rw [e0, if_pos rfl])
    (fun v hv hv2 => by
      rw [e0] at hv2
      by_cases c : v = s
      · exact ⟨by omega, Or.inl c⟩
      · rw [if_neg c] at hv2; omega)
    (fun v hv hsv => by cases hsv) (fun v u hv hu hsv => by cases hsv) (by decide)
  refine ⟨Z', d, ?_, m2, only15_tr f3 (only15_tr g3 m3), m4⟩
  unfold sX5_measure
  rw [gd_t hR.1, show (1000000 : Int32) = nI 1000000 from rfl, f1, bnd_s, show (0 : Int32) = nI 0 from rfl, g1, bnd_s]
  have : msk (fun _ => false) 8 = 0 := by decide
  rw [this] at m1
  exact m1
