/-! distances for any weight of a trunk, ky (length) -/
def edgeG (ky : Nat → Nat) (N : NN) (p : Nat → Bool) (v w k : Nat) : Prop := ∃ i, i < N 1 ∧ p i = true ∧ k = ky (nT N i 2) ∧ ends N i v w
def isDG (ky : Nat → Nat) (N : NN) (p : Nat → Bool) (s : Nat) (d : Nat → Nat) : Prop :=
  d s = 0 ∧ (∀ v w k, d v < 1000000 → edgeG ky N p v w k → d w ≤ d v + k) ∧ (∀ v, v < 8 → d v < 1000000 → v = s ∨ ∃ w k, edgeG ky N p w v k ∧ d w < 1000000 ∧ d v = d w + k)
def K8 (l : Nat) : Nat := l * 8 + 1
theorem isD_G {N : NN} {p : Nat → Bool} {s : Nat} {d : Nat → Nat} (h : isD N p s d) : isDG K8 N p s d := h
theorem edgeG_lt {ky : Nat → Nat} {N : NN} {W : Nat} {p : Nat → Bool} {v w k : Nat} (hI : iN N W) (h : edgeG ky N p v w k) : v < N 0 ∧ w < N 0 ∧ v ≠ w ∧ ∃ l, 1 ≤ l ∧ l ≤ 20 ∧ k = ky l := by
  obtain ⟨i, a, b, c, d⟩ := h
  obtain ⟨q0, q1, q2, q3, q4, -⟩ := hI.2.1 i a
  rcases d with ⟨e, f⟩ | ⟨e, f⟩ <;> exact ⟨by omega, by omega, by omega, nT N i 2, q3, q4, c⟩
theorem edgeG_sym {ky : Nat → Nat} {N : NN} {p : Nat → Bool} {v w k : Nat} (h : edgeG ky N p v w k) : edgeG ky N p w v k := by
  obtain ⟨i, a, b, c, d⟩ := h
  exact ⟨i, a, b, c, ends_sym d⟩
theorem isDG_le {ky : Nat → Nat} {N : NN} {W : Nat} {p : Nat → Bool} {s : Nat} {d d' : Nat → Nat} (hI : iN N W) (hk : ∀ l, 1 ≤ l → 1 ≤ ky l) (h : isDG ky N p s d) (h' : isDG ky N p s d') : ∀ (n v : Nat), d v ≤ n → v < 8 → d v < 1000000 → d' v ≤ d v := by
  intro n
  induction n with
  | zero =>
    intro v hn hv hf
    rcases h.2.2 v hv hf with rfl | ⟨w, k, e1, e2, e3⟩
    · rw [h'.1]; omega
    · obtain ⟨-, -, -, l, l1, -, l3⟩ := edgeG_lt hI e1
      have := hk l l1
      omega
  | succ n ih =>
    intro v hn hv hf
    rcases h.2.2 v hv hf with rfl | ⟨w, k, e1, e2, e3⟩
    · rw [h'.1]; omega
    · obtain ⟨w1, -, -, l, l1, -, l3⟩ := edgeG_lt hI e1
      have := hk l l1
      have h8 := hI.1.1
      have h9 := ih w (by omega) (by omega) e2
      have := h'.2.1 w v k (by omega) e1
      omega
theorem isDG_eq {ky : Nat → Nat} {N : NN} {W : Nat} {p : Nat → Bool} {s : Nat} {d d' : Nat → Nat} (hI : iN N W) (hk : ∀ l, 1 ≤ l → 1 ≤ ky l) (h : isDG ky N p s d) (h' : isDG ky N p s d') {v : Nat} (hv : v < 8) : (d v < 1000000 ∨ d' v < 1000000) → d v = d' v := by
  intro hc
  have a := isDG_le hI hk h h' (d v) v (Nat.le_refl _) hv
  have b := isDG_le hI hk h' h (d' v) v (Nat.le_refl _) hv
  rcases hc with c | c
  · have := a c
    have := b (by omega)
    omega
  · have := b c
    have := a (by omega)
    omega
/-- how many switches are nearer -/
def rnk (N : NN) (d : Nat → Nat) (v : Nat) : Nat := crd (fun w => decide (d w < d v)) (N 0)
theorem crd_mono {f g : Nat → Bool} {n : Nat} (h : ∀ v, v < n → f v = true → g v = true) : crd f n ≤ crd g n := by
  induction n with
  | zero => exact Nat.le_refl _
  | succ n ih =>
    have h1 : ∀ f : Nat → Bool, crd f (n + 1) = crd f n + (if f n then 1 else 0) := fun _ => rfl
    rw [h1, h1]
    have := ih fun v hv => h v (by omega)
    cases c : f n with
    | true => rw [h n (by omega) c]; simp; omega
    | false => simp; omega
theorem crd_mono_lt {f g : Nat → Bool} {n x : Nat} (h : ∀ v, v < n → f v = true → g v = true) (hx : x < n) (hf : f x = false) (hg : g x = true) : crd f n < crd g n := by
  have h1 : crd (fun q => f q || decide (q = x)) n = crd f n + 1 := crd_add hx hf
  have h2 : crd (fun q => f q || decide (q = x)) n ≤ crd g n := crd_mono fun v hv hfv => by
    simp only [Bool.or_eq_true, decide_eq_true_eq] at hfv
    rcases hfv with q | q
    · exact h v hv q
    · rw [q]; exact hg
  omega
theorem rnk_lt {N : NN} {d : Nat → Nat} {v w : Nat} (hw : w < N 0) (h : d w < d v) : rnk N d w < rnk N d v :=
  crd_mono_lt (fun u _ hu => by simp only [decide_eq_true_eq] at hu ⊢; omega) hw (by simp) (by simpa using h)
theorem rnk_le {N : NN} {d : Nat → Nat} {v : Nat} (hv : v < N 0) : rnk N d v < N 0 := by
  have h1 := crd_mono_lt (f := fun w => decide (d w < d v)) (g := fun _ => true) (n := N 0) (x := v) (fun _ _ _ => rfl) hv (by simp) rfl
  have h2 := crd_le (fun _ => true) (N 0)
  unfold rnk
  omega
/-- passes of relaxation come to the distance: after k of them what has k nearer switches at most is right -/
theorem relax {ky : Nat → Nat} {N : NN} {W : Nat} {p : Nat → Bool} {s : Nat} {D : Nat → Nat} {f : Nat → Nat → Nat} {m : Nat} (hI : iN N W) (hk : ∀ l, 1 ≤ l → 1 ≤ ky l) (h : isDG ky N p s D) (hs : f 0 s = 0)
    (hmon : ∀ k v, k < m → v < 8 → f (k + 1) v ≤ f k v) (hstep : ∀ k v w q, k < m → edgeG ky N p v w q → f (k + 1) w ≤ f k v + q) : ∀ k v, k ≤ m → v < 8 → D v < 1000000 → rnk N D v ≤ k → f k v ≤ D v := by
  intro k
  have h8 := hI.1.1
  have hs0 : ∀ k, s < 8 → k ≤ m → f k s = 0 := by
    intro k hs8
    induction k with
    | zero => intro _; exact hs
    | succ k ih => intro hk2; have := hmon k s (by omega) hs8; have := ih (by omega); omega
  induction k with
  | zero =>
    intro v hkm hv hf hr
    rcases h.2.2 v hv hf with rfl | ⟨w, k, e1, e2, e3⟩
    · rw [hs]; omega
    · obtain ⟨w1, -, -, l, l1, -, l3⟩ := edgeG_lt hI e1
      have := hk l l1
      have := rnk_lt (N := N) (d := D) w1 (show D w < D v by omega)
      omega
  | succ k ih =>
    intro v hkm hv hf hr
    rcases h.2.2 v hv hf with rfl | ⟨w, q, e1, e2, e3⟩
    · rw [hs0 _ hv hkm]; omega
    · obtain ⟨w1, -, -, l, l1, -, l3⟩ := edgeG_lt hI e1
      have := hk l l1
      have h1 := rnk_lt (N := N) (d := D) w1 (show D w < D v by omega)
      have h2 := ih w (by omega) (by omega) e2 (by omega)
      have := hstep k w v q (by omega) e1
      omega
/-- the distance by length and number of trunks, taken apart -/
theorem dec8 {N : NN} {W : Nat} {p : Nat → Bool} {s : Nat} {d : Nat → Nat} (hI : iN N W) (hs0 : s < N 0) (h : isDG K8 N p s d) : ∀ (r v : Nat), v < N 0 → d v < 1000000 → rnk N d v ≤ r → d v % 8 ≤ rnk N d v ∧ d v ≤ 161 * rnk N d v ∧ (d v % 8 = 0 → v = s) := by
  have h8 := hI.1.1
  intro r
  induction r with
  | zero =>
    intro v hv hf hr
    rcases h.2.2 v (by omega) hf with rfl | ⟨w, k, e1, e2, e3⟩
    · rw [h.1]; exact ⟨by omega, by omega, fun _ => rfl⟩
    · obtain ⟨w1, -, -, l, l1, l2, l3⟩ := edgeG_lt hI e1
      unfold K8 at l3
      have := rnk_lt (N := N) (d := d) w1 (show d w < d v by omega)
      omega
  | succ r ih =>
    intro v hv hf hr
    rcases h.2.2 v (by omega) hf with rfl | ⟨w, k, e1, e2, e3⟩
    · rw [h.1]; exact ⟨by omega, by omega, fun _ => rfl⟩
    · obtain ⟨w1, -, -, l, l1, l2, l3⟩ := edgeG_lt hI e1
      unfold K8 at l3
      have h1 := rnk_lt (N := N) (d := d) w1 (show d w < d v by omega)
      have h2 := rnk_le (N := N) (d := d) hv
      obtain ⟨a, b, c⟩ := ih w w1 e2 (by omega)
      exact ⟨by omega, by omega, by omega⟩
/-- along a tight trunk the length and the number of trunks add up -/
theorem dec8_t {N : NN} {W : Nat} {p : Nat → Bool} {s v w l : Nat} {d : Nat → Nat} (hI : iN N W) (hs0 : s < N 0) (h : isDG K8 N p s d) (hv : v < N 0) (hw : w < N 0) (hf : d w < 1000000) (e : d v = d w + K8 l) (hv2 : d v < 1000000) : d v / 8 = d w / 8 + l ∧ d v % 8 = d w % 8 + 1 := by
  have h8 := hI.1.1
  unfold K8 at e
  have h1 := rnk_lt (N := N) (d := d) hw (show d w < d v by omega)
  have h2 := rnk_le (N := N) (d := d) hv
  obtain ⟨a, -, -⟩ := dec8 hI hs0 h _ w hw hf (Nat.le_refl _)
  omega
theorem dec8_f {N : NN} {W : Nat} {p : Nat → Bool} {s v w l : Nat} {d : Nat → Nat} (hI : iN N W) (hs0 : s < N 0) (h : isDG K8 N p s d) (hf : d v < 1000000) (e : edgeG K8 N p v w (K8 l)) : d w < 1000000 ∧ (d w / 8 < d v / 8 + l ∨ (d w / 8 = d v / 8 + l ∧ d w % 8 ≤ d v % 8 + 1)) := by
  have h8 := hI.1.1
  obtain ⟨v1, w1, -, l2, q1, q2, q3⟩ := edgeG_lt hI e
  have hl : l = l2 := by unfold K8 at q3; omega
  have h1 := h.2.1 v w _ hf e
  unfold K8 at h1
  have h2 := rnk_le (N := N) (d := d) v1
  obtain ⟨a, b, -⟩ := dec8 hI hs0 h _ v v1 hf (Nat.le_refl _)
  have hw : d w < 1000000 := by omega
  obtain ⟨a2, b2, c2⟩ := dec8 hI hs0 h _ w w1 hw (Nat.le_refl _)
  refine ⟨hw, ?_⟩
  by_cases c : d w % 8 = 0
  · have := c2 c
    subst this
    rw [h.1]; omega
  · omega
/-- any weight that weighs the length first and then the number of trunks has the same nearest routes -/
theorem dec8_K {N : NN} {W : Nat} {p : Nat → Bool} {s B c : Nat} {d : Nat → Nat} (hI : iN N W) (hs0 : s < N 0) (hB : c = 0 ∧ B = 1 ∨ c = 1 ∧ 8 ≤ B ∧ B ≤ 6000) (h : isDG K8 N p s d) : isDG (fun l => B * l + c) N p s (fun v => if d v < 1000000 then B * (d v / 8) + c * (d v % 8) else 1000000) := by
  have h8 := hI.1.1
  have hsm : ∀ v, v < N 0 → d v < 1000000 → d v ≤ 1127 := by
    intro v hv hf
    have h2 := rnk_le (N := N) (d := d) hv
    obtain ⟨a, b, -⟩ := dec8 hI hs0 h _ v hv hf (Nat.le_refl _)
    omega
  have hlt : ∀ v, v < N 0 → d v < 1000000 → B * (d v / 8) + c * (d v % 8) < 1000000 := by
    intro v hv hf
    have := hsm v hv hf
    have e1 : d v / 8 ≤ 140 := by omega
    have e2 : B * (d v / 8) ≤ 6000 * 140 := Nat.mul_le_mul (by omega) e1
    have e3 : c * (d v % 8) ≤ 1 * 7 := Nat.mul_le_mul (by omega) (by omega)
    omega
  refine ⟨?_, fun v w k hf e => ?_, fun v hv hf => ?_⟩
  · show (if d s < 1000000 then _ else _) = 0
    rw [h.1, if_pos (by omega)]; simp
  · obtain ⟨i, i1, i2, i3, i4⟩ := e
    have e8 : edgeG K8 N p v w (K8 (nT N i 2)) := ⟨i, i1, i2, rfl, i4⟩
    obtain ⟨v1, w1, -⟩ := edgeG_lt hI e8
    have hv : d v < 1000000 := by
      rcases Nat.lt_or_ge (d v) 1000000 with q | q
      · exact q
      · have hf' : (if d v < 1000000 then B * (d v / 8) + c * (d v % 8) else 1000000) < 1000000 := hf
        rw [if_neg (by omega)] at hf'; omega
    obtain ⟨f1, f2⟩ := dec8_f hI hs0 h hv e8
    show (if d w < 1000000 then B * (d w / 8) + c * (d w % 8) else 1000000) ≤ (if d v < 1000000 then B * (d v / 8) + c * (d v % 8) else 1000000) + k
    rw [if_pos f1, if_pos hv, i3]
    show B * (d w / 8) + c * (d w % 8) ≤ B * (d v / 8) + c * (d v % 8) + (B * nT N i 2 + c)
    have hm : d w % 8 ≤ 7 := by omega
    rcases f2 with g | ⟨g1, g2⟩
    · have e1 : B * (d w / 8 + 1) ≤ B * (d v / 8 + nT N i 2) := Nat.mul_le_mul_left _ g
      rw [Nat.mul_add, Nat.mul_add] at e1
      rcases hB with ⟨rfl, rfl⟩ | ⟨rfl, hb, -⟩ <;> omega
    · rw [g1, Nat.mul_add]
      have e3 : c * (d w % 8) ≤ c * (d v % 8 + 1) := Nat.mul_le_mul_left _ g2
      rw [Nat.mul_add] at e3
      omega
  · have hv2 : d v < 1000000 := by
      rcases Nat.lt_or_ge (d v) 1000000 with q | q
      · exact q
      · have hf' : (if d v < 1000000 then B * (d v / 8) + c * (d v % 8) else 1000000) < 1000000 := hf
        rw [if_neg (by omega)] at hf'; omega
    rcases h.2.2 v hv hv2 with rfl | ⟨w, k, e1, e2, e3⟩
    · exact Or.inl rfl
    · right
      obtain ⟨i, i1, i2, i3, i4⟩ := e1
      obtain ⟨w1, v1, -⟩ := edgeG_lt hI (⟨i, i1, i2, i3, i4⟩ : edgeG K8 N p w v k)
      obtain ⟨t1, t2⟩ := dec8_t (l := nT N i 2) hI hs0 h v1 w1 e2 (by rw [e3, i3]) hv2
      refine ⟨w, B * nT N i 2 + c, ⟨i, i1, i2, rfl, i4⟩, ?_, ?_⟩
      · show (if d w < 1000000 then B * (d w / 8) + c * (d w % 8) else 1000000) < 1000000
        rw [if_pos e2]; exact hlt w w1 e2
      · show (if d v < 1000000 then B * (d v / 8) + c * (d v % 8) else 1000000) = (if d w < 1000000 then B * (d w / 8) + c * (d w % 8) else 1000000) + (B * nT N i 2 + c)
        rw [if_pos hv2, if_pos e2, t1, t2, Nat.mul_add, Nat.mul_add]
        omega
