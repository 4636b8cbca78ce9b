/-! routes: which distance, which set of trunks is of no account -/
theorem isD_congr {N : NN} {p q : Nat → Bool} {g : Nat} {d : Nat → Nat} (h : isD N p g d) (hp : ∀ i, i < N 1 → p i = q i) : isD N q g d := by
  have he : ∀ v w k, edge N q v w k → edge N p v w k := fun v w k ⟨i, i1, i2, i3, i4⟩ => ⟨i, i1, by rw [hp i i1]; exact i2, i3, i4⟩
  have he2 : ∀ v w k, edge N p v w k → edge N q v w k := fun v w k ⟨i, i1, i2, i3, i4⟩ => ⟨i, i1, by rw [← hp i i1]; exact i2, i3, i4⟩
  refine ⟨h.1, fun v w k hv e => h.2.1 v w k hv (he _ _ _ e), fun v hv hf => ?_⟩
  rcases h.2.2 v hv hf with c | ⟨w, k, e1, e2, e3⟩
  · exact Or.inl c
  · exact Or.inr ⟨w, k, he2 _ _ _ e1, e2, e3⟩
theorem fnd_congr {p q : Nat → Bool} {n : Nat} (h : ∀ i, i < n → p i = q i) : fnd p n = fnd q n := by
  induction n with
  | zero => rfl
  | succ n ih => unfold fnd; rw [ih fun i hi => h i (by omega), h n (by omega)]
theorem ft_congr {N : NN} {W v : Nat} {p q : Nat → Bool} {d d' : Nat → Nat} (hI : iN N W) (hp : ∀ i, i < N 1 → p i = q i) (hd : ∀ w, w < 8 → (d w < 1000000 ∨ d' w < 1000000) → d w = d' w) (hv : v < N 0) (hf : d v < 1000000) : ft N p d v = ft N q d' v := by
  have h8 := hI.1.1
  apply fnd_congr
  intro i hi
  have ho := oth_lt (v := v) hI hi
  have hv2 := hd v (by omega) (Or.inl hf)
  unfold tB
  rw [hp i hi]
  congr 1
  apply decide_eq_decide.2
  constructor
  · intro e
    have := hd (oth N i v) (by omega) (Or.inl (by omega))
    omega
  · intro e
    have := hd (oth N i v) (by omega) (Or.inr (by omega))
    omega
theorem rtV_s (N : NN) (p : Nat → Bool) (d : Nat → Nat) (v : Nat) : ∀ k, rtV N p d v (k + 1) = rtV N p d (oth N (ft N p d v) v) k := by
  intro k
  induction k with
  | zero => rfl
  | succ k ih =>
    show oth N (ft N p d (rtV N p d v (k + 1))) (rtV N p d v (k + 1)) = _
    rw [ih]; rfl
theorem rtT_s (N : NN) (p : Nat → Bool) (d : Nat → Nat) (v k : Nat) : rtT N p d v (k + 1) = rtT N p d (oth N (ft N p d v) v) k := by
  unfold rtT; rw [rtV_s]
theorem sumf_shift (f : Nat → Nat) : ∀ n, sumf f (n + 1) = f 0 + sumf (fun k => f (k + 1)) n := by
  intro n
  induction n with
  | zero => show 0 + f 0 = f 0 + 0; omega
  | succ n ih =>
    have e1 : sumf f (n + 1 + 1) = sumf f (n + 1) + f (n + 1) := rfl
    have e2 : sumf (fun k => f (k + 1)) (n + 1) = sumf (fun k => f (k + 1)) n + f (n + 1) := rfl
    rw [e1, e2, ih]; omega
theorem rt_all {N : NN} {W g : Nat} {p q : Nat → Bool} {d d' : Nat → Nat} (hI : iN N W) (hg : g < N 0) (h : isD N p g d) (hp : ∀ i, i < N 1 → p i = q i) (hd : ∀ w, w < 8 → (d w < 1000000 ∨ d' w < 1000000) → d w = d' w) :
    ∀ (r v : Nat), v < N 0 → d v < 1000000 → d v % 8 = r → (∀ k, k < r → rtT N p d v k = rtT N q d' v k ∧ rtT N p d v k < N 1 ∧ p (rtT N p d v k) = true) ∧ sumf (fun k => nT N (rtT N p d v k) 2) r = d v / 8 := by
  have h8 := hI.1.1
  intro r
  induction r with
  | zero =>
    intro v hv hf hr
    have hvg : v = g := (dec8 hI hg (isD_G h) _ v hv hf (Nat.le_refl _)).2.2 hr
    refine ⟨fun k hk => by omega, ?_⟩
    rw [hvg, h.1]
    rfl
  | succ r ih =>
    intro v hv hf hr
    have hne : v ≠ g := fun e => by
      rw [e, h.1] at hr; omega
    obtain ⟨f1, f2, -, -⟩ := ft_lt hI h (by omega) hf hne
    obtain ⟨s1, s2, s3, s4⟩ := rt_step hI hg h hv hf hne
    obtain ⟨i1, i2⟩ := ih _ s1 s2 (by omega)
    have ef := ft_congr hI hp hd hv hf
    refine ⟨fun k hk => ?_, ?_⟩
    · cases k with
      | zero => exact ⟨ef, f1, f2⟩
      | succ k =>
        rw [rtT_s, rtT_s, ← ef]
        exact i1 k (by omega)
    · rw [sumf_shift]
      have e : sumf (fun k => nT N (rtT N p d v (k + 1)) 2) r = sumf (fun k => nT N (rtT N p d (oth N (ft N p d v) v) k) 2) r := sumf_congr (fun k _ => by rw [rtT_s])
      have e0 : nT N (rtT N p d v 0) 2 = nT N (ft N p d v) 2 := rfl
      rw [e, i2, e0]; omega
/-- the class's search, over any distance and set that are known -/
theorem p_fr {N : NN} {Z : ZZ} {W t s g : Nat} {p q : Nat → Bool} {d : Nat → Nat} (hI : iN N W) (hR : rNet N Z t) (hs : s < N 0) (hg : g < N 0) (hd : isD N q g d) (hp : ∀ i, i < N 1 → q i = p i) :
    ∃ Z', sX5_findRoute t (nI (msk p 16)) (nI s) (nI g) Z = some (if d s < 1000000 then 1 else 0, Z') ∧ onlyR Z Z' ∧
    (d s < 1000000 → gI Z' 13 1 = nI (d s % 8) ∧ gI Z' 13 2 = nI (sumf (fun k => nT N (rtT N q d s k) 2) (d s % 8)) ∧ ∀ j, j < d s % 8 → gI Z' 14 j = nI (rtT N q d s j)) := by
  have h8 := hI.1.1
  obtain ⟨Z', d', a1, a2, a3, a4⟩ := p_findRoute (p := p) hI hR hs hg
  have hdp := isD_congr hd hp
  have heq : ∀ w, w < 8 → (d w < 1000000 ∨ d' w < 1000000) → d w = d' w := fun w hw => isDG_eq hI (fun l hl => by unfold K8; omega) (isD_G hdp) (isD_G a2) hw
  by_cases c : d s < 1000000
  · have e := heq s (by omega) (Or.inl c)
    obtain ⟨r1, r2⟩ := rt_all hI hg hd hp heq (d s % 8) s hs c rfl
    rw [← e] at a1 a4
    obtain ⟨b1, b2, b3, b4⟩ := a4 c
    refine ⟨Z', a1, a3, fun _ => ⟨b1, by rw [r2]; exact b2, fun j hj => ?_⟩⟩
    rw [b4 j hj, (r1 j hj).1]
  · refine ⟨Z', ?_, a3, fun q => absurd q c⟩
    rw [a1, if_neg c, if_neg (fun q => c (by rw [heq s (by omega) (Or.inr q)]; exact q))]
theorem rt_ok {N : NN} {W g s : Nat} {p : Nat → Bool} {d : Nat → Nat} (hI : iN N W) (hg : g < N 0) (hs : s < N 0) (h : isD N p g d) (hf : d s < 1000000) : d s % 8 ≤ 7 ∧ sumf (fun k => nT N (rtT N p d s k) 2) (d s % 8) = d s / 8 ∧ ∀ k, k < d s % 8 → rtT N p d s k < N 1 ∧ p (rtT N p d s k) = true := by
  obtain ⟨r1, r2⟩ := rt_all (q := p) (d' := d) hI hg h (fun _ _ => rfl) (fun _ _ _ => rfl) (d s % 8) s hs hf rfl
  exact ⟨by omega, r2, fun k hk => (r1 k hk).2⟩
theorem ex_isD {N : NN} {Z : ZZ} {W g : Nat} (hI : iN N W) (hR : rNet N Z 20) (hg : g < N 0) (p : Nat → Bool) : ∃ d, isD N p g d := by
  obtain ⟨-, d, -, -, -, h⟩ := p_measure (p := p) hI hR hg
  exact ⟨d, h⟩
/-! two who don't talk leave room for a call -/
theorem sumf_zero {f : Nat → Nat} {n : Nat} (h : ∀ i, i < n → f i = 0) : sumf f n = 0 := by
  induction n with
  | zero => rfl
  | succ n ih => unfold sumf; rw [ih fun i hi => h i (by omega), h n (by omega)]
theorem pig {f : Nat → Nat} {m n : Nat} (hf : ∀ i j, i < m → j < m → i ≠ j → f i ≠ f j) (hn : ∀ i, i < m → f i < n) : m ≤ n := by
  have h : ∀ k, k ≤ m → crd (fun q => decide (∃ j, j < k ∧ f j = q)) n = k := by
    intro k
    induction k with
    | zero =>
      intro _
      exact sumf_zero (fun v _ => if_neg (by simp))
    | succ k ih =>
      intro hk
      have e : (fun q => decide (∃ j, j < k + 1 ∧ f j = q)) = (fun q => decide (∃ j, j < k ∧ f j = q) || decide (q = f k)) := by
        funext q
        rw [← Bool.decide_or]
        apply decide_eq_decide.2
        constructor
        · rintro ⟨j, j1, j2⟩
          by_cases c : j = k
          · right; rw [← j2, c]
          · left; exact ⟨j, by omega, j2⟩
        · rintro (⟨j, j1, j2⟩ | c)
          · exact ⟨j, by omega, j2⟩
          · exact ⟨k, by omega, c.symm⟩
      rw [e, crd_add (hn k (by omega)) (decide_eq_false (fun ⟨j, j1, j2⟩ => hf j k (by omega) (by omega) (by omega) j2)), ih (by omega)]
  have := h m (Nat.le_refl _)
  have := crd_le (fun q => decide (∃ j, j < m ∧ f j = q)) n
  omega
theorem call_room {N : NN} {W a b : Nat} (hI : iN N W) (ha : a < N 2) (hb : b < N 2) (hab : a ≠ b) (ta : ∀ k, k < N 3 → nC N k 0 ≠ a ∧ nC N k 1 ≠ a) (tb : ∀ k, k < N 3 → nC N k 0 ≠ b ∧ nC N k 1 ≠ b) : N 3 < 5 := by
  obtain ⟨⟨h0, h1, h2, h3, h4⟩, hT, hTz, hU, hUz, hC, hD, hS, hB⟩ := hI
  have hx : ∀ i, i < 2 * N 3 → (i % 2 = 0 ∨ i % 2 = 1) ∧ i / 2 < N 3 := fun i hi => by omega
  have := pig (m := 2 * N 3 + 2) (n := N 2) (f := fun j => if j < 2 * N 3 then nC N (j / 2) (j % 2) else if j = 2 * N 3 then a else b) (fun i j hi hj hij => by
    have na : ∀ i, i < 2 * N 3 → nC N (i / 2) (i % 2) ≠ a := fun i hi => by
      obtain ⟨q | q, r⟩ := hx i hi
      · rw [q]; exact (ta _ r).1
      · rw [q]; exact (ta _ r).2
    have nb : ∀ i, i < 2 * N 3 → nC N (i / 2) (i % 2) ≠ b := fun i hi => by
      obtain ⟨q | q, r⟩ := hx i hi
      · rw [q]; exact (tb _ r).1
      · rw [q]; exact (tb _ r).2
    by_cases c1 : i < 2 * N 3
    · rw [if_pos c1]
      by_cases c2 : j < 2 * N 3
      · rw [if_pos c2]
        obtain ⟨q1, r1⟩ := hx i c1
        obtain ⟨q2, r2⟩ := hx j c2
        by_cases c : i / 2 = j / 2
        · rw [c]
          have := (hC _ r2).2.2.1
          rcases q1 with q1 | q1 <;> rcases q2 with q2 | q2
          · omega
          · rw [q1, q2]; exact this
          · rw [q1, q2]; exact this.symm
          · omega
        · obtain ⟨d1, d2, d3, -⟩ := hD _ _ r1 r2 c
          obtain ⟨e1, e2, e3, -⟩ := hD _ _ r2 r1 (fun q => c q.symm)
          rcases q1 with q1 | q1 <;> rcases q2 with q2 | q2
          · rw [q1, q2]; exact d1
          · rw [q1, q2]; exact d2
          · rw [q1, q2]; exact e2.symm
          · rw [q1, q2]; exact d3
      · rw [if_neg c2]
        split
        · exact na i c1
        · exact nb i c1
    · rw [if_neg c1]
      by_cases c2 : j < 2 * N 3
      · rw [if_pos c2]
        split
        · exact (na j c2).symm
        · exact (nb j c2).symm
      · rw [if_neg c2]
        by_cases c3 : i = 2 * N 3
        · rw [if_pos c3, if_neg (by omega)]; exact hab
        · rw [if_neg c3, if_pos (by omega)]; exact hab.symm) (fun i hi => by
    by_cases c1 : i < 2 * N 3
    · rw [if_pos c1]
      obtain ⟨q | q, r⟩ := hx i c1
      · rw [q]; exact (hC _ r).1
      · rw [q]; exact (hC _ r).2.1
    · rw [if_neg c1]; split <;> assumption)
  omega
/-! counting bits -/
theorem and_nn (a b : Nat) : nI a &&& nI b = nI (a &&& b) := by
  apply Int32.toBitVec_inj.mp
  simp [nI, BitVec.ofNat_and]
def fB (m : Nat) : Nat :=
  let y1 := m - (m / 2 &&& 1431655765)
  let y2 := (y1 &&& 858993459) + (y1 / 4 &&& 858993459)
  let y3 := (y2 + y2 / 16) &&& 252645135
  let y4 := y3 + y3 / 256
  let y5 := y4 + y4 / 65536
  y5 &&& 63
def tB4 (n : Nat) : Nat := n % 2 + n / 2 % 2 + n / 4 % 2 + n / 8 % 2
theorem fB_tab : ∀ a, a < 16 → ∀ b, b < 16 → ∀ c, c < 16 → ∀ d, d < 16 → fB (4096 * a + 256 * b + 16 * c + d) = tB4 d + tB4 c + tB4 b + tB4 a := by decide +kernel
def cB (m : Nat) : Nat := sumf (fun i => if m.testBit i then 1 else 0) 16
theorem cB_1 (m i : Nat) : (if m.testBit i then 1 else 0) = m / 2 ^ i % 2 := by
  rw [Nat.testBit_eq_decide_div_mod_eq]
  by_cases c : m / 2 ^ i % 2 = 1
  · simp [c]
  · have : m / 2 ^ i % 2 = 0 := by omega
    simp [this]
theorem tB4_m (x : Nat) : tB4 (x % 16) = x % 2 + x / 2 % 2 + x / 4 % 2 + x / 8 % 2 := by
  unfold tB4; omega
theorem fB_cB {m : Nat} (h : m < 65536) : fB m = cB m := by
  have e := fB_tab (m / 4096 % 16) (by omega) (m / 256 % 16) (by omega) (m / 16 % 16) (by omega) (m % 16) (by omega)
  rw [show 4096 * (m / 4096 % 16) + 256 * (m / 256 % 16) + 16 * (m / 16 % 16) + m % 16 = m by omega] at e
  rw [e, tB4_m, tB4_m, tB4_m, tB4_m]
  simp only [cB, cB_1, sumf, Nat.div_div_eq_div_mul, Nat.reducePow, Nat.reduceMul, Nat.div_one, Nat.zero_add, Nat.add_assoc]
theorem p_bc {m : Nat} {Z : ZZ} (h : m < 65536) : sJ_bitCount (nI m) Z = some (nI (cB m), Z) := by
  rw [← fB_cB h]
  have l1 : m / 2 &&& 1431655765 ≤ m / 2 := Nat.and_le_left
  have y1 : nI m - nI (m / 2 &&& 1431655765) = nI (m - (m / 2 &&& 1431655765)) := pk_sub (by omega)
  have u1 : iush (nI m) 1 = nI (m / 2) := pk_ushrN (by omega) 1 1 (by decide)
  generalize hy : m - (m / 2 &&& 1431655765) = a at y1
  have l2 : a &&& 858993459 ≤ a := Nat.and_le_left
  have l3 : a / 4 &&& 858993459 ≤ a / 4 := Nat.and_le_left
  have u2 : iush (nI a) 2 = nI (a / 4) := pk_ushrN (by omega) 2 2 (by decide)
  generalize hb : (a &&& 858993459) + (a / 4 &&& 858993459) = b
  have u3 : iush (nI b) 4 = nI (b / 16) := pk_ushrN (by omega) 4 4 (by decide)
  have l4 : (b + b / 16) &&& 252645135 ≤ b + b / 16 := Nat.and_le_left
  generalize hc : (b + b / 16) &&& 252645135 = c at l4
  have u4 : iush (nI c) 8 = nI (c / 256) := pk_ushrN (by omega) 8 8 (by decide)
  have u5 : iush (nI (c + c / 256)) 16 = nI ((c + c / 256) / 65536) := pk_ushrN (by omega) 16 16 (by decide)
  have e : fB m = (c + c / 256 + (c + c / 256) / 65536) &&& 63 := by
    unfold fB
    simp only [hy, hb, hc]
  rw [e]
  unfold sJ_bitCount
  rw [u1, show (1431655765 : Int32) = nI 1431655765 from rfl, and_nn, y1, nm_d, u2, show (858993459 : Int32) = nI 858993459 from rfl, and_nn, and_nn, nI_add, hb, nm_d, u3, nI_add, show (252645135 : Int32) = nI 252645135 from rfl, and_nn, hc, nm_d, u4, nI_add, nm_d, u5, nI_add, nm_d, show (63 : Int32) = nI 63 from rfl, and_nn]
theorem cB_msk (p : Nat → Bool) : cB (msk p 16) = sumf (fun i => if p i then 1 else 0) 16 := by
  unfold cB
  apply sumf_congr
  intro i hi
  rw [msk_bit, decide_eq_true hi, Bool.true_and]
theorem sumf_ext {f : Nat → Nat} {n : Nat} : ∀ m, n ≤ m → (∀ i, n ≤ i → i < m → f i = 0) → sumf f m = sumf f n := by
  intro m
  induction m with
  | zero => intro h _; rw [show n = 0 by omega]
  | succ m ih =>
    intro h hz
    by_cases c : n = m + 1
    · rw [c]
    · show sumf f m + f m = _
      rw [ih (by omega) (fun i h1 h2 => hz i h1 (by omega)), hz m (by omega) (by omega)]; rfl
