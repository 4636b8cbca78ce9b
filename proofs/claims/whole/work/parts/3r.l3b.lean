/-! the flag of a trunk; minutes that pass -/
def uN (N : NN) : Prop := ∀ i, i < N 3 → ∀ j, j < nC N i 3 → nT N (nC N i (4 + j)) 3 = 0
theorem iN_mono {N : NN} {W W' : Nat} (hI : iN N W) (h : W ≤ W') : iN N W' := by
  obtain ⟨⟨h0, h1, h2, h3, h4⟩, hT, hTz, hU, hUz, hC, hD, hS, hB⟩ := hI
  refine ⟨⟨h0, h1, h2, h3, by omega⟩, fun i hi => ?_, hTz, hU, hUz, fun i hi => ?_, hD, hS, by omega⟩
  · obtain ⟨a, b, c, d, e, f, g⟩ := hT i hi
    exact ⟨a, b, c, d, e, f, by omega⟩
  · obtain ⟨a, b, c, d, e, f⟩ := hC i hi
    exact ⟨a, b, c, by omega, e, f⟩
theorem iN_flag {N : NN} {W x v : Nat} (hI : iN N W) (hx : x < N 1) (hv : v ≤ 1) : iN (sT N x 3 v) W := by
  obtain ⟨⟨h0, h1, h2, h3, h4⟩, hT, hTz, hU, hUz, hC, hD, hS, hB⟩ := hI
  have f3 : ∀ i, nT (sT N x 3 v) i 3 = if i = x then v else nT N i 3 := fun i => by simp [nT_sT]
  have fn : ∀ i o, o < 5 → o ≠ 3 → nT (sT N x 3 v) i o = nT N i o := fun i o ho h3 => by simp [nT_sT, ho, h3]
  have eU : ∀ i o, nU (sT N x 3 v) i o = nU N i o := fun i o => nU_sT (by omega) (by decide)
  have eC : ∀ i o, nC (sT N x 3 v) i o = nC N i o := fun i o => nC_sT (by omega) (by decide)
  have eO := onC_eq eC
  have ek : ∀ k, k < 8 → sT N x 3 v k = N k := fun k hk => sT_0 hk
  have e0 := ek 0 (by decide)
  have e1 := ek 1 (by decide)
  have e2 := ek 2 (by decide)
  have e3 := ek 3 (by decide)
  have e4 := ek 4 (by decide)
  have e5 := ek 5 (by decide)
  have g0 : ∀ i, nT (sT N x 3 v) i 0 = nT N i 0 := fun i => fn i 0 (by decide) (by decide)
  have g1 : ∀ i, nT (sT N x 3 v) i 1 = nT N i 1 := fun i => fn i 1 (by decide) (by decide)
  have g2 : ∀ i, nT (sT N x 3 v) i 2 = nT N i 2 := fun i => fn i 2 (by decide) (by decide)
  have g4 : ∀ i, nT (sT N x 3 v) i 4 = nT N i 4 := fun i => fn i 4 (by decide) (by decide)
  have hle : ∀ i, i < N 1 → (if i = x then v else nT N i 3) ≤ 1 := fun i hi => by
    split
    · exact hv
    · exact (hT i hi).2.2.2.2.2.1
  unfold iN
  simp only [g0, g1, g2, f3, g4, eU, eC, eO, e0, e1, e2, e3, e4, e5]
  refine ⟨⟨h0, h1, h2, h3, h4⟩, fun i hi => ?_, fun i i1 i2 o ho => ?_, hU, hUz, fun i hi => ?_, hD, hS, hB⟩
  · obtain ⟨a, b, c, d, e, f, g⟩ := hT i hi
    exact ⟨a, b, c, d, e, hle i hi, g⟩
  · have hz := hTz i i1 i2 o ho
    by_cases c : o = 3
    · subst c; rw [f3, if_neg (by omega)]; exact hz
    · rw [fn i o ho c]; exact hz
  · obtain ⟨a, b, c, d, e, f⟩ := hC i hi
    exact ⟨a, b, c, d, e, fun j hj => ⟨(f j hj).1, hle _ (f j hj).1⟩⟩
theorem rB_flag {N : NN} {Z : ZZ} {W x v : Nat} (hB : rB N Z 19) (hI : iN N W) (hx : x < N 1) : rB (sT N x 3 v) (pI Z 20 6 (nI (msk (fun i => decide (nT (sT N x 3 v) i 3 = 1)) 16))) 19 := by
  obtain ⟨⟨a0, a1, a2, a3, a4, a5⟩, am, aT, aU, aC⟩ := rB19.1 hB
  have h1 := hI.1.2.1
  have fn : ∀ i o, o < 5 → o ≠ 3 → nT (sT N x 3 v) i o = nT N i o := fun i o ho h3 => by simp [nT_sT, ho, h3]
  have eU : ∀ i o, nU (sT N x 3 v) i o = nU N i o := fun i o => nU_sT (by omega) (by decide)
  have eC : ∀ i o, nC (sT N x 3 v) i o = nC N i o := fun i o => nC_sT (by omega) (by decide)
  have ek : ∀ k, k < 8 → sT N x 3 v k = N k := fun k hk => sT_0 hk
  refine rB19.2 ⟨⟨?_, ?_, ?_, ?_, ?_, ?_⟩, ?_, fun i hi => ?_, fun i hi => ?_, rBc_of aC hI (fun k j h1 _ => gI_pI_k _ _ _ _ (by omega)) (ek 3 (by decide)) (fun i o _ _ => eC i o) (fun x _ => fn x 2 (by decide) (by decide))⟩
  · rw [gI_pI_j _ _ _ _ (by decide), ek 0 (by decide)]; exact a0
  · rw [gI_pI_j _ _ _ _ (by decide), ek 1 (by decide)]; exact a1
  · rw [gI_pI_k _ _ _ _ (by decide), ek 2 (by decide)]; exact a2
  · rw [gI_pI_k _ _ _ _ (by decide), ek 3 (by decide)]; exact a3
  · rw [gI_pI_k _ _ _ _ (by decide), ek 4 (by decide)]; exact a4
  · rw [ek 5 (by decide)]; exact a5
  · rw [gI_pI_s]
  · rw [gI_pI_k _ _ _ _ (by decide), gI_pI_k _ _ _ _ (by decide), gI_pI_k _ _ _ _ (by decide), gI_pI_k _ _ _ _ (by decide), fn i 0 (by decide) (by decide), fn i 1 (by decide) (by decide), fn i 2 (by decide) (by decide), fn i 4 (by decide) (by decide)]
    exact aT i hi
  · rw [gI_pI_k _ _ _ _ (by decide), gI_pI_k _ _ _ _ (by decide), gI_pI_k _ _ _ _ (by decide)]
    simp only [eU]
    exact aU i hi
theorem tb_pow (i j : Nat) : (2 ^ i).testBit j = decide (i = j) := Nat.testBit_two_pow
theorem c_mend {N : NN} {Z : ZZ} {W x : Nat} (hB : rB N Z 19) (hI : iN N W) (hx : x < N 1) : ∃ Z', sX3_repairTrunk (19 + 1) (nI x) Z = some (nI (sumf (fun k => nT (sT N x 3 0) k 3) (N 1)), Z') ∧ rB (sT N x 3 0) Z' 19 ∧ onlyP Z Z' := by
  have am := (rB19.1 hB).2.1
  have h1 := hI.1.2.1
  have h2 : 2 ^ x < 2 ^ 16 := Nat.pow_lt_pow_right (by decide) (by omega)
  have f3 : ∀ i, nT (sT N x 3 0) i 3 = if i = x then 0 else nT N i 3 := fun i => by simp [nT_sT]
  have e : msk (fun i => (msk (fun i => decide (nT N i 3 = 1)) 16).testBit i && !(2 ^ x).testBit i) 16 = msk (fun i => decide (nT (sT N x 3 0) i 3 = 1)) 16 := by
    apply msk_congr
    intro i hi
    rw [msk_bit, tb_pow, f3, decide_eq_true hi, Bool.true_and]
    by_cases c : i = x
    · rw [if_pos c, decide_eq_true c.symm]; simp
    · rw [if_neg c, show decide (x = i) = false from decide_eq_false (fun q => c q.symm)]; simp
  have hcount : cB (msk (fun i => decide (nT (sT N x 3 0) i 3 = 1)) 16) = sumf (fun k => nT (sT N x 3 0) k 3) (N 1) := by
    rw [cB_msk, sumf_ext (n := N 1) 16 h1 (fun i i1 i2 => by
      rw [f3, if_neg (show ¬ i = x by omega), hI.2.2.1 i i1 i2 3 (by decide)]; rfl)]
    apply sumf_congr
    intro i hi
    have := (hI.2.1 i hi).2.2.2.2.2.1
    rw [f3]
    by_cases c : i = x
    · rw [if_pos c]; rfl
    · rw [if_neg c]
      by_cases c2 : nT N i 3 = 1
      · rw [decide_eq_true c2, c2]; rfl
      · rw [decide_eq_false c2]
        have : nT N i 3 = 0 := by omega
        rw [this]; rfl
  refine ⟨_, ?_, rB_flag hB hI hx, onlyP_pI (onlyP_rf Z) (by decide)⟩
  show sX3_repairTrunk 20 (nI x) Z = _
  unfold sX3_repairTrunk
  rw [gd_t (by decide), p_bit (by omega), bnd_s, am, andn_nn (msk_lt _ 16) h2, e, nm_d, gI_pI_s, p_bc (msk_lt _ 16), bnd_s, hcount]
theorem m_mend_L {N : NN} {Z : ZZ} {y : Int32} (hA : rA N Z 1) (h16 : N 1 ≤ 16) : ∀ (e k n : Nat), k + e = N 1 → e < n → sX8_mends_L11 y n (nI (sumf (fun k => nT N k 3) k)) (nI k) Z = some (nI (sumf (fun k => nT N k 3) (N 1)), Z) := by
  intro e
  induction e with
  | zero =>
    intro k n hk hn
    obtain ⟨n, rfl⟩ : ∃ q, n = q + 1 := ⟨n - 1, by omega⟩
    rw [sX8_mends_L11, gd_t (by decide), g1 hA, if_pos (nI_le (by omega) (by omega)), show k = N 1 by omega]
  | succ e ih =>
    intro k n hk hn
    obtain ⟨n, rfl⟩ : ∃ q, n = q + 1 := ⟨n - 1, by omega⟩
    rw [sX8_mends_L11, gd_t (by decide), g1 hA, if_neg (nI_ge (by omega) (by omega)), p_t3 hA (by omega), bnd_s, nm_d, nI_add, nm_d, ad_n1]
    exact ih (k + 1) n (by omega) (by omega)
theorem m_mend {N : NN} {Z : ZZ} {W x : Nat} (hA : rA N Z 1) (hI : iN N W) (hx : x < N 1) : ∃ Z', sX8_mends (nI x) Z = some (nI (sumf (fun k => nT (sT N x 3 0) k 3) (N 1)), Z') ∧ rA (sT N x 3 0) Z' 1 ∧ only1 Z Z' := by
  have h1 := hI.1.2.1
  obtain ⟨Z1, c1, r1, o1⟩ := m_setT (v := 0) (x := 3) (o := 3) (i := x) hA (by omega) rfl
  have e1 : sT N x 3 0 1 = N 1 := sT_0 (by decide)
  have := m_mend_L (y := nI x) r1 (by omega) (N 1) 0 3000 (by omega) (by omega)
  rw [e1] at this
  refine ⟨Z1, ?_, r1, o1⟩
  unfold sX8_mends
  rw [show sX8_setTrunk (nI x) 3 0 Z = some Z1 from c1, bnd_s]
  exact this
/-! minutes pass -/
def pIn (N : NN) (m i : Nat) : Nat → NN
  | 0 => sC N i 2 (nC N i 2 + m)
  | j + 1 => sT (pIn N m i j) (nC N i (4 + j)) 4 (nT (pIn N m i j) (nC N i (4 + j)) 4 + m)
def pOut (N : NN) (m : Nat) : Nat → NN
  | 0 => N
  | i + 1 => pIn (pOut N m i) m i (nC N i 3)
/-- calls' routes lie within -/
def wN (N : NN) : Prop := N 1 ≤ 16 ∧ N 3 ≤ 5 ∧ ∀ k, k < N 3 → nC N k 3 ≤ 7 ∧ ∀ j, j < nC N k 3 → nC N k (4 + j) < N 1
theorem wN_of {N : NN} {W : Nat} (hI : iN N W) : wN N := ⟨hI.1.2.1, hI.1.2.2.2.1, fun k hk => by
  obtain ⟨-, -, -, -, a, b⟩ := hI.2.2.2.2.2.1 k hk
  exact ⟨a, fun j hj => (b j hj).1⟩⟩
/-- alike but for minutes and carried ones -/
def pK (N M : NN) : Prop := (∀ k, k < 8 → M k = N k) ∧ (∀ x o, x < 16 → o < 5 → o ≠ 4 → nT M x o = nT N x o) ∧ (∀ j o, j < 10 → o < 3 → nU M j o = nU N j o) ∧ (∀ k o, o < 12 → o ≠ 2 → nC M k o = nC N k o)
theorem pK_rf (N : NN) : pK N N := ⟨fun _ _ => rfl, fun _ _ _ _ _ => rfl, fun _ _ _ _ => rfl, fun _ _ _ _ => rfl⟩
theorem pK_tr {A B C : NN} (h1 : pK A B) (h2 : pK B C) : pK A C := ⟨fun k h => (h2.1 k h).trans (h1.1 k h), fun x o a b c => (h2.2.1 x o a b c).trans (h1.2.1 x o a b c), fun j o a b => (h2.2.2.1 j o a b).trans (h1.2.2.1 j o a b), fun k o a b => (h2.2.2.2 k o a b).trans (h1.2.2.2 k o a b)⟩
theorem pK_w {N M : NN} (h : pK N M) (hw : wN N) : wN M := by
  obtain ⟨a, b, c⟩ := hw
  have e1 := h.1 1 (by decide)
  have e3 := h.1 3 (by decide)
  refine ⟨by omega, by omega, fun k hk => ?_⟩
  obtain ⟨q1, q2⟩ := c k (by omega)
  rw [h.2.2.2 k 3 (by decide) (by decide)]
  exact ⟨q1, fun j hj => by rw [h.2.2.2 k _ (by omega) (by omega), e1]; exact q2 j hj⟩
theorem pIn_facts {N : NN} {m i : Nat} (hw : wN N) (hm : m ≤ 60) (hi : i < N 3) : ∀ j, j ≤ nC N i 3 → pK N (pIn N m i j) ∧ (∀ k, nC (pIn N m i j) k 2 = if k = i then nC N i 2 + m else nC N k 2) ∧ (∀ x, x < 16 → nT (pIn N m i j) x 4 ≤ nT N x 4 + 60 * j) ∧ (∀ x, x < 16 → N 1 ≤ x → nT (pIn N m i j) x 4 = nT N x 4) := by
  obtain ⟨w1, w3, wC⟩ := hw
  obtain ⟨c7, cr⟩ := wC i hi
  intro j
  induction j with
  | zero =>
    intro _
    refine ⟨⟨fun k hk => sC_0 hk, fun x o hx ho _ => nT_sC hx ho, fun j o hj ho => nU_sC hj ho, fun k o ho h2 => ?_⟩, fun k => ?_, fun x hx => ?_, fun x hx _ => nT_sC hx (by decide)⟩
    · show nC (sC N i 2 (nC N i 2 + m)) k o = _
      rw [nC_sC (by decide) ho, if_neg (fun q => h2 q.2)]
    · show nC (sC N i 2 (nC N i 2 + m)) k 2 = _
      rw [nC_sC (by decide) (by decide)]
      by_cases c : k = i
      · rw [if_pos ⟨c, rfl⟩, if_pos c]
      · rw [if_neg (fun q => c q.1), if_neg c]
    · have : nT (pIn N m i 0) x 4 = nT N x 4 := nT_sC hx (by decide)
      omega
  | succ j ih =>
    intro hj
    obtain ⟨⟨k1, k2, k3, k4⟩, i2, i3, i4⟩ := ih (by omega)
    have hx0 := cr j (by omega)
    refine ⟨⟨fun k hk => ?_, fun x o hx ho h4 => ?_, fun q o hq ho => ?_, fun k o ho h2 => ?_⟩, fun k => ?_, fun x hx => ?_, fun x hx hx2 => ?_⟩
    · exact (sT_0 hk).trans (k1 k hk)
    · exact (by rw [pIn, nT_sT (by decide) ho, if_neg (fun q => h4 q.2)] : nT (pIn N m i (j + 1)) x o = nT (pIn N m i j) x o).trans (k2 x o hx ho h4)
    · exact (nU_sT (by omega) (by decide)).trans (k3 q o hq ho)
    · exact (nC_sT (by omega) (by decide)).trans (k4 k o ho h2)
    · exact (nC_sT (by omega) (by decide)).trans (i2 k)
    · rw [pIn, nT_sT (by decide) (by decide)]
      have := i3 x hx
      split
      · rename_i c; rw [← c.1]; omega
      · omega
    · rw [pIn, nT_sT (by decide) (by decide), if_neg (by omega)]
      exact i4 x hx hx2
theorem pOut_facts {N : NN} {m : Nat} (hw : wN N) (hm : m ≤ 60) : ∀ i, i ≤ N 3 → pK N (pOut N m i) ∧ (∀ k, nC (pOut N m i) k 2 = if k < i then nC N k 2 + m else nC N k 2) ∧ (∀ x, x < 16 → nT (pOut N m i) x 4 ≤ nT N x 4 + 420 * i) ∧ (∀ x, x < 16 → N 1 ≤ x → nT (pOut N m i) x 4 = nT N x 4) := by
  intro i
  induction i with
  | zero => intro _; exact ⟨pK_rf N, fun k => by rw [if_neg (by omega)]; rfl, fun x _ => Nat.le_refl _, fun x _ _ => rfl⟩
  | succ i ih =>
    intro hi
    obtain ⟨k0, i2, i3, i4⟩ := ih (by omega)
    have hw2 := pK_w k0 hw
    have e3 := k0.1 3 (by decide)
    have ec : nC (pOut N m i) i 3 = nC N i 3 := k0.2.2.2 i 3 (by decide) (by decide)
    have c7 := (hw.2.2 i (by omega)).1
    obtain ⟨j1, j2, j3, j4⟩ := pIn_facts (i := i) hw2 hm (by omega) (nC N i 3) (by omega)
    refine ⟨pK_tr k0 j1, fun k => ?_, fun x hx => ?_, fun x hx hx2 => ?_⟩
    · rw [pOut, j2, i2, i2]
      by_cases c : k = i
      · rw [if_pos c, if_neg (by omega), if_pos (by omega), c]
      · rw [if_neg c]
        by_cases c2 : k < i
        · rw [if_pos c2, if_pos (by omega)]
        · rw [if_neg c2, if_neg (by omega)]
    · have := i3 x hx
      have := j3 x hx
      rw [pOut]; omega
    · rw [pOut, j4 x hx (by rw [k0.1 1 (by decide)]; exact hx2)]; exact i4 x hx hx2
theorem onC_pK {N M : NN} {k : Nat} (hw : wN N) (h : pK N M) (hk : k < N 3) : onC M k = onC N k := by
  obtain ⟨c7, -⟩ := hw.2.2 k hk
  funext x
  unfold onC
  rw [h.2.2.2 k 3 (by decide) (by decide)]
  apply decide_eq_decide.2
  constructor
  · rintro ⟨j, j1, j2⟩; exact ⟨j, j1, by rw [← h.2.2.2 k _ (by omega) (by omega)]; exact j2⟩
  · rintro ⟨j, j1, j2⟩; exact ⟨j, j1, by rw [h.2.2.2 k _ (by omega) (by omega)]; exact j2⟩
theorem cLen_pK {N M : NN} {k : Nat} (hw : wN N) (h : pK N M) (hk : k < N 3) : cLen M k = cLen N k := by
  obtain ⟨c7, cr⟩ := hw.2.2 k hk
  have h16 := hw.1
  unfold cLen
  rw [h.2.2.2 k 3 (by decide) (by decide)]
  apply sumf_congr
  intro j hj
  have := cr j hj
  rw [h.2.2.2 k _ (by omega) (by omega), h.2.1 _ 2 (by omega) (by decide) (by decide)]
theorem sumf_add {f : Nat → Nat} {c : Nat} : ∀ n, sumf (fun k => f k + c) n = sumf f n + c * n := by
  intro n
  induction n with
  | zero => rfl
  | succ n ih =>
    have e1 : sumf (fun k => f k + c) (n + 1) = sumf (fun k => f k + c) n + (f n + c) := rfl
    have e2 : sumf f (n + 1) = sumf f n + f n := rfl
    rw [e1, e2, ih, Nat.mul_succ]; omega
theorem iN_pass {N : NN} {W m : Nat} (hI : iN N W) (hm : m ≤ 60) : iN (pOut N m (N 3)) (W + 1) := by
  have hw := wN_of hI
  obtain ⟨kk, f2, f4, fz⟩ := pOut_facts hw hm (N 3) (Nat.le_refl _)
  have hon := fun k hk => onC_pK (k := k) hw kk hk
  obtain ⟨k0, kT, kU, kC⟩ := kk
  generalize pOut N m (N 3) = M at *
  obtain ⟨⟨h0, h1, h2, h3, h4⟩, hT, hTz, hU, hUz, hC, hD, hS, hB⟩ := hI
  have e0 := k0 0 (by decide)
  have e1 := k0 1 (by decide)
  have e2 := k0 2 (by decide)
  have e3 := k0 3 (by decide)
  have e4 := k0 4 (by decide)
  have e5 := k0 5 (by decide)
  unfold iN
  simp only [e0, e1, e2, e3, e4, e5]
  refine ⟨⟨h0, h1, h2, h3, by omega⟩, fun i hi => ?_, fun i i1 i2 o ho => ?_, fun i hi => ?_, fun i i1 i2 o ho => ?_, fun i hi => ?_, fun i k hi hk hik => ?_, ?_, ?_⟩
  · obtain ⟨a, b, c, d, e, f, g⟩ := hT i hi
    rw [kT i 0 (by omega) (by decide) (by decide), kT i 1 (by omega) (by decide) (by decide), kT i 2 (by omega) (by decide) (by decide), kT i 3 (by omega) (by decide) (by decide)]
    have := f4 i (by omega)
    exact ⟨a, b, c, d, e, f, by omega⟩
  · have hz := hTz i i1 i2 o ho
    by_cases c : o = 4
    · rw [c, fz i i2 i1, ← c]; exact hz
    · rw [kT i o i2 ho c]; exact hz
  · rw [kU i 0 (by omega) (by decide), kU i 1 (by omega) (by decide)]; exact hU i hi
  · rw [kU i o i2 ho]; exact hUz i i1 i2 o ho
  · obtain ⟨a, b, c, d, e, f⟩ := hC i hi
    rw [kC i 0 (by decide) (by decide), kC i 1 (by decide) (by decide), kC i 3 (by decide) (by decide), f2, if_pos hi]
    refine ⟨a, b, c, by omega, e, fun j hj => ?_⟩
    rw [kC i _ (by omega) (by omega), kT _ 3 (by have := (f j hj).1; omega) (by decide) (by decide)]
    exact f j hj
  · rw [kC i 0 (by decide) (by decide), kC i 1 (by decide) (by decide), kC k 0 (by decide) (by decide), kC k 1 (by decide) (by decide), hon i hi, hon k hk]
    exact hD i k hi hk hik
  · rw [sumf_congr (g := fun i => nU N i 2) (fun i hi => kU i 2 (by omega) (by decide))]; exact hS
  · have e : sumf (fun i => 25 + 141 * nC M i 2) (N 3) = sumf (fun i => 25 + 141 * nC N i 2) (N 3) + 141 * m * N 3 := by
      rw [← sumf_add]
      apply sumf_congr
      intro i hi
      rw [f2, if_pos hi, Nat.mul_add]; omega
    have h5 : 141 * m * N 3 ≤ 8460 * 5 := Nat.mul_le_mul (by omega) h3
    rw [e]; omega
theorem uN_pass {N : NN} {m : Nat} (hw : wN N) (hm : m ≤ 60) (hu : uN N) : uN (pOut N m (N 3)) := by
  obtain ⟨⟨k0, kT, kU, kC⟩, -⟩ := pOut_facts hw hm (N 3) (Nat.le_refl _)
  intro i hi j hj
  rw [k0 3 (by decide)] at hi
  rw [kC i 3 (by decide) (by decide)] at hj
  obtain ⟨c7, cr⟩ := hw.2.2 i hi
  have := cr j hj
  have := hw.1
  rw [kC i _ (by omega) (by omega), kT _ 3 (by omega) (by decide) (by decide)]
  exact hu i hi j hj
theorem m_pass_in {N : NN} {m i : Nat} {k2 : Int32 → ZZ → Option (Int32 × ZZ)} (hw : wN N) (hm : m ≤ 60) (hi : i < N 3) : ∀ (e j n : Nat) (Z : ZZ), j + e = nC N i 3 → e < n → rA (pIn N m i j) Z 1 → ∃ Z', sX8_passes_L28 (nI m) k2 n (nI i) (nI j) Z = k2 (nI (i + 1)) Z' ∧ rA (pIn N m i (nC N i 3)) Z' 1 ∧ only1 Z Z' := by
  have h16 := hw.1
  have h5 := hw.2.1
  obtain ⟨c7, cr⟩ := hw.2.2 i hi
  intro e
  induction e with
  | zero =>
    intro j n Z hj hn hA
    obtain ⟨n, rfl⟩ : ∃ q, n = q + 1 := ⟨n - 1, by omega⟩
    have ej : j = nC N i 3 := by omega
    subst ej
    obtain ⟨kk, -⟩ := pIn_facts hw hm hi (nC N i 3) (Nat.le_refl _)
    have e3 : nC (pIn N m i (nC N i 3)) i 3 = nC N i 3 := kk.2.2.2 i 3 (by decide) (by decide)
    exact ⟨Z, by rw [sX8_passes_L28, p_c_x (x := 3) hA (o := 3) (by omega) rfl, bnd_s, e3, if_pos (nI_le (by omega) (by omega)), nm_d, ad_n1], hA, only1_rf Z⟩
  | succ e ih =>
    intro j n Z hj hn hA
    obtain ⟨n, rfl⟩ : ∃ q, n = q + 1 := ⟨n - 1, by omega⟩
    obtain ⟨kk, -⟩ := pIn_facts hw hm hi j (by omega)
    have e3 : nC (pIn N m i j) i 3 = nC N i 3 := kk.2.2.2 i 3 (by decide) (by decide)
    have e4 : nC (pIn N m i j) i (4 + j) = nC N i (4 + j) := kk.2.2.2 i _ (by omega) (by omega)
    have hx := cr j (by omega)
    obtain ⟨Z1, c1, r1, o1⟩ := m_setT (v := nT (pIn N m i j) (nC N i (4 + j)) 4 + m) (x := 4) (o := 4) (i := nC N i (4 + j)) hA (by omega) rfl
    obtain ⟨Z', a1, a2, a3⟩ := ih (j + 1) n Z1 (by omega) (by omega) r1
    refine ⟨Z', ?_, a2, only1_tr o1 a3⟩
    rw [sX8_passes_L28, p_c_x (x := 3) hA (o := 3) (by omega) rfl, bnd_s, e3, if_neg (nI_ge (by omega) (by omega))]
    rw [show (4 : Int32) + nI j = nI (4 + j) from nI_add 4 j, p_c_x hA (o := 4 + j) (by omega) rfl, bnd_s, p_c_x hA (o := 4 + j) (by omega) rfl, bnd_s, e4, p_t4 hA (by omega), bnd_s, nI_add, c1, bnd_s, nm_d, ad_n1]
    exact a1
theorem m_pass_L {N : NN} {m : Nat} (hw : wN N) (hm : m ≤ 60) : ∀ (e i n : Nat) (Z : ZZ), i + e = N 3 → e < n → rA (pOut N m i) Z 1 → ∃ Z', sX8_passes_L2 (nI m) n (nI i) Z = some (nI (N 3), Z') ∧ rA (pOut N m (N 3)) Z' 1 ∧ only1 Z Z' := by
  have h5 := hw.2.1
  intro e
  induction e with
  | zero =>
    intro i n Z hi hn hA
    obtain ⟨n, rfl⟩ : ∃ q, n = q + 1 := ⟨n - 1, by omega⟩
    have ei : i = N 3 := by omega
    subst ei
    obtain ⟨kk, -⟩ := pOut_facts hw hm (N 3) (Nat.le_refl _)
    have e3 := kk.1 3 (by decide)
    refine ⟨Z, ?_, hA, only1_rf Z⟩
    rw [sX8_passes_L2, gd_t (by decide), g3 hA, e3, if_pos (nI_le (by omega) (by omega))]
    unfold sX8_passes_B78
    rw [gd_t (by decide), g3 hA, e3]
  | succ e ih =>
    intro i n Z hi hn hA
    obtain ⟨n, rfl⟩ : ∃ q, n = q + 1 := ⟨n - 1, by omega⟩
    obtain ⟨kk, -⟩ := pOut_facts hw hm i (by omega)
    have e3 := kk.1 3 (by decide)
    have hw2 := pK_w kk hw
    have ec : nC (pOut N m i) i 3 = nC N i 3 := kk.2.2.2 i 3 (by decide) (by decide)
    obtain ⟨Z1, c1, r1, o1⟩ := m_setC (v := nC (pOut N m i) i 2 + m) (x := 2) (o := 2) (i := i) hA (by omega) rfl
    obtain ⟨Z2, b1, b2, b3⟩ := m_pass_in (k2 := fun y2 Z => sX8_passes_L2 (nI m) n y2 Z) hw2 hm (show i < pOut N m i 3 by omega) (nC N i 3) 0 3000 Z1 (by omega) (by have := (hw.2.2 i (by omega)).1; omega) r1
    rw [ec] at b2
    obtain ⟨Z', a1, a2, a3⟩ := ih (i + 1) n Z2 (by omega) (by omega) b2
    refine ⟨Z', ?_, a2, only1_tr o1 (only1_tr b3 a3)⟩
    rw [sX8_passes_L2, gd_t (by decide), g3 hA, e3, if_neg (nI_ge (by omega) (by omega)), p_c_x (x := 2) hA (o := 2) (by omega) rfl, bnd_s, nI_add, c1, bnd_s]
    exact b1.trans a1
theorem m_pass {N : NN} {Z : ZZ} {m : Nat} (hw : wN N) (hm : m ≤ 60) (hA : rA N Z 1) : ∃ Z', sX8_passes (nI m) Z = some (nI (N 3), Z') ∧ rA (pOut N m (N 3)) Z' 1 ∧ only1 Z Z' :=
  m_pass_L hw hm (N 3) 0 3000 Z (by omega) (by have := hw.2.1; omega) hA
theorem c_min {N : NN} {Z : ZZ} {i v : Nat} (hB : rB N Z 19) (hw : wN N) (hi : i < N 3) : rB (sC N i 2 v) (pI Z (29 + 2 * i) 2 (nI v)) 19 := by
  obtain ⟨⟨a0, a1, a2, a3, a4, a5⟩, am, aT, aU, aC⟩ := rB19.1 hB
  have h5 := hw.2.1
  have hk : ∀ k j, k < 29 → gI (pI Z (29 + 2 * i) 2 (nI v)) k j = gI Z k j := fun k j h => gI_pI_k _ _ _ _ (by omega)
  have ek : ∀ k, k < 8 → sC N i 2 v k = N k := fun k hk => sC_0 hk
  have eT : ∀ j q, j < 16 → q < 5 → nT (sC N i 2 v) j q = nT N j q := fun j q a b => nT_sC a b
  have eU : ∀ j q, j < 10 → q < 3 → nU (sC N i 2 v) j q = nU N j q := fun j q a b => nU_sC a b
  have eC : ∀ k o, o < 12 → nC (sC N i 2 v) k o = if k = i ∧ o = 2 then v else nC N k o := fun k o ho => nC_sC (by decide) ho
  have hp : pK N (sC N i 2 v) := ⟨ek, fun x o a b _ => eT x o a b, eU, fun k o a b => by rw [eC k o a, if_neg (fun q => b q.2)]⟩
  refine rB19.2 ⟨⟨?_, ?_, ?_, ?_, ?_, ?_⟩, ?_, fun j hj => ?_, fun j hj => ?_, fun k hk3 => ?_⟩
  · rw [hk _ _ (by decide), ek 0 (by decide)]; exact a0
  · rw [hk _ _ (by decide), ek 1 (by decide)]; exact a1
  · rw [hk _ _ (by decide), ek 2 (by decide)]; exact a2
  · rw [hk _ _ (by decide), ek 3 (by decide)]; exact a3
  · rw [hk _ _ (by decide), ek 4 (by decide)]; exact a4
  · rw [gL_pI, ek 5 (by decide)]; exact a5
  · rw [hk _ _ (by decide), msk_congr (q := fun i => decide (nT N i 3 = 1)) (fun i hi => by rw [eT i 3 hi (by decide)])]; exact am
  · rw [hk _ _ (by decide), hk _ _ (by decide), hk _ _ (by decide), hk _ _ (by decide), eT j 0 hj (by decide), eT j 1 hj (by decide), eT j 2 hj (by decide), eT j 4 hj (by decide)]; exact aT j hj
  · rw [hk _ _ (by decide), hk _ _ (by decide), hk _ _ (by decide), eU j 0 hj (by decide), eU j 1 hj (by decide), eU j 2 hj (by decide)]; exact aU j hj
  · rw [ek 3 (by decide)] at hk3
    obtain ⟨b0, b1, b2, b3, b4, b5⟩ := aC k hk3
    obtain ⟨c7, -⟩ := hw.2.2 k hk3
    have hne : ∀ j, j ≠ 2 ∨ k ≠ i → gI (pI Z (29 + 2 * i) 2 (nI v)) (29 + 2 * k) j = gI Z (29 + 2 * k) j := fun j h => gI_pI_o _ _ (fun q => by omega)
    refine ⟨?_, ?_, ?_, ?_, ?_, fun j hj => ?_⟩
    · rw [hne _ (by omega), eC k _ (by decide), if_neg (by omega)]; exact b0
    · rw [hne _ (by omega), eC k _ (by decide), if_neg (by omega)]; exact b1
    · rw [eC k _ (by decide)]
      by_cases c : k = i
      · rw [if_pos ⟨c, rfl⟩, c, gI_pI_s]
      · rw [hne _ (Or.inr c), if_neg (fun q => c q.1)]; exact b2
    · rw [hne _ (by omega), eC k _ (by decide), if_neg (by omega)]; exact b3
    · rw [hne _ (by omega), cLen_pK hw hp hk3]; exact b4
    · rw [eC k _ (by decide), if_neg (by omega)] at hj
      rw [gI_pI_k _ _ _ _ (by omega), eC k _ (by omega), if_neg (by omega)]; exact b5 j hj
theorem c_cnt {N : NN} {Z : ZZ} {x m : Nat} (hB : rB N Z 19) (hw : wN N) (hx : x < N 1) : ∃ Z', sX3_countMinutes (19 + 1) (nI x) (nI m) Z = some Z' ∧ rB (sT N x 4 (nT N x 4 + m)) Z' 19 ∧ onlyP Z Z' := by
  obtain ⟨⟨a0, a1, a2, a3, a4, a5⟩, am, aT, aU, aC⟩ := rB19.1 hB
  have h16 := hw.1
  have hk : ∀ k j, k ≠ 24 → gI (pI Z 24 x (nI (nT N x 4 + m))) k j = gI Z k j := fun k j h => gI_pI_k _ _ _ _ h
  have ek : ∀ k, k < 8 → sT N x 4 (nT N x 4 + m) k = N k := fun k hk => sT_0 hk
  have eT : ∀ j q, q < 5 → nT (sT N x 4 (nT N x 4 + m)) j q = if j = x ∧ q = 4 then nT N x 4 + m else nT N j q := fun j q b => nT_sT (by decide) b
  have eU : ∀ j q, nU (sT N x 4 (nT N x 4 + m)) j q = nU N j q := fun j q => nU_sT (by omega) (by decide)
  have eC : ∀ k o, nC (sT N x 4 (nT N x 4 + m)) k o = nC N k o := fun k o => nC_sT (by omega) (by decide)
  have hp : pK N (sT N x 4 (nT N x 4 + m)) := ⟨ek, fun y o a b c => by rw [eT y o b, if_neg (fun q => c q.2)], fun j o _ _ => eU j o, fun k o _ _ => eC k o⟩
  refine ⟨pI Z 24 x (nI (nT N x 4 + m)), ?_, rB19.2 ⟨⟨?_, ?_, ?_, ?_, ?_, ?_⟩, ?_, fun j hj => ?_, fun j hj => ?_, fun k hk3 => ?_⟩, onlyP_pI (onlyP_rf Z) (by decide)⟩
  · show sX3_countMinutes 20 (nI x) (nI m) Z = _
    unfold sX3_countMinutes
    rw [gd_t (by decide), p_hasTrunk (by decide) a1 (by omega) (by omega), bnd_s, if_pos hx]
    dsimp only
    rw [if_neg (by decide), gd_t (vin_n (by omega) (by decide)), gd_t (vin_n (by omega) (by decide)), cl_n (by omega)]
    show nm (pI Z 24 x (gI Z 24 x + nI m)) _ = _
    rw [(aT x (by omega)).2.2.2, nI_add, nm_d]
  · rw [hk _ _ (by decide), ek 0 (by decide)]; exact a0
  · rw [hk _ _ (by decide), ek 1 (by decide)]; exact a1
  · rw [hk _ _ (by decide), ek 2 (by decide)]; exact a2
  · rw [hk _ _ (by decide), ek 3 (by decide)]; exact a3
  · rw [hk _ _ (by decide), ek 4 (by decide)]; exact a4
  · rw [gL_pI, ek 5 (by decide)]; exact a5
  · rw [hk _ _ (by decide), msk_congr (q := fun i => decide (nT N i 3 = 1)) (fun i hi => by rw [eT i 3 (by decide), if_neg (by omega)])]; exact am
  · obtain ⟨q0, q1, q2, q3⟩ := aT j hj
    rw [hk _ _ (by decide), hk _ _ (by decide), hk _ _ (by decide), eT j 0 (by decide), eT j 1 (by decide), eT j 2 (by decide), eT j 4 (by decide), if_neg (by omega), if_neg (by omega), if_neg (by omega)]
    refine ⟨q0, q1, q2, ?_⟩
    by_cases c : j = x
    · rw [if_pos ⟨c, rfl⟩, c, gI_pI_s]
    · rw [if_neg (fun q => c q.1), gI_pI_j _ _ _ _ c]; exact q3
  · rw [hk _ _ (by decide), hk _ _ (by decide), hk _ _ (by decide), eU, eU, eU]; exact aU j hj
  · rw [ek 3 (by decide)] at hk3
    obtain ⟨b0, b1, b2, b3, b4, b5⟩ := aC k hk3
    refine ⟨?_, ?_, ?_, ?_, ?_, fun j hj => ?_⟩
    · rw [hk _ _ (by omega), eC]; exact b0
    · rw [hk _ _ (by omega), eC]; exact b1
    · rw [hk _ _ (by omega), eC]; exact b2
    · rw [hk _ _ (by omega), eC]; exact b3
    · rw [hk _ _ (by omega), cLen_pK hw hp hk3]; exact b4
    · rw [eC] at hj
      rw [hk _ _ (by omega), eC]; exact b5 j hj
theorem c_pass_in {N : NN} {m i : Nat} {k2 : Int32 → ZZ → Option (Int32 × ZZ)} (hw : wN N) (hm : m ≤ 60) (hi : i < N 3) : ∀ (e j n : Nat) (Z : ZZ), j + e = nC N i 3 → e < n → rB (pIn N m i j) Z 19 → ∃ Z', sX6_addMinutes_L30 19 (nI m) k2 n (nI i) (29 + 2 * i) (nI j) Z = k2 (nI (i + 1)) Z' ∧ rB (pIn N m i (nC N i 3)) Z' 19 ∧ onlyP Z Z' := by
  have h16 := hw.1
  have h5 := hw.2.1
  obtain ⟨c7, cr⟩ := hw.2.2 i hi
  intro e
  induction e with
  | zero =>
    intro j n Z hj hn hB
    obtain ⟨n, rfl⟩ : ∃ q, n = q + 1 := ⟨n - 1, by omega⟩
    have ej : j = nC N i 3 := by omega
    subst ej
    obtain ⟨kk, -⟩ := pIn_facts hw hm hi (nC N i 3) (Nat.le_refl _)
    have e3 : nC (pIn N m i (nC N i 3)) i 3 = nC N i 3 := kk.2.2.2 i 3 (by decide) (by decide)
    have k3 := kk.1 3 (by decide)
    have b3 := ((rB19.1 hB).2.2.2.2 i (by omega)).2.2.2.1
    exact ⟨Z, by rw [sX6_addMinutes_L30, gd_t (sh29 (by omega)), b3, e3, if_pos (nI_le (by omega) (by omega)), nm_d, ad_n1], hB, onlyP_rf Z⟩
  | succ e ih =>
    intro j n Z hj hn hB
    obtain ⟨n, rfl⟩ : ∃ q, n = q + 1 := ⟨n - 1, by omega⟩
    obtain ⟨kk, -⟩ := pIn_facts hw hm hi j (by omega)
    have e3 : nC (pIn N m i j) i 3 = nC N i 3 := kk.2.2.2 i 3 (by decide) (by decide)
    have e4 : nC (pIn N m i j) i (4 + j) = nC N i (4 + j) := kk.2.2.2 i _ (by omega) (by omega)
    have k3 := kk.1 3 (by decide)
    have k1 := kk.1 1 (by decide)
    obtain ⟨-, -, -, b3, -, b5⟩ := (rB19.1 hB).2.2.2.2 i (by omega)
    have hx := cr j (by omega)
    obtain ⟨Z1, c1, r1, o1⟩ := c_cnt (m := m) hB (pK_w kk hw) (show nC N i (4 + j) < pIn N m i j 1 by omega)
    obtain ⟨Z', a1, a2, a3⟩ := ih (j + 1) n Z1 (by omega) (by omega) r1
    refine ⟨Z', ?_, a2, onlyP_tr o1 a3⟩
    rw [sX6_addMinutes_L30, gd_t (sh29 (by omega)), b3, e3, if_neg (nI_ge (by omega) (by omega)), gd_t (vin_n (by omega) (by decide)), cl_n (by omega), b5 j (by omega), e4, c1, bnd_s, nm_d, ad_n1]
    exact a1
theorem c_pass_L {N : NN} {m : Nat} (hw : wN N) (hm : m ≤ 60) : ∀ (e i n : Nat) (Z : ZZ), i + e = N 3 → e < n → rB (pOut N m i) Z 19 → ∃ Z', sX6_addMinutes_L2 19 (nI m) n (nI i) Z = some (nI (N 3), Z') ∧ rB (pOut N m (N 3)) Z' 19 ∧ onlyP Z Z' := by
  have h5 := hw.2.1
  intro e
  induction e with
  | zero =>
    intro i n Z hi hn hB
    obtain ⟨n, rfl⟩ : ∃ q, n = q + 1 := ⟨n - 1, by omega⟩
    have ei : i = N 3 := by omega
    subst ei
    obtain ⟨kk, -⟩ := pOut_facts hw hm (N 3) (Nat.le_refl _)
    have e3 := kk.1 3 (by decide)
    have a3 := (rB19.1 hB).1.2.2.2.1
    refine ⟨Z, ?_, hB, onlyP_rf Z⟩
    rw [sX6_addMinutes_L2, a3, e3, if_pos (nI_le (by omega) (by omega))]
  | succ e ih =>
    intro i n Z hi hn hB
    obtain ⟨n, rfl⟩ : ∃ q, n = q + 1 := ⟨n - 1, by omega⟩
    obtain ⟨kk, -⟩ := pOut_facts hw hm i (by omega)
    have e3 := kk.1 3 (by decide)
    have hw2 := pK_w kk hw
    have ec : nC (pOut N m i) i 3 = nC N i 3 := kk.2.2.2 i 3 (by decide) (by decide)
    have a3' := (rB19.1 hB).1.2.2.2.1
    have b2' := ((rB19.1 hB).2.2.2.2 i (by omega)).2.2.1
    have r1 := c_min (v := nC (pOut N m i) i 2 + m) hB hw2 (show i < pOut N m i 3 by omega)
    have o1 : onlyP Z (pI Z (29 + 2 * i) 2 (nI (nC (pOut N m i) i 2 + m))) := onlyP_pI (onlyP_rf Z) (by omega)
    obtain ⟨Z2, b1, b2, b3⟩ := c_pass_in (k2 := fun y2 Z => sX6_addMinutes_L2 19 (nI m) n y2 Z) hw2 hm (show i < pOut N m i 3 by omega) (nC N i 3) 0 3000 _ (by omega) (by have := (hw.2.2 i (by omega)).1; omega) r1
    rw [ec] at b2
    obtain ⟨Z', a1, a2, a3⟩ := ih (i + 1) n Z2 (by omega) (by omega) b2
    refine ⟨Z', ?_, a2, onlyP_tr o1 (onlyP_tr b3 a3)⟩
    rw [sX6_addMinutes_L2, a3', e3, if_neg (nI_ge (by omega) (by omega)), gd_t (vin_n (by omega) (by decide)), elC19 (by omega), b2', nI_add, nm_d]
    exact b1.trans a1
theorem c_pass {N : NN} {Z : ZZ} {m : Nat} (hw : wN N) (hm : m ≤ 60) (hB : rB N Z 19) : ∃ Z', sX6_addMinutes 19 (nI m) Z = some (nI (N 3), Z') ∧ rB (pOut N m (N 3)) Z' 19 ∧ onlyP Z Z' := by
  unfold sX6_addMinutes
  rw [gd_t (by decide)]
  exact c_pass_L hw hm (N 3) 0 3000 Z (by omega) (by have := hw.2.1; omega) hB
