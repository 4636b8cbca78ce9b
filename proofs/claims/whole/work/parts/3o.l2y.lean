/-! a route is taken: the parts of call i become m, its route f -/
def tRk (N : NN) (i m : Nat) (f : Nat → Nat) (k : Nat) : NN := fun q => if q = 118 + 12 * i + 3 then m else if 118 + 12 * i + 4 ≤ q ∧ q < 118 + 12 * i + 4 + k then (if q - (118 + 12 * i + 4) < m then f (q - (118 + 12 * i + 4)) else 0) else N q
def tRt (N : NN) (i m : Nat) (f : Nat → Nat) : NN := tRk N i m f 8
theorem tRk_0 (N : NN) (i m : Nat) (f : Nat → Nat) : tRk N i m f 0 = sC N i 3 m := by
  funext q
  unfold tRk sC sN
  by_cases c : q = 118 + 12 * i + 3
  · rw [if_pos c, if_pos c]
  · rw [if_neg c, if_neg c, if_neg (by omega)]
theorem tRk_s (N : NN) (i m : Nat) (f : Nat → Nat) (k : Nat) : sC (tRk N i m f k) i (4 + k) (if k < m then f k else 0) = tRk N i m f (k + 1) := by
  funext q
  unfold sC sN tRk
  by_cases c : q = 118 + 12 * i + (4 + k)
  · rw [if_pos c, if_neg (show ¬ q = 118 + 12 * i + 3 by omega), if_pos (show 118 + 12 * i + 4 ≤ q ∧ q < 118 + 12 * i + 4 + (k + 1) by omega), show q - (118 + 12 * i + 4) = k by omega]
  · rw [if_neg c]
    by_cases c1 : q = 118 + 12 * i + 3
    · rw [if_pos c1, if_pos c1]
    · rw [if_neg c1, if_neg c1]
      by_cases c2 : 118 + 12 * i + 4 ≤ q ∧ q < 118 + 12 * i + 4 + k
      · rw [if_pos c2, if_pos (show 118 + 12 * i + 4 ≤ q ∧ q < 118 + 12 * i + 4 + (k + 1) by omega)]
      · rw [if_neg c2, if_neg (show ¬ (118 + 12 * i + 4 ≤ q ∧ q < 118 + 12 * i + 4 + (k + 1)) by omega)]
theorem rt_3 {N : NN} {i m : Nat} {f : Nat → Nat} : nC (tRt N i m f) i 3 = m := if_pos rfl
theorem rt_j {N : NN} {i m j : Nat} {f : Nat → Nat} (hj : j < m) (hm : m ≤ 8) : nC (tRt N i m f) i (4 + j) = f j := by
  unfold nC tRt tRk
  rw [if_neg (by omega), if_pos (by omega), show 118 + 12 * i + (4 + j) - (118 + 12 * i + 4) = j by omega, if_pos hj]
theorem rt_o {N : NN} {i m o : Nat} {f : Nat → Nat} (ho : o < 3) : nC (tRt N i m f) i o = nC N i o := by
  unfold nC tRt tRk
  rw [if_neg (by omega), if_neg (by omega)]
theorem rt_n {N : NN} {i m o k : Nat} {f : Nat → Nat} (hk : k ≠ i) (ho : o < 12) : nC (tRt N i m f) k o = nC N k o := by
  unfold nC tRt tRk
  rw [if_neg (by omega), if_neg (by omega)]
theorem nT_rt {N : NN} {i m j q : Nat} {f : Nat → Nat} (hj : j < 16) (hq : q < 5) : nT (tRt N i m f) j q = nT N j q := by
  unfold nT tRt tRk
  rw [if_neg (by omega), if_neg (by omega)]
theorem nU_rt {N : NN} {i m j q : Nat} {f : Nat → Nat} (hj : j < 10) (hq : q < 3) : nU (tRt N i m f) j q = nU N j q := by
  unfold nU tRt tRk
  rw [if_neg (by omega), if_neg (by omega)]
theorem rt_0 {N : NN} {i m k : Nat} {f : Nat → Nat} (hk : k < 8) : tRt N i m f k = N k := by
  unfold tRt tRk
  rw [if_neg (by omega), if_neg (by omega)]
theorem m_takes_L {N : NN} {i m : Nat} {f : Nat → Nat} (hi : i < 5) (hm : m ≤ 7) : ∀ (e k n : Nat) (Z : ZZ), k + e = 8 → e < n → rA (tRk N i m f k) Z 1 → gI Z 0 13 = nI m → (∀ j, j < m → gI Z 8 j = nI (f j)) → ∃ Z', sX8_takesRoute_L12 (nI i) n (nI k) Z = some Z' ∧ rA (tRt N i m f) Z' 1 ∧ only1 Z Z' := by
  intro e
  induction e with
  | zero =>
    intro k n Z hk hn hA h13 hf
    obtain ⟨n, rfl⟩ : ∃ q, n = q + 1 := ⟨n - 1, by omega⟩
    have hk8 : k = 8 := by omega
    subst hk8
    exact ⟨Z, by rw [sX8_takesRoute_L12, if_pos (by decide)], hA, only1_rf Z⟩
  | succ e ih =>
    intro k n Z hk hn hA h13 hf
    obtain ⟨n, rfl⟩ : ∃ q, n = q + 1 := ⟨n - 1, by omega⟩
    have hx : (4 : Int32) + nI k = nI (4 + k) := nI_add 4 k
    by_cases c : m ≤ k
    · obtain ⟨Z1, c1, r1, o1⟩ := m_setC (v := 0) (x := 4 + nI k) (i := i) (o := 4 + k) hA (by omega) hx
      have r1' : rA (tRk N i m f (k + 1)) Z1 1 := by
        rw [← tRk_s, if_neg (by omega)]; exact r1
      obtain ⟨Z', a1, a2, a3⟩ := ih (k + 1) n Z1 (by omega) (by omega) r1' (by rw [o1.1 _ _ (by decide)]; exact h13) (fun j hj => by rw [o1.1 _ _ (by decide)]; exact hf j hj)
      refine ⟨Z', ?_, a2, only1_tr o1 a3⟩
      rw [sX8_takesRoute_L12, if_neg (lge (show k < 8 by omega) (by decide)), h13, if_pos (nI_le c (by omega)), show sX8_setCall (nI i) (4 + nI k) 0 Z = some Z1 from c1, bnd_s, nm_d, ad_n1]
      exact a1
    · obtain ⟨Z1, c1, r1, o1⟩ := m_setC (v := f k) (x := 4 + nI k) (i := i) (o := 4 + k) hA (by omega) hx
      have r1' : rA (tRk N i m f (k + 1)) Z1 1 := by
        rw [← tRk_s, if_pos (by omega)]; exact r1
      obtain ⟨Z', a1, a2, a3⟩ := ih (k + 1) n Z1 (by omega) (by omega) r1' (by rw [o1.1 _ _ (by decide)]; exact h13) (fun j hj => by rw [o1.1 _ _ (by decide)]; exact hf j hj)
      refine ⟨Z', ?_, a2, only1_tr o1 a3⟩
      rw [sX8_takesRoute_L12, if_neg (lge (show k < 8 by omega) (by decide)), h13, if_neg (nI_ge (by omega) (by omega)), gd_t (vin_n (by omega) (by decide)), cl_n (by omega), hf k (by omega), c1, bnd_s, nm_d, ad_n1]
      exact a1
theorem m_takes {N : NN} {i m : Nat} {f : Nat → Nat} {Z : ZZ} (hi : i < 5) (hm : m ≤ 7) (hA : rA N Z 1) (h13 : gI Z 0 13 = nI m) (hf : ∀ j, j < m → gI Z 8 j = nI (f j)) : ∃ Z', sX8_takesRoute (nI i) Z = some Z' ∧ rA (tRt N i m f) Z' 1 ∧ only1 Z Z' := by
  obtain ⟨Z1, c1, r1, o1⟩ := m_setC (v := m) (x := 3) (i := i) (o := 3) hA (by omega) rfl
  obtain ⟨Z', a1, a2, a3⟩ := m_takes_L (N := N) (f := f) hi hm 8 0 3000 Z1 (by omega) (by omega) (by rw [tRk_0]; exact r1) (by rw [o1.1 _ _ (by decide)]; exact h13) (fun j hj => by rw [o1.1 _ _ (by decide)]; exact hf j hj)
  refine ⟨Z', ?_, a2, only1_tr o1 a3⟩
  unfold sX8_takesRoute
  rw [h13, c1, bnd_s]
  exact a1
theorem m_len_L {N : NN} {Z : ZZ} {i : Nat} (hA : rA N Z 1) (hi : i < 5) (h7 : nC N i 3 ≤ 7) (h16 : ∀ j, j < nC N i 3 → nC N i (4 + j) < 16) : ∀ (e k n : Nat), k + e = nC N i 3 → e < n → sX8_lengthOf_L4 (nI i) n (nI (sumf (fun j => nT N (nC N i (4 + j)) 2) k)) (nI k) Z = some (nI (cLen N i), Z) := by
  intro e
  induction e with
  | zero =>
    intro k n hk hn
    obtain ⟨n, rfl⟩ : ∃ q, n = q + 1 := ⟨n - 1, by omega⟩
    rw [sX8_lengthOf_L4, p_c_x (x := 3) hA (o := 3) (by omega) rfl, bnd_s, if_pos (nI_le (by omega) (by omega)), show k = nC N i 3 by omega]
    rfl
  | succ e ih =>
    intro k n hk hn
    obtain ⟨n, rfl⟩ : ∃ q, n = q + 1 := ⟨n - 1, by omega⟩
    have := h16 k (by omega)
    rw [sX8_lengthOf_L4, p_c_x (x := 3) hA (o := 3) (by omega) rfl, bnd_s, if_neg (nI_ge (by omega) (by omega)), show (4 : Int32) = nI 4 from rfl, nI_add, p_c_x hA (o := 4 + k) (by omega) rfl, bnd_s, p_t2 hA this, bnd_s, nm_d, nI_add, nm_d, ad_n1]
    exact ih (k + 1) n (by omega) (by omega)
theorem m_len {N : NN} {Z : ZZ} {i : Nat} (hA : rA N Z 1) (hi : i < 5) (h7 : nC N i 3 ≤ 7) (h16 : ∀ j, j < nC N i 3 → nC N i (4 + j) < 16) : sX8_lengthOf (nI i) Z = some (nI (cLen N i), Z) :=
  m_len_L hA hi h7 h16 (nC N i 3) 0 3000 (by omega) (by omega)
/-! the class takes a route -/
theorem gI_pR (Z : ZZ) (k : Nat) (f : Nat → Int32) (k' j' : Nat) : gI (pR Z k f) k' j' = if k' = k then f j' else gI Z k' j' := by
  unfold gI pR
  by_cases h : k' = k
  · simp [h]
  · simp [h]
theorem gI_pC {Z : ZZ} {t0 t1 k j m : Nat} {n : Int32} (hn : n.toNatClampNeg = m) : gI (pC Z t0 0 t1 0 n) k j = if k = t1 ∧ j < m then gI Z t0 j else gI Z k j := by
  unfold pC
  rw [gI_pR, hn]
  by_cases h : k = t1
  · subst h
    rw [if_pos rfl]
    unfold va_cpy
    have z : (0 : Int32).toNatClampNeg = 0 := by decide
    rw [z]
    by_cases h2 : j < m
    · rw [if_pos (by omega), if_pos ⟨rfl, h2⟩, show 0 + (j - 0) = j by omega]; rfl
    · rw [if_neg (by omega), if_neg (fun q => h2 q.2)]; rfl
  · rw [if_neg h, if_neg (fun q => h q.1)]
theorem im7 : (imin 7 7).toNatClampNeg = 7 := by decide
theorem im10 : (imin 10 10).toNatClampNeg = 10 := by decide
theorem im16 : (imin 16 16).toNatClampNeg = 16 := by decide
theorem c_take {Z : ZZ} {t m L : Nat} {f : Nat → Nat} (ht : shC t = 17) (h20 : 19 ≤ t) (h1 : gI Z 13 1 = nI m) (h2 : gI Z 13 2 = nI L) (hf : ∀ j, j < m → gI Z 14 j = nI (f j)) (hm : m ≤ 7) :
    ∃ Z', sX1_takeRoute t Z = some Z' ∧ gI Z' t 3 = nI m ∧ gI Z' t 4 = nI L ∧ (∀ j, j < m → gI Z' (t + 1) j = nI (f j)) ∧ (∀ k j, k ≠ t + 1 → (k = t → j < 3) → gI Z' k j = gI Z k j) ∧ ∀ k, gL Z' k = gL Z k := by
  refine ⟨pI (pI (pC Z 14 0 (t + 1) 0 (imin 7 7)) t 3 (nI m)) t 4 (nI L), ?_, ?_, ?_, fun j hj => ?_, fun k j hk hk2 => ?_, fun _ => rfl⟩
  · unfold sX1_takeRoute sX7_copyRow_11_11
    rw [gd_t ht, gd_t (by decide), gd_t (sh_X1_route ht), gd_t (by decide), nm_d, bnd_s, gI_pC im7, if_neg (by omega), h1, nm_d, gI_pI_k _ _ _ _ (by omega), gI_pC im7, if_neg (by omega), h2, nm_d]
  · rw [gI_pI_j _ _ _ _ (by decide), gI_pI_s]
  · rw [gI_pI_s]
  · rw [gI_pI_k _ _ _ _ (by omega), gI_pI_k _ _ _ _ (by omega), gI_pC im7, if_pos ⟨rfl, by omega⟩]; exact hf j hj
  · rw [gI_pI_o _ _ (fun q => by have := hk2 q; omega), gI_pI_o _ _ (fun q => by have := hk2 q; omega), gI_pC im7, if_neg (fun q => hk q.1)]
theorem elC19 {k : Nat} (h : k < 2 ^ 31) : elC (19 + 9) (nI k) = 29 + 2 * k := elC_n h
theorem sh29 {k : Nat} (h : k < 5) : shC (29 + 2 * k) = 17 := shC_call (b := 19) (by decide) h
/-! a call more -/
def aCa (N : NN) (a b m : Nat) (f : Nat → Nat) : NN := sN (tRt (sC (sC (sC N (N 3) 0 a) (N 3) 1 b) (N 3) 2 0) (N 3) m f) 3 (N 3 + 1)
theorem ca_facts (N : NN) (a b m : Nat) (f : Nat → Nat) (h : N 3 < 5) :
    (nC (aCa N a b m f) (N 3) 0 = a ∧ nC (aCa N a b m f) (N 3) 1 = b ∧ nC (aCa N a b m f) (N 3) 2 = 0 ∧ nC (aCa N a b m f) (N 3) 3 = m) ∧
    (∀ j, j < m → m ≤ 7 → nC (aCa N a b m f) (N 3) (4 + j) = f j) ∧
    (∀ k o, k ≠ N 3 → o < 12 → nC (aCa N a b m f) k o = nC N k o) ∧
    (∀ j q, j < 16 → q < 5 → nT (aCa N a b m f) j q = nT N j q) ∧
    (∀ j q, j < 10 → q < 3 → nU (aCa N a b m f) j q = nU N j q) ∧
    aCa N a b m f 3 = N 3 + 1 ∧ (∀ k, k ≠ 3 → k < 8 → aCa N a b m f k = N k) := by
  unfold aCa
  refine ⟨⟨?_, ?_, ?_, ?_⟩, fun j hj hm => ?_, fun k o hk ho => ?_, fun j q hj hq => ?_, fun j q hj hq => ?_, sN_s _ _ _, fun k hk hk8 => ?_⟩
  · rw [nC_s0 (by decide), rt_o (by decide)]; simp [nC_sC]
  · rw [nC_s0 (by decide), rt_o (by decide)]; simp [nC_sC]
  · rw [nC_s0 (by decide), rt_o (by decide)]; simp [nC_sC]
  · rw [nC_s0 (by decide), rt_3]
  · rw [nC_s0 (by decide), rt_j hj (by omega)]
  · rw [nC_s0 (by decide), rt_n hk ho, nC_sC (by decide) ho, if_neg (fun q => hk q.1), nC_sC (by decide) ho, if_neg (fun q => hk q.1), nC_sC (by decide) ho, if_neg (fun q => hk q.1)]
  · rw [nT_s0 (by decide), nT_rt hj hq, nT_sC hj hq, nT_sC hj hq, nT_sC hj hq]
  · rw [nU_s0 (by decide), nU_rt hj hq, nU_sC hj hq, nU_sC hj hq, nU_sC hj hq]
  · rw [sN_n hk, rt_0 hk8, sC_0 hk8, sC_0 hk8, sC_0 hk8]
theorem m_ca {N : NN} {Z : ZZ} {W a b m : Nat} {f : Nat → Nat} (hA : rA N Z 1) (hI : iN N W) (h3 : N 3 < 5) (hm : m ≤ 7) (h13 : gI Z 0 13 = nI m) (hf : ∀ j, j < m → gI Z 8 j = nI (f j)) (hr : ∀ j, j < m → f j < N 1) :
    ∃ Z', sX8_connects (nI a) (nI b) Z = some (nI (sumf (fun j => nT N (f j) 2) m), Z') ∧ rA (aCa N a b m f) Z' 1 ∧ only1 Z Z' := by
  have h16 := hI.1.2.1
  obtain ⟨⟨f0, f1, f2, f3⟩, fj, fn, fT, fU, e3, ek⟩ := ca_facts N a b m f h3
  obtain ⟨Z1, c1, r1, o1⟩ := m_setC (v := a) (x := 0) (o := 0) (i := N 3) hA (by omega) rfl
  obtain ⟨Z2, c2, r2, o2⟩ := m_setC (v := b) (x := 1) (o := 1) (i := N 3) r1 (by omega) rfl
  obtain ⟨Z3, c3, r3, o3⟩ := m_setC (v := 0) (x := 2) (o := 2) (i := N 3) r2 (by omega) rfl
  obtain ⟨Z4, c4, r4, o4⟩ := m_takes (i := N 3) (f := f) h3 hm r3 (by rw [o3.1 _ _ (by decide), o2.1 _ _ (by decide), o1.1 _ _ (by decide)]; exact h13) (fun j hj => by rw [o3.1 _ _ (by decide), o2.1 _ _ (by decide), o1.1 _ _ (by decide)]; exact hf j hj)
  have r5 : rA (aCa N a b m f) (pI Z4 1 3 (nI (N 3 + 1))) 1 := rA_s r4
  have e4 : (tRt (sC (sC (sC N (N 3) 0 a) (N 3) 1 b) (N 3) 2 0) (N 3) m f) 3 = N 3 := by rw [rt_0 (by decide), sC_0 (by decide), sC_0 (by decide), sC_0 (by decide)]
  have hl := m_len r5 (i := N 3) h3 (by omega) (fun j hj => by rw [f3] at hj; rw [fj j hj hm]; have := hr j hj; omega)
  have hcl : cLen (aCa N a b m f) (N 3) = sumf (fun j => nT N (f j) 2) m := by
    unfold cLen
    rw [f3]
    exact sumf_congr (fun j hj => by rw [fj j hj hm, fT _ _ (by have := hr j hj; omega) (by decide)])
  refine ⟨_, ?_, r5, only1_tr o1 (only1_tr o2 (only1_tr o3 (only1_tr o4 (only1_pI _ _ _))))⟩
  unfold sX8_connects
  rw [gd_t (by decide), nm_d, g3 hA, c1, bnd_s, c2, bnd_s, show sX8_setCall (nI (N 3)) 2 0 Z2 = some Z3 from c3, bnd_s, c4, bnd_s, gd_t (by decide), gd_t (by decide), g3 r4, e4, ad_n1, nm_d, show ((3 : Int32).toNatClampNeg) = 3 from by decide, hl, bnd_s, hcl]
theorem c_ca {N : NN} {Z : ZZ} {W a b m : Nat} {f : Nat → Nat} (hB : rB N Z 19) (hI : iN N W) (h3 : N 3 < 5) (hm : m ≤ 7) (h1 : gI Z 13 1 = nI m) (h2 : gI Z 13 2 = nI (sumf (fun j => nT N (f j) 2) m)) (hf : ∀ j, j < m → gI Z 14 j = nI (f j)) (hr : ∀ j, j < m → f j < N 1) :
    ∃ Z', sX6_beginCall 19 (nI a) (nI b) Z = some (nI (sumf (fun j => nT N (f j) 2) m), Z') ∧ rB (aCa N a b m f) Z' 19 ∧ onlyP Z Z' := by
  have h16 := hI.1.2.1
  obtain ⟨⟨f0, f1, f2, f3⟩, fj, fn, fT, fU, e3, ek⟩ := ca_facts N a b m f h3
  obtain ⟨⟨a0, a1, a2, a3, a4, a5⟩, am, aT, aU, aC⟩ := rB19.1 hB
  have hcl : cLen (aCa N a b m f) (N 3) = sumf (fun j => nT N (f j) 2) m := by
    unfold cLen
    rw [f3]
    exact sumf_congr (fun j hj => by rw [fj j hj hm, fT _ _ (by have := hr j hj; omega) (by decide)])
  obtain ⟨Z4, c4, t3, t4, tr, tk, tl⟩ := c_take (Z := pI (pI (pI Z (29 + 2 * N 3) 0 (nI a)) (29 + 2 * N 3) 1 (nI b)) (29 + 2 * N 3) 2 (nI 0)) (t := 29 + 2 * N 3) (m := m) (L := sumf (fun j => nT N (f j) 2) m) (f := f) (sh29 h3) (by omega)
    (by rw [gI_pI_k _ _ _ _ (by omega), gI_pI_k _ _ _ _ (by omega), gI_pI_k _ _ _ _ (by omega)]; exact h1) (by rw [gI_pI_k _ _ _ _ (by omega), gI_pI_k _ _ _ _ (by omega), gI_pI_k _ _ _ _ (by omega)]; exact h2)
    (fun j hj => by rw [gI_pI_k _ _ _ _ (by omega), gI_pI_k _ _ _ _ (by omega), gI_pI_k _ _ _ _ (by omega)]; exact hf j hj) hm
  have hlow : ∀ k j, k ≠ 29 + 2 * N 3 → k ≠ 29 + 2 * N 3 + 1 → gI Z4 k j = gI Z k j := fun k j q1 q2 => by
    rw [tk k j q2 (fun q => absurd q q1), gI_pI_k _ _ _ _ q1, gI_pI_k _ _ _ _ q1, gI_pI_k _ _ _ _ q1]
  have z3 : gI Z4 19 5 = nI (N 3) := by rw [hlow _ _ (by omega) (by omega)]; exact a3
  refine ⟨pI Z4 19 5 (nI (N 3 + 1)), ?_, rB19.2 ?_, ⟨fun k j hk => by rw [gI_pI_k _ _ _ _ (by omega)]; exact hlow k j (by omega) (by omega), fun k _ => tl k⟩⟩
  · unfold sX6_beginCall
    rw [gd_t (by decide), a3, if_pos (ltl h3 (by decide)), gd_t (vin_n h3 (by decide)), elC19 (by omega), nm_d, nm_d, nm_d, show (0 : Int32) = nI 0 from rfl, c4, bnd_s, z3, ad_n1, nm_d, gI_pI_k _ _ _ _ (by omega), t4]
  · have hlow2 : ∀ k j, k ≠ 19 → k ≠ 29 + 2 * N 3 → k ≠ 29 + 2 * N 3 + 1 → gI (pI Z4 19 5 (nI (N 3 + 1))) k j = gI Z k j := fun k j q0 q1 q2 => by
      rw [gI_pI_k _ _ _ _ q0]; exact hlow k j q1 q2
    have h19 : ∀ j, j ≠ 5 → gI (pI Z4 19 5 (nI (N 3 + 1))) 19 j = gI Z 19 j := fun j q => by
      rw [gI_pI_j _ _ _ _ q]; exact hlow 19 j (by omega) (by omega)
    refine ⟨⟨?_, ?_, ?_, ?_, ?_, ?_⟩, ?_, fun i hi => ?_, fun i hi => ?_, fun i hi => ?_⟩
    · rw [hlow2 _ _ (by decide) (by omega) (by omega), ek 0 (by decide) (by decide)]; exact a0
    · rw [hlow2 _ _ (by decide) (by omega) (by omega), ek 1 (by decide) (by decide)]; exact a1
    · rw [h19 _ (by decide), ek 2 (by decide) (by decide)]; exact a2
    · rw [gI_pI_s, e3]
    · rw [h19 _ (by decide), ek 4 (by decide) (by decide)]; exact a4
    · rw [ek 5 (by decide) (by decide)]; exact (tl 19).trans a5
    · rw [hlow2 _ _ (by decide) (by omega) (by omega), msk_congr (q := fun i => decide (nT N i 3 = 1)) (fun i hi => by rw [fT i 3 hi (by decide)])]; exact am
    · rw [hlow2 _ _ (by decide) (by omega) (by omega), hlow2 _ _ (by decide) (by omega) (by omega), hlow2 _ _ (by decide) (by omega) (by omega), hlow2 _ _ (by decide) (by omega) (by omega), fT i 0 hi (by decide), fT i 1 hi (by decide), fT i 2 hi (by decide), fT i 4 hi (by decide)]; exact aT i hi
    · rw [hlow2 _ _ (by decide) (by omega) (by omega), hlow2 _ _ (by decide) (by omega) (by omega), hlow2 _ _ (by decide) (by omega) (by omega), fU i 0 hi (by decide), fU i 1 hi (by decide), fU i 2 hi (by decide)]; exact aU i hi
    · rw [e3] at hi
      by_cases c : i = N 3
      · subst c
        refine ⟨?_, ?_, ?_, ?_, ?_, fun j hj => ?_⟩
        · rw [gI_pI_k _ _ _ _ (by omega), tk _ _ (by omega) (fun _ => by decide), gI_pI_j _ _ _ _ (by decide), gI_pI_j _ _ _ _ (by decide), gI_pI_s, f0]
        · rw [gI_pI_k _ _ _ _ (by omega), tk _ _ (by omega) (fun _ => by decide), gI_pI_j _ _ _ _ (by decide), gI_pI_s, f1]
        · rw [gI_pI_k _ _ _ _ (by omega), tk _ _ (by omega) (fun _ => by decide), gI_pI_s, f2]
        · rw [gI_pI_k _ _ _ _ (by omega), t3, f3]
        · rw [gI_pI_k _ _ _ _ (by omega), t4, hcl]
        · rw [f3] at hj
          rw [gI_pI_k _ _ _ _ (by omega), tr j hj, fj j hj hm]
      · have hi3 : i < N 3 := by omega
        obtain ⟨b0, b1, b2, b3, b4, b5⟩ := aC i hi3
        obtain ⟨-, -, -, -, g7, -⟩ := hI.2.2.2.2.2.1 i hi3
        refine ⟨?_, ?_, ?_, ?_, ?_, fun j hj => ?_⟩
        · rw [hlow2 _ _ (by omega) (by omega) (by omega), fn i _ c (by decide)]; exact b0
        · rw [hlow2 _ _ (by omega) (by omega) (by omega), fn i _ c (by decide)]; exact b1
        · rw [hlow2 _ _ (by omega) (by omega) (by omega), fn i _ c (by decide)]; exact b2
        · rw [hlow2 _ _ (by omega) (by omega) (by omega), fn i _ c (by decide)]; exact b3
        · rw [hlow2 _ _ (by omega) (by omega) (by omega), cLen_of hI hi3 (fun o ho => fn i o c ho) (fun x hx => fT x 2 (by omega) (by decide))]; exact b4
        · rw [fn i _ c (by decide)] at hj
          rw [hlow2 _ _ (by omega) (by omega) (by omega), fn i _ c (by omega)]; exact b5 j hj
theorem iN_ca {N : NN} {W a b m : Nat} {f : Nat → Nat} (hI : iN N W) (h3 : N 3 < 5) (ha : a < N 2) (hb : b < N 2) (hab : a ≠ b) (hm : m ≤ 7) (ta : ∀ k, k < N 3 → nC N k 0 ≠ a ∧ nC N k 1 ≠ a) (tb : ∀ k, k < N 3 → nC N k 0 ≠ b ∧ nC N k 1 ≠ b)
    (hr : ∀ j, j < m → f j < N 1 ∧ used N (f j) = false) : iN (aCa N a b m f) (W + 1) := by
  obtain ⟨⟨f0, f1, f2, f3⟩, fj, fn, fT, fU, e3, ek⟩ := ca_facts N a b m f h3
  have hI0 := hI
  obtain ⟨⟨h0, h1, h2, h3', h4⟩, hT, hTz, hU, hUz, hC, hD, hS, hB⟩ := hI
  have e0 := ek 0 (by decide) (by decide)
  have e1 := ek 1 (by decide) (by decide)
  have e2 := ek 2 (by decide) (by decide)
  have e4 := ek 4 (by decide) (by decide)
  have e5 := ek 5 (by decide) (by decide)
  have hon : ∀ k, k < N 3 → onC (aCa N a b m f) k = onC N k := fun k hk => onC_of (by obtain ⟨-, -, -, -, g, -⟩ := hC k hk; exact g) (fun o ho => fn k o (by omega) ho)
  have hnew : ∀ x, onC (aCa N a b m f) (N 3) x = true → used N x = false := fun x hx => by
    unfold onC at hx
    obtain ⟨j, j1, j2⟩ := of_decide_eq_true hx
    rw [f3] at j1
    rw [fj j j1 hm] at j2
    rw [← j2]; exact (hr j j1).2
  have hun : ∀ x, used N x = false → ∀ k, k < N 3 → onC N k x = false := fun x hx k hk => by
    cases hq : onC N k x with
    | false => rfl
    | true =>
      have : used N x = true := decide_eq_true ⟨k, hk, hq⟩
      rw [hx] at this; cases this
  unfold iN
  simp only [e0, e1, e2, e3, e4, e5]
  refine ⟨⟨h0, h1, h2, by omega, by omega⟩, fun i hi => ?_, fun i i1 i2 o ho => ?_, fun i hi => ?_, fun i i1 i2 o ho => ?_, fun i hi => ?_, fun i k hi hk hik => ?_, ?_, ?_⟩
  · rw [fT i 0 (by omega) (by decide), fT i 1 (by omega) (by decide), fT i 2 (by omega) (by decide), fT i 3 (by omega) (by decide), fT i 4 (by omega) (by decide)]
    obtain ⟨a, b, c, d, e, f, g⟩ := hT i hi
    exact ⟨a, b, c, d, e, f, by omega⟩
  · rw [fT i o i2 ho]; exact hTz i i1 i2 o ho
  · rw [fU i 0 (by omega) (by decide), fU i 1 (by omega) (by decide)]; exact hU i hi
  · rw [fU i o i2 ho]; exact hUz i i1 i2 o ho
  · by_cases c : i = N 3
    · subst c
      rw [f0, f1, f2, f3]
      refine ⟨ha, hb, hab, by omega, hm, fun j hj => ?_⟩
      rw [fj j hj hm, fT _ 3 (by have := (hr j hj).1; omega) (by decide)]
      obtain ⟨-, -, -, -, -, q, -⟩ := hT _ (hr j hj).1
      exact ⟨(hr j hj).1, q⟩
    · obtain ⟨g0, g1, g2, g3, g4, g5⟩ := hC i (by omega)
      rw [fn i 0 c (by decide), fn i 1 c (by decide), fn i 2 c (by decide), fn i 3 c (by decide)]
      refine ⟨g0, g1, g2, by omega, g4, fun j hj => ?_⟩
      rw [fn i _ c (by omega), fT _ 3 (by have := (g5 j hj).1; omega) (by decide)]
      exact g5 j hj
  · by_cases c : i = N 3
    · have ck : k ≠ N 3 := by omega
      have hk3 : k < N 3 := by omega
      rw [c, f0, f1, fn k 0 ck (by decide), fn k 1 ck (by decide), hon k hk3]
      exact ⟨fun q => (ta k hk3).1 q.symm, fun q => (ta k hk3).2 q.symm, fun q => (tb k hk3).2 q.symm, fun x hx => hun x (hnew x hx) k hk3⟩
    · have hi3 : i < N 3 := by omega
      by_cases ck : k = N 3
      · rw [ck, f0, f1, fn i 0 c (by decide), fn i 1 c (by decide), hon i hi3]
        refine ⟨(ta i hi3).1, (tb i hi3).1, (tb i hi3).2, fun x hx => ?_⟩
        cases hq : onC (aCa N a b m f) (N 3) x with
        | false => rfl
        | true =>
          have := hun x (hnew x hq) i hi3
          rw [hx] at this; cases this
      · rw [fn i 0 c (by decide), fn i 1 c (by decide), fn k 0 ck (by decide), fn k 1 ck (by decide), hon i hi3, hon k (by omega)]
        exact hD i k hi3 (by omega) hik
  · rw [sumf_congr (g := fun i => nU N i 2) (fun i hi => fU i 2 (by omega) (by decide))]; exact hS
  · have es : sumf (fun i => 25 + 141 * nC (aCa N a b m f) i 2) (N 3 + 1) = sumf (fun i => 25 + 141 * nC N i 2) (N 3) + 25 := by
      rw [sumf, f2, sumf_congr (g := fun i => 25 + 141 * nC N i 2) (fun i hi => by rw [fn i 2 (by omega) (by decide)])]
    rw [es]; omega
