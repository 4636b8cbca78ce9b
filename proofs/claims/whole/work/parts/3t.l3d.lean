/-! class and reference make the same change -/
def sy (N : NN) (W : Nat) (Zc Zr : ZZ) : Prop := rB N Zc 19 ∧ rA N Zr 1 ∧ iN N W ∧ uN N
def rE (k : Nat) (a b l : Int32) (Z : ZZ) : Option (Int32 × ZZ) := match k with
  | 0 => sX8_addsSwitch Z
  | 1 => sX8_lays a b l Z
  | 2 => sX8_joins a b Z
  | 3 => sX8_connects a b Z
  | 4 => bnd (sX8_callOf a Z) (fun q => sX8_ends q.1 q.2)
  | 5 => sX8_cuts a Z
  | 6 => sX8_mends a Z
  | _ => sX8_passes a Z
/-- both make a change, with the same answer -/
def stp (W : Nat) (Zc Zr : ZZ) (oc or : Option (Int32 × ZZ)) : Prop := ∃ N' r Zc' Zr', oc = some (r, Zc') ∧ or = some (r, Zr') ∧ sy N' (W + 1) Zc' Zr' ∧ onlyP Zc Zc' ∧ onlyM Zr Zr'
theorem on_j {N : NN} {k j : Nat} (hj : j < nC N k 3) : onC N k (nC N k (4 + j)) = true := decide_eq_true ⟨j, hj, rfl⟩
theorem usr_is {N : NN} {W k y : Nat} (hI : iN N W) (hk : k < N 3) (h : onC N k y = true) : usr N y = k := by
  have hlt : usr N y < N 3 := by
    rcases Nat.lt_or_ge (usr N y) (N 3) with q | q
    · exact q
    · have := fnd_ge (p := fun k => onC N k y) (n := N 3) (by unfold usr at q; omega) k hk
      rw [h] at this; cases this
  have hon : onC N (usr N y) y = true := (fnd_lt (p := fun k => onC N k y) (n := N 3) hlt).1
  by_cases c : usr N y = k
  · exact c
  · have := (hI.2.2.2.2.2.2.1 _ _ hlt hk c).2.2.2 y hon
    rw [h] at this; cases this
theorem used_usr (N : NN) (y : Nat) : used N y = decide (usr N y < N 3) := by
  unfold used
  apply decide_eq_decide.2
  constructor
  · rintro ⟨k, k1, k2⟩
    rcases Nat.lt_or_ge (usr N y) (N 3) with q | q
    · exact q
    · have := fnd_ge (p := fun k => onC N k y) (n := N 3) (by unfold usr at q; omega) k k1
      rw [k2] at this
      cases this
  · intro q
    exact ⟨usr N y, q, (fnd_lt (p := fun k => onC N k y) (n := N 3) q).1⟩
theorem frE_t {N : NN} {c i : Nat} (h : frE N c i = true) : nT N i 3 = 0 ∧ (usr N i < N 3 → usr N i = c) := by
  unfold frE at h
  rw [Bool.and_eq_true, decide_eq_true_eq, decide_eq_true_eq] at h
  exact h
theorem pf_0 {N : NN} {W : Nat} {Zc Zr : ZZ} {a b l : Int32} (hs : sy N W Zc Zr) (h : N 0 < 8) : stp W Zc Zr (sX7_perform (nI 0) a b l Zc) (rE 0 a b l Zr) := by
  obtain ⟨hB, hA, hI, hu⟩ := hs
  obtain ⟨Z1, c1, c2, c3⟩ := c_sw hB hI
  obtain ⟨Z2, m1, m2, m3⟩ := m_sw hA
  refine ⟨_, _, Z1, Z2, ?_, m1, ⟨c2, m2, iN_sw hI h, fun i hi j hj => ?_⟩, c3, onlyM_1 m3⟩
  · unfold sX7_perform
    rw [if_pos (by decide), c1, bnd_s]
  · have eC : ∀ i o, nC (aSw N) i o = nC N i o := fun i o => nC_s0 (by decide)
    have eT : ∀ i o, nT (aSw N) i o = nT N i o := fun i o => nT_s0 (by decide)
    rw [show aSw N 3 = N 3 from sN_n (by decide)] at hi
    rw [eC] at hj
    rw [eC, eT]; exact hu i hi j hj
theorem pf_1 {N : NN} {W x y z : Nat} {Zc Zr : ZZ} (hs : sy N W Zc Zr) (h : N 1 < 16) (hx : x < N 0) (hy : y < N 0) (hxy : x ≠ y) (hz : 1 ≤ z ∧ z ≤ 20) : stp W Zc Zr (sX7_perform (nI 1) (nI x) (nI y) (nI z) Zc) (rE 1 (nI x) (nI y) (nI z) Zr) := by
  obtain ⟨hB, hA, hI, hu⟩ := hs
  obtain ⟨Z1, c1, c2, c3⟩ := c_tr (a := x) (b := y) (l := z) hB hI h
  obtain ⟨Z2, m1, m2, m3⟩ := m_tr (a := x) (b := y) (l := z) hA h
  refine ⟨_, _, Z1, Z2, ?_, m1, ⟨c2, m2, iN_tr hI h hx hy hxy hz, fun i hi j hj => ?_⟩, c3, onlyM_1 m3⟩
  · unfold sX7_perform
    rw [if_neg (by decide), if_pos (by decide), c1, bnd_s]
  · have eC : ∀ i o, nC (aTr N x y z) i o = nC N i o := fun i o => by simp [aTr, nC_s0, nC_sT, h]
    have f3 : ∀ i, nT (aTr N x y z) i 3 = if i = N 1 then 0 else nT N i 3 := fun i => by simp [aTr, nT_s0, nT_sT]
    have e3 : aTr N x y z 3 = N 3 := by simp [aTr, sN, sT_0]
    rw [e3] at hi
    rw [eC] at hj
    rw [eC, f3]
    split
    · rfl
    · exact hu i hi j hj
theorem pf_2 {N : NN} {W x y : Nat} {l : Int32} {Zc Zr : ZZ} (hs : sy N W Zc Zr) (h : N 2 < 10) (hx : x < N 0) (hy : y ≤ 2) : stp W Zc Zr (sX7_perform (nI 2) (nI x) (nI y) l Zc) (rE 2 (nI x) (nI y) l Zr) := by
  obtain ⟨hB, hA, hI, hu⟩ := hs
  obtain ⟨Z1, c1, c2, c3⟩ := c_su (a := x) (b := y) hB hI h
  obtain ⟨Z2, m1, m2, m3⟩ := m_su (a := x) (b := y) hA h
  refine ⟨_, _, Z1, Z2, ?_, m1, ⟨c2, m2, iN_su hI h hx hy, fun i hi j hj => ?_⟩, c3, onlyM_1 m3⟩
  · unfold sX7_perform
    rw [if_neg (by decide), if_neg (by decide), if_pos (by decide), c1, bnd_s]
  · have eC : ∀ i o, nC (aSu N x y) i o = nC N i o := fun i o => by simp [aSu, nC_s0, nC_sU, h]
    have e3 : aSu N x y 3 = N 3 := by simp [aSu, sN, sU_0]
    rw [e3] at hi
    rw [eC] at hj
    have h16 := hI.1.2.1
    have hlt := ((hI.2.2.2.2.2.1 i hi).2.2.2.2.2 j hj).1
    have eT : nT (aSu N x y) (nC N i (4 + j)) 3 = nT N (nC N i (4 + j)) 3 := by
      unfold aSu
      rw [nT_s0 (by decide), nT_sU (by omega) (by decide), nT_sU (by omega) (by decide), nT_sU (by omega) (by decide)]
    rw [eC, eT]
    exact hu i hi j hj
theorem pf_3 {N : NN} {W x y : Nat} {l : Int32} {Zc Zr : ZZ} {d : Nat → Nat} (hs : sy N W Zc Zr) (hx : x < N 2) (hy : y < N 2) (hxy : x ≠ y) (qx : ¬ talks N x < N 3) (qy : ¬ talks N y < N 3) (hd : isD N (frE N 5) (nU N y 0) d) (hf : d (nU N x 0) < 1000000)
    (h13 : gI Zr 0 13 = nI (d (nU N x 0) % 8)) (hfd : ∀ j, j < d (nU N x 0) % 8 → gI Zr 8 j = nI (rtT N (frE N 5) d (nU N x 0) j)) : stp W Zc Zr (sX7_perform (nI 3) (nI x) (nI y) l Zc) (rE 3 (nI x) (nI y) l Zr) := by
  obtain ⟨hB, hA, hI, hu⟩ := hs
  have h5 := hI.1.2.2.2.1
  have hh1 := (hI.2.2.2.1 x hx).1
  have hh2 := (hI.2.2.2.1 y hy).1
  have tx := quiet qx
  have ty := quiet qy
  have h3 := call_room hI hx hy hxy tx ty
  obtain ⟨r1, r2, r3⟩ := rt_ok hI hh2 hh1 hd hf
  obtain ⟨Z1, b1, b2, b3⟩ := p_fr (p := free N) (q := frE N 5) hI (rNet_of hB) hh1 hh2 hd (fun i hi => frE_free (by omega) hi)
  obtain ⟨b4, b5, b6⟩ := b3 hf
  have hB1 := rB_R hB hI b2
  obtain ⟨Z2, c1, c2, c3⟩ := c_ca (a := x) (b := y) hB1 hI h3 r1 b4 b5 b6 (fun j hj => (r3 j hj).1)
  obtain ⟨Z3, m1, m2, m3⟩ := m_ca (a := x) (b := y) hA hI h3 r1 h13 hfd (fun j hj => (r3 j hj).1)
  have hfree : ∀ j, j < d (nU N x 0) % 8 → nT N (rtT N (frE N 5) d (nU N x 0) j) 3 = 0 ∧ used N (rtT N (frE N 5) d (nU N x 0) j) = false := fun j hj => by
    obtain ⟨q1, q2⟩ := r3 j hj
    rw [frE_free (by omega) q1] at q2
    unfold free at q2
    simp only [Bool.and_eq_true, decide_eq_true_eq, Bool.not_eq_true'] at q2
    exact ⟨q2.1.2, q2.2⟩
  refine ⟨_, _, Z2, Z3, ?_, m1, ⟨c2, m2, iN_ca hI h3 hx hy hxy r1 tx ty (fun j hj => ⟨(r3 j hj).1, (hfree j hj).2⟩), fun i hi j hj => ?_⟩, onlyP_tr (onlyP_R b2) c3, onlyM_1 m3⟩
  · unfold sX7_perform sX7_startCall
    rw [if_neg (by decide), if_neg (by decide), if_neg (by decide), if_pos (by decide), p_freeTrunks hB hI, bnd_s, c_home hB hI hx, bnd_s, c_home hB hI hy, bnd_s]
    unfold fMask
    rw [b1, bnd_s, c1, bnd_s, bnd_s]
  · obtain ⟨⟨f0, f1, f2, f3⟩, fj, fn, fT, fU, e3, ek⟩ := ca_facts N x y (d (nU N x 0) % 8) (rtT N (frE N 5) d (nU N x 0)) h3
    have h16 := hI.1.2.1
    rw [e3] at hi
    by_cases c : i = N 3
    · subst c
      rw [f3] at hj
      rw [fj j hj r1, fT _ 3 (by have := (r3 j hj).1; omega) (by decide)]
      exact (hfree j hj).1
    · have hi3 : i < N 3 := by omega
      have c7 := (wN_of hI).2.2 i hi3
      rw [fn i 3 c (by decide)] at hj
      have := c7.2 j hj
      rw [fn i _ c (by omega), fT _ 3 (by omega) (by decide)]
      exact hu i hi3 j hj
theorem uN_end {N : NN} {W i ch : Nat} (hI : iN N W) (hi : i < N 3) (h : ∀ k, k < N 3 → k ≠ i → ∀ j, j < nC N k 3 → nT N (nC N k (4 + j)) 3 = 0) : uN (eNd N i ch) := by
  have h10 := hI.1.2.2.1
  have h16 := hI.1.2.1
  have g0 := (hI.2.2.2.2.2.1 i hi).1
  obtain ⟨fC, fT, fU, e3, e4, e5, ek⟩ := en_facts (ch := ch) hi (show nC N i 0 < 10 by omega)
  intro k hk j hj
  rw [e3] at hk
  rw [fC k 3 hk (by decide)] at hj
  have hk2 := ix_lt hi hk
  have c7 := (wN_of hI).2.2 _ hk2
  have := c7.2 j hj
  rw [fC k _ hk (by omega), fT _ 3 (by omega) (by decide)]
  exact h _ hk2 ix_ne j hj
theorem pf_4 {N : NN} {W x : Nat} {b l : Int32} {Zc Zr : ZZ} (hs : sy N W Zc Zr) (hW : W ≤ 7000) (hx : x < 2 ^ 31) (ht : talks N x < N 3) : stp W Zc Zr (sX7_perform (nI 4) (nI x) b l Zc) (rE 4 (nI x) b l Zr) := by
  obtain ⟨hB, hA, hI, hu⟩ := hs
  obtain ⟨Z1, c1, c2, c3⟩ := c_end hB hI hW ht
  obtain ⟨Z2, m1, m2, m3⟩ := m_end hA hI hW ht
  refine ⟨_, nI (chg N (talks N x)), Z1, Z2, ?_, ?_, ⟨c2, m2, iN_end hI ht, uN_end hI ht (fun k hk _ j hj => hu k hk j hj)⟩, c3, onlyM_1 m3⟩
  · unfold sX7_perform
    rw [if_neg (by decide), if_neg (by decide), if_neg (by decide), if_neg (by decide), if_pos (by decide), p_callIndexOf hB hI hx, bnd_s, if_pos ht, c1, bnd_s]
  · unfold rE
    rw [m_callOf hA hI hx, bnd_s, if_pos ht]
    exact m1
theorem pf_6 {N : NN} {W x : Nat} {b l : Int32} {Zc Zr : ZZ} (hs : sy N W Zc Zr) (hx : x < N 1) : stp W Zc Zr (sX7_perform (nI 6) (nI x) b l Zc) (rE 6 (nI x) b l Zr) := by
  obtain ⟨hB, hA, hI, hu⟩ := hs
  obtain ⟨Z1, c1, c2, c3⟩ := c_mend hB hI hx
  obtain ⟨Z2, m1, m2, m3⟩ := m_mend hA hI hx
  have h16 := hI.1.2.1
  refine ⟨_, _, Z1, Z2, ?_, m1, ⟨c2, m2, iN_mono (iN_flag hI hx (by decide)) (by omega), fun i hi j hj => ?_⟩, c3, onlyM_1 m3⟩
  · unfold sX7_perform
    rw [if_neg (by decide), if_neg (by decide), if_neg (by decide), if_neg (by decide), if_neg (by decide), if_neg (by decide), if_pos (by decide), c1, bnd_s]
  · have eC : ∀ i o, nC (sT N x 3 0) i o = nC N i o := fun i o => nC_sT (by omega) (by decide)
    rw [sT_0 (by decide)] at hi
    rw [eC] at hj
    rw [eC, nT_sT (by decide) (by decide)]
    split
    · rfl
    · exact hu i hi j hj
theorem pf_7 {N : NN} {W m : Nat} {b l : Int32} {Zc Zr : ZZ} (hs : sy N W Zc Zr) (hm : m ≤ 60) : stp W Zc Zr (sX7_perform (nI 7) (nI m) b l Zc) (rE 7 (nI m) b l Zr) := by
  obtain ⟨hB, hA, hI, hu⟩ := hs
  have hw := wN_of hI
  obtain ⟨Z1, c1, c2, c3⟩ := c_pass hw hm hB
  obtain ⟨Z2, m1, m2, m3⟩ := m_pass hw hm hA
  refine ⟨_, _, Z1, Z2, ?_, m1, ⟨c2, m2, iN_pass hI hm, uN_pass hw hm hu⟩, c3, onlyM_1 m3⟩
  unfold sX7_perform
  rw [if_neg (by decide), if_neg (by decide), if_neg (by decide), if_neg (by decide), if_neg (by decide), if_neg (by decide), if_neg (by decide), if_pos (by decide), c1, bnd_s]
/-! a trunk is cut -/
theorem iN_rt {N : NN} {W i m : Nat} {f : Nat → Nat} (hI : iN N W) (hi : i < N 3) (hm : m ≤ 7) (hr : ∀ j, j < m → f j < N 1 ∧ ∀ k, k < N 3 → k ≠ i → onC N k (f j) = false) : iN (tRt N i m f) W := by
  obtain ⟨⟨h0, h1, h2, h3, h4⟩, hT, hTz, hU, hUz, hC, hD, hS, hB⟩ := hI
  have e : ∀ k, k < 8 → tRt N i m f k = N k := fun k hk => rt_0 hk
  have e0 := e 0 (by decide)
  have e1 := e 1 (by decide)
  have e2 := e 2 (by decide)
  have e3 := e 3 (by decide)
  have e4 := e 4 (by decide)
  have e5 := e 5 (by decide)
  have fT : ∀ j q, j < 16 → q < 5 → nT (tRt N i m f) j q = nT N j q := fun j q a b => nT_rt a b
  have fU : ∀ j q, j < 10 → q < 3 → nU (tRt N i m f) j q = nU N j q := fun j q a b => nU_rt a b
  have f02 : ∀ k o, o < 3 → nC (tRt N i m f) k o = nC N k o := fun k o ho => by
    by_cases c : k = i
    · rw [c]; exact rt_o ho
    · exact rt_n c (by omega)
  have hon : ∀ k, k < N 3 → k ≠ i → onC (tRt N i m f) k = onC N k := fun k hk hne => onC_of (hC k hk).2.2.2.2.1 (fun o ho => rt_n hne ho)
  have hnew : ∀ x, onC (tRt N i m f) i x = true → ∃ j, j < m ∧ f j = x := fun x hx => by
    unfold onC at hx
    obtain ⟨j, j1, j2⟩ := of_decide_eq_true hx
    rw [rt_3] at j1
    rw [rt_j j1 (by omega)] at j2
    exact ⟨j, j1, j2⟩
  unfold iN
  simp only [e0, e1, e2, e3, e4, e5]
  refine ⟨⟨h0, h1, h2, h3, h4⟩, fun i hi => ?_, fun i i1 i2 o ho => ?_, fun i hi => ?_, fun i i1 i2 o ho => ?_, fun k hk => ?_, fun j k hj hk hjk => ?_, ?_, ?_⟩
  · rw [fT i 0 (by omega) (by decide), fT i 1 (by omega) (by decide), fT i 2 (by omega) (by decide), fT i 3 (by omega) (by decide), fT i 4 (by omega) (by decide)]
    exact hT i hi
  · rw [fT i o i2 ho]; exact hTz i i1 i2 o ho
  · rw [fU i 0 (by omega) (by decide), fU i 1 (by omega) (by decide)]; exact hU i hi
  · rw [fU i o i2 ho]; exact hUz i i1 i2 o ho
  · obtain ⟨g0, g1, g2, g3, g4, g5⟩ := hC k hk
    rw [f02 k 0 (by decide), f02 k 1 (by decide), f02 k 2 (by decide)]
    by_cases c : k = i
    · rw [c, rt_3]
      rw [c] at g0 g1 g2 g3
      refine ⟨g0, g1, g2, g3, hm, fun j hj => ?_⟩
      rw [rt_j hj (by omega), fT _ 3 (by have := (hr j hj).1; omega) (by decide)]
      exact ⟨(hr j hj).1, (hT _ (hr j hj).1).2.2.2.2.2.1⟩
    · rw [rt_n c (by decide)]
      refine ⟨g0, g1, g2, g3, g4, fun j hj => ?_⟩
      rw [rt_n c (by omega), fT _ 3 (by have := (g5 j hj).1; omega) (by decide)]
      exact g5 j hj
  · obtain ⟨d1, d2, d3, d4⟩ := hD j k hj hk hjk
    rw [f02 j 0 (by decide), f02 j 1 (by decide), f02 k 0 (by decide), f02 k 1 (by decide)]
    refine ⟨d1, d2, d3, fun x hx => ?_⟩
    by_cases cj : j = i
    · rw [cj] at hx
      obtain ⟨q, q1, q2⟩ := hnew x hx
      rw [hon k hk (by omega), ← q2]
      exact (hr q q1).2 k hk (by omega)
    · rw [hon j hj cj] at hx
      by_cases ck : k = i
      · rw [ck]
        cases hq : onC (tRt N i m f) i x with
        | false => rfl
        | true =>
          obtain ⟨q, q1, q2⟩ := hnew x hq
          have := (hr q q1).2 j hj cj
          rw [q2, hx] at this; cases this
      · rw [hon k hk ck]; exact d4 x hx
  · rw [sumf_congr (g := fun i => nU N i 2) (fun i hi => fU i 2 (by omega) (by decide))]; exact hS
  · rw [sumf_congr (g := fun i => 25 + 141 * nC N i 2) (fun k _ => by rw [f02 k 2 (by decide)])]; exact hB
theorem c_rt {N : NN} {Z : ZZ} {W i m : Nat} {f : Nat → Nat} (hB : rB N Z 19) (hI : iN N W) (hi : i < N 3) (hm : m ≤ 7) (h1 : gI Z 13 1 = nI m) (h2 : gI Z 13 2 = nI (sumf (fun j => nT N (f j) 2) m)) (hf : ∀ j, j < m → gI Z 14 j = nI (f j)) (hr : ∀ j, j < m → f j < N 1) :
    ∃ Z', sX1_takeRoute (29 + 2 * i) Z = some Z' ∧ rB (tRt N i m f) Z' 19 ∧ onlyP Z Z' := by
  have h16 := hI.1.2.1
  have h5 := hI.1.2.2.2.1
  obtain ⟨⟨a0, a1, a2, a3, a4, a5⟩, am, aT, aU, aC⟩ := rB19.1 hB
  obtain ⟨Z', c1, t3, t4, tr, tk, tl⟩ := c_take (t := 29 + 2 * i) (sh29 (by omega)) (by omega) h1 h2 hf hm
  have fT : ∀ j q, j < 16 → q < 5 → nT (tRt N i m f) j q = nT N j q := fun j q a b => nT_rt a b
  have fU : ∀ j q, j < 10 → q < 3 → nU (tRt N i m f) j q = nU N j q := fun j q a b => nU_rt a b
  have ek : ∀ k, k < 8 → tRt N i m f k = N k := fun k hk => rt_0 hk
  have hlow : ∀ k j, k ≠ 29 + 2 * i → k ≠ 29 + 2 * i + 1 → gI Z' k j = gI Z k j := fun k j q1 q2 => tk k j q2 (fun q => absurd q q1)
  refine ⟨Z', c1, rB19.2 ⟨⟨?_, ?_, ?_, ?_, ?_, ?_⟩, ?_, fun j hj => ?_, fun j hj => ?_, fun k hk => ?_⟩, ⟨fun k j hk => hlow k j (by omega) (by omega), fun k _ => tl k⟩⟩
  · rw [hlow _ _ (by omega) (by omega), ek 0 (by decide)]; exact a0
  · rw [hlow _ _ (by omega) (by omega), ek 1 (by decide)]; exact a1
  · rw [hlow _ _ (by omega) (by omega), ek 2 (by decide)]; exact a2
  · rw [hlow _ _ (by omega) (by omega), ek 3 (by decide)]; exact a3
  · rw [hlow _ _ (by omega) (by omega), ek 4 (by decide)]; exact a4
  · rw [ek 5 (by decide)]; exact (tl 19).trans a5
  · rw [hlow _ _ (by omega) (by omega), msk_congr (q := fun i => decide (nT N i 3 = 1)) (fun i hi => by rw [fT i 3 hi (by decide)])]; exact am
  · rw [hlow _ _ (by omega) (by omega), hlow _ _ (by omega) (by omega), hlow _ _ (by omega) (by omega), hlow _ _ (by omega) (by omega), fT j 0 hj (by decide), fT j 1 hj (by decide), fT j 2 hj (by decide), fT j 4 hj (by decide)]; exact aT j hj
  · rw [hlow _ _ (by omega) (by omega), hlow _ _ (by omega) (by omega), hlow _ _ (by omega) (by omega), fU j 0 hj (by decide), fU j 1 hj (by decide), fU j 2 hj (by decide)]; exact aU j hj
  · rw [ek 3 (by decide)] at hk
    obtain ⟨b0, b1, b2, b3, b4, b5⟩ := aC k hk
    by_cases c : k = i
    · subst c
      refine ⟨?_, ?_, ?_, ?_, ?_, fun j hj => ?_⟩
      · rw [tk _ _ (by omega) (fun _ => by decide), rt_o (by decide)]; exact b0
      · rw [tk _ _ (by omega) (fun _ => by decide), rt_o (by decide)]; exact b1
      · rw [tk _ _ (by omega) (fun _ => by decide), rt_o (by decide)]; exact b2
      · rw [t3, rt_3]
      · rw [t4]
        congr 1
        unfold cLen
        rw [rt_3]
        exact sumf_congr (fun j hj => by rw [rt_j hj (by omega), fT _ _ (by have := hr j hj; omega) (by decide)])
      · rw [rt_3] at hj
        rw [tr j hj, rt_j hj (by omega)]
    · have c7 := (wN_of hI).2.2 k hk
      refine ⟨?_, ?_, ?_, ?_, ?_, fun j hj => ?_⟩
      · rw [hlow _ _ (by omega) (by omega), rt_n c (by decide)]; exact b0
      · rw [hlow _ _ (by omega) (by omega), rt_n c (by decide)]; exact b1
      · rw [hlow _ _ (by omega) (by omega), rt_n c (by decide)]; exact b2
      · rw [hlow _ _ (by omega) (by omega), rt_n c (by decide)]; exact b3
      · rw [hlow _ _ (by omega) (by omega), cLen_of hI hk (fun o ho => rt_n c ho) (fun x hx => fT x 2 (by omega) (by decide))]; exact b4
      · rw [rt_n c (by decide)] at hj
        rw [hlow _ _ (by omega) (by omega), rt_n c (by omega)]; exact b5 j hj
theorem pf_5 {N : NN} {W x : Nat} {b l : Int32} {Zc Zr : ZZ} (hs : sy N W Zc Zr) (hW : W ≤ 7000) (hx : x < N 1) : stp W Zc Zr (sX7_perform (nI 5) (nI x) b l Zc) (rE 5 (nI x) b l Zr) := by
  obtain ⟨hB, hA, hI, hu⟩ := hs
  have h16 := hI.1.2.1
  have h5 := hI.1.2.2.2.1
  have am := (rB19.1 hB).2.1
  have hI1 : iN (sT N x 3 1) W := iN_flag hI hx (by decide)
  have f3 : ∀ i, nT (sT N x 3 1) i 3 = if i = x then 1 else nT N i 3 := fun i => by simp [nT_sT]
  have eC : ∀ i o, nC (sT N x 3 1) i o = nC N i o := fun i o => nC_sT (by omega) (by decide)
  have eO := onC_eq eC
  have ek : ∀ k, k < 8 → sT N x 3 1 k = N k := fun k hk => sT_0 hk
  have e1 := ek 1 (by decide)
  have e3 := ek 3 (by decide)
  have eu : ∀ y, usr (sT N x 3 1) y = usr N y := fun y => by
    unfold usr
    rw [eO, e3]
  have h2 : 2 ^ x < 2 ^ 16 := Nat.pow_lt_pow_right (by decide) (by omega)
  have emask : nI (msk (fun i => decide (nT N i 3 = 1)) 16) ||| nI (2 ^ x) = nI (msk (fun i => decide (nT (sT N x 3 1) i 3 = 1)) 16) := by
    rw [or_nn]
    congr 1
    apply msk_of (Nat.or_lt_two_pow (msk_lt _ 16) h2)
    intro i hi
    rw [Nat.testBit_or, msk_bit, tb_pow, f3, decide_eq_true hi, Bool.true_and]
    by_cases c : i = x
    · rw [if_pos c, decide_eq_true c.symm]; simp
    · rw [if_neg c, show decide (x = i) = false from decide_eq_false (fun q => c q.symm)]; simp
  have hB1 : rB (sT N x 3 1) (pI Zc 20 6 (nI (msk (fun i => decide (nT (sT N x 3 1) i 3 = 1)) 16))) 19 := rB_flag hB hI hx
  have oP1 : onlyP Zc (pI Zc 20 6 (nI (msk (fun i => decide (nT (sT N x 3 1) i 3 = 1)) 16))) := onlyP_pI (onlyP_rf Zc) (by decide)
  have hstart : sX7_perform (nI 5) (nI x) b l Zc = bnd (sX7_severTrunk (nI x) Zc) (fun q => some (q.1, q.2)) := by
    unfold sX7_perform
    rw [if_neg (by decide), if_neg (by decide), if_neg (by decide), if_neg (by decide), if_neg (by decide), if_pos (by decide)]
  rw [hstart, show rE 5 (nI x) b l Zr = sX8_cuts (nI x) Zr from rfl]
  unfold sX7_severTrunk
  rw [p_bit (by omega), bnd_s]
  dsimp only
  rw [show gI Zc (19 + 1) 6 = _ from am, emask, nm_d]
  show stp W Zc Zr (bnd (bnd (sX6_userIndexOf 19 (nI x) (pI Zc 20 6 (nI (msk (fun i => decide (nT (sT N x 3 1) i 3 = 1)) 16)))) _) _) _
  generalize pI Zc 20 6 (nI (msk (fun i => decide (nT (sT N x 3 1) i 3 = 1)) 16)) = Z1 at hB1 oP1
  rw [p_userIndexOf hB1 hI1 (by omega), bnd_s]
  dsimp only
  rw [eu, e3, nm_d]
  obtain ⟨Zm, d1, d2, d3⟩ := m_setT (v := 1) (x := 3) (o := 3) (i := x) hA (by omega) rfl
  unfold sX8_cuts
  rw [p_callOn hA hI (by omega), bnd_s]
  dsimp only
  rw [nm_d, show sX8_setTrunk (nI x) 3 1 Zr = some Zm from d1, bnd_s]
  by_cases c : usr N x < N 3
  · generalize hi : usr N x = i at c
    have hon : onC N i x = true := by
      have := (fnd_lt (p := fun k => onC N k x) (n := N 3) (by show usr N x < N 3; omega)).1
      rw [show fnd (fun k => onC N k x) (N 3) = i from hi] at this
      exact this
    have hother : ∀ k, k < N 3 → k ≠ i → ∀ j, j < nC (sT N x 3 1) k 3 → nT (sT N x 3 1) (nC (sT N x 3 1) k (4 + j)) 3 = 0 := fun k hk hki j hj => by
      rw [eC] at hj
      rw [eC, f3, if_neg]
      · exact hu k hk j hj
      · intro q
        have q1 := on_j hj
        rw [q] at q1
        exact hki ((usr_is hI hk q1).symm.trans hi)
    rw [if_pos c, if_neg (ne_m1 (by omega)), if_neg (ne_m1 (by omega)), gd_t (vin_n (by omega) (by decide)), elC19 (by omega), p_freeTrunks hB1 hI1, bnd_s]
    dsimp only
    rw [show sX1_trunkBits (29 + 2 * i) Z1 = some (nI (cBits (sT N x 3 1) i), Z1) from p_tb hB1 hI1 (by omega), bnd_s]
    dsimp only
    rw [p_bit (by omega), bnd_s]
    dsimp only
    have hcb := cBits_lt hI1 (show i < sT N x 3 1 3 by omega)
    have hfm : fMask (sT N x 3 1) < 2 ^ 16 := msk_lt _ 16
    rw [or_nn, andn_nn (Nat.or_lt_two_pow hfm hcb) h2, nm_d]
    obtain ⟨b0, b1, -⟩ := (rB19.1 hB1).2.2.2.2 i (by omega)
    obtain ⟨g0, g1, g2, -⟩ := hI1.2.2.2.2.2.1 i (by omega)
    rw [b0, c_home hB1 hI1 g0, bnd_s]
    dsimp only
    rw [b1, c_home hB1 hI1 g1, bnd_s]
    dsimp only
    have hh1 := (hI1.2.2.2.1 _ g0).1
    have hh2 := (hI1.2.2.2.1 _ g1).1
    obtain ⟨d, hd⟩ := ex_isD hI1 (rNet_of hB1) hh2 (frE (sT N x 3 1) i)
    have hp : ∀ y, y < sT N x 3 1 1 → frE (sT N x 3 1) i y = ((fMask (sT N x 3 1) ||| cBits (sT N x 3 1) i).testBit y && !(2 ^ x).testBit y) := fun y hy => by
      rw [Nat.testBit_or, cBits_bit, tb_pow]
      unfold fMask
      rw [msk_bit, decide_eq_true (show y < 16 by omega), Bool.true_and]
      unfold frE free
      rw [used_usr, decide_eq_true hy, Bool.true_and, eu, e3, f3, eO]
      by_cases cx : y = x
      · rw [if_pos cx, decide_eq_true cx.symm]; simp
      · rw [if_neg cx, show decide (x = y) = false from decide_eq_false (fun q => cx q.symm)]
        cases ho : onC N i y with
        | true =>
          have q1 := usr_is hI c ho
          obtain ⟨j, j1, j2⟩ := of_decide_eq_true ho
          have q2 := hu i c j j1
          rw [j2] at q2
          rw [q2, decide_eq_true (fun _ => q1)]; simp
        | false =>
          by_cases cu : usr N y < N 3
          · have : usr N y ≠ i := fun q => by
              have := (fnd_lt (p := fun k => onC N k y) (n := N 3) cu).1
              rw [show fnd (fun k => onC N k y) (N 3) = i from q, ho] at this
              cases this
            rw [show decide (usr N y < N 3 → usr N y = i) = false from decide_eq_false (fun h => this (h cu)), decide_eq_true cu]; simp
          · rw [show decide (usr N y < N 3 → usr N y = i) = true from decide_eq_true (fun h => absurd h cu), decide_eq_false cu]; simp
    obtain ⟨Z2, r1, r2, r3⟩ := p_fr (p := fun y => (fMask (sT N x 3 1) ||| cBits (sT N x 3 1) i).testBit y && !(2 ^ x).testBit y) hI1 (rNet_of hB1) hh1 hh2 hd hp
    rw [show sX5_findRoute (19 + 1) _ _ _ Z1 = _ from r1, bnd_s]
    dsimp only
    have hB2 := rB_R hB1 hI1 r2
    rw [p_c_x (x := 0) d2 (o := 0) (by omega) rfl, bnd_s]
    dsimp only
    rw [p_u_x (x := 0) d2 (o := 0) (by have := hI1.1.2.2.1; omega) rfl, bnd_s]
    dsimp only
    rw [p_c_x (x := 1) d2 (o := 1) (by omega) rfl, bnd_s]
    dsimp only
    rw [p_u_x (x := 0) d2 (o := 0) (by have := hI1.1.2.2.1; omega) rfl, bnd_s]
    dsimp only
    obtain ⟨Zf, f1, f2, -, f4⟩ := p_finds d2 hI1 hh1 hh2 (Or.inl (show i < sT N x 3 1 3 by omega)) hd
    rw [show cI i = nI i by unfold cI; rw [if_pos (by omega)]] at f1
    rw [f1, bnd_s]
    dsimp only
    have hAf := rA_F d2 (by decide) (by decide) f2
    by_cases cf : d (nU (sT N x 3 1) (nC (sT N x 3 1) i 0) 0) < 1000000
    · rw [if_pos cf, if_neg (by decide), if_neg (by decide)]
      obtain ⟨k1, k2, k3⟩ := rt_ok hI1 hh2 hh1 hd cf
      obtain ⟨b4, b5, b6⟩ := r3 cf
      obtain ⟨w1, w2⟩ := f4 cf
      obtain ⟨Z3, s1, s2, s3⟩ := c_rt hB2 hI1 (show i < sT N x 3 1 3 by omega) k1 b4 b5 b6 (fun j hj => (k3 j hj).1)
      obtain ⟨Z4, t1, t2, t3⟩ := m_takes (show i < 5 by omega) k1 hAf w1 w2
      rw [s1, bnd_s, bnd_s, t1, bnd_s]
      refine ⟨_, 0, Z3, Z4, rfl, rfl, ⟨s2, t2, iN_mono (iN_rt hI1 (by omega) k1 (fun j hj => ⟨(k3 j hj).1, fun k hk hki => ?_⟩)) (by omega), fun k hk j hj => ?_⟩, onlyP_tr oP1 (onlyP_tr (onlyP_R r2) s3), onlyM_tr (onlyM_1 d3) (onlyM_tr (onlyM_F f2) (onlyM_1 t3))⟩
      · cases ho : onC (sT N x 3 1) k (rtT (sT N x 3 1) (frE (sT N x 3 1) i) d (nU (sT N x 3 1) (nC (sT N x 3 1) i 0) 0) j) with
        | false => rfl
        | true =>
          have q1 := usr_is hI1 hk ho
          have q3 := (frE_t (k3 j hj).2).2
          rw [q1] at q3
          exact absurd (q3 hk) hki
      · rw [rt_0 (by decide), e3] at hk
        by_cases cki : k = i
        · subst cki
          rw [rt_3] at hj
          have q2 := frE_t (k3 j hj).2
          rw [rt_j hj (by omega), nT_rt (by have := (k3 j hj).1; omega) (by decide)]
          exact q2.1
        · rw [rt_n cki (by decide)] at hj
          have c7 := (wN_of hI1).2.2 k (by omega)
          have := c7.2 j hj
          rw [rt_n cki (by omega), nT_rt (by omega) (by decide)]
          exact hother k hk cki j hj
    · rw [if_neg cf, if_pos rfl, if_pos rfl]
      obtain ⟨Z3, s1, s2, s3⟩ := c_end hB2 hI1 hW (show i < sT N x 3 1 3 by omega)
      obtain ⟨Z4, t1, t2, t3⟩ := m_end hAf hI1 hW (show i < sT N x 3 1 3 by omega)
      rw [s1, bnd_s, bnd_s, t1, bnd_s, nm_d]
      exact ⟨_, 1, Z3, Z4, rfl, rfl, ⟨s2, t2, iN_end hI1 (by omega), uN_end hI1 (by omega) (fun k hk hki j hj => hother k (by omega) hki j hj)⟩, onlyP_tr oP1 (onlyP_tr (onlyP_R r2) s3), onlyM_tr (onlyM_1 d3) (onlyM_tr (onlyM_F f2) (onlyM_1 t3))⟩
  · rw [if_neg c, if_pos rfl, if_pos rfl, bnd_s]
    refine ⟨_, 0, Z1, Zm, rfl, rfl, ⟨hB1, d2, iN_mono hI1 (by omega), fun k hk j hj => ?_⟩, oP1, onlyM_1 d3⟩
    rw [e3] at hk
    rw [eC] at hj
    rw [eC, f3, if_neg]
    · exact hu k hk j hj
    · intro q
      have q1 := on_j hj
      rw [q] at q1
      have := usr_is hI hk q1
      omega
