/-! writing to the specified state -/
theorem ltl {n a : Nat} (h : a < n) (hn : n < 2 ^ 31) : nI a < (OfNat.ofNat n : Int32) := nI_lt h hn
def sN (N : NN) (k v : Nat) : NN := fun q => if q = k then v else N q
theorem sN_s (N : NN) (k v : Nat) : sN N k v k = v := if_pos rfl
theorem sN_n {N : NN} {k v q : Nat} (h : q ≠ k) : sN N k v q = N q := if_neg h
def sT (N : NN) (i o v : Nat) : NN := sN N (8 + 5 * i + o) v
def sU (N : NN) (i o v : Nat) : NN := sN N (88 + 3 * i + o) v
def sC (N : NN) (i o v : Nat) : NN := sN N (118 + 12 * i + o) v
theorem nT_sT {N : NN} {i o v j q : Nat} (ho : o < 5) (hq : q < 5) : nT (sT N i o v) j q = if j = i ∧ q = o then v else nT N j q := by
  unfold nT sT
  by_cases c : j = i ∧ q = o
  · rw [if_pos c, c.1, c.2, sN_s]
  · rw [if_neg c, sN_n (by omega)]
theorem nT_sU {N : NN} {i o v j q : Nat} (hj : j < 16) (hq : q < 5) : nT (sU N i o v) j q = nT N j q := sN_n (by omega)
theorem nT_sC {N : NN} {i o v j q : Nat} (hj : j < 16) (hq : q < 5) : nT (sC N i o v) j q = nT N j q := sN_n (by omega)
theorem nT_s0 {N : NN} {k v j q : Nat} (hk : k < 8) : nT (sN N k v) j q = nT N j q := sN_n (by omega)
theorem nU_sT {N : NN} {i o v j q : Nat} (hi : i < 16) (ho : o < 5) : nU (sT N i o v) j q = nU N j q := sN_n (by omega)
theorem nU_sU {N : NN} {i o v j q : Nat} (ho : o < 3) (hq : q < 3) : nU (sU N i o v) j q = if j = i ∧ q = o then v else nU N j q := by
  unfold nU sU
  by_cases c : j = i ∧ q = o
  · rw [if_pos c, c.1, c.2, sN_s]
  · rw [if_neg c, sN_n (by omega)]
theorem nU_sC {N : NN} {i o v j q : Nat} (hj : j < 10) (hq : q < 3) : nU (sC N i o v) j q = nU N j q := sN_n (by omega)
theorem nU_s0 {N : NN} {k v j q : Nat} (hk : k < 8) : nU (sN N k v) j q = nU N j q := sN_n (by omega)
theorem nC_sT {N : NN} {i o v j q : Nat} (hi : i < 16) (ho : o < 5) : nC (sT N i o v) j q = nC N j q := sN_n (by omega)
theorem nC_sU {N : NN} {i o v j q : Nat} (hi : i < 10) (ho : o < 3) : nC (sU N i o v) j q = nC N j q := sN_n (by omega)
theorem nC_sC {N : NN} {i o v j q : Nat} (ho : o < 12) (hq : q < 12) : nC (sC N i o v) j q = if j = i ∧ q = o then v else nC N j q := by
  unfold nC sC
  by_cases c : j = i ∧ q = o
  · rw [if_pos c, c.1, c.2, sN_s]
  · rw [if_neg c, sN_n (by omega)]
theorem nC_s0 {N : NN} {k v j q : Nat} (hk : k < 8) : nC (sN N k v) j q = nC N j q := sN_n (by omega)
theorem sT_0 {N : NN} {i o v k : Nat} (hk : k < 8) : sT N i o v k = N k := sN_n (by omega)
theorem sU_0 {N : NN} {i o v k : Nat} (hk : k < 8) : sU N i o v k = N k := sN_n (by omega)
theorem sC_0 {N : NN} {i o v k : Nat} (hk : k < 8) : sC N i o v k = N k := sN_n (by omega)
theorem sumf_congr {f g : Nat → Nat} {n : Nat} (h : ∀ i, i < n → f i = g i) : sumf f n = sumf g n := by
  induction n with
  | zero => rfl
  | succ n ih => unfold sumf; rw [ih fun i hi => h i (by omega), h n (by omega)]
theorem onC_eq {N N' : NN} (h : ∀ i o, nC N' i o = nC N i o) : onC N' = onC N := by
  funext i x
  unfold onC
  simp only [h]
theorem onC_of {N N' : NN} {i k : Nat} (h7 : nC N k 3 ≤ 7) (h : ∀ o, o < 12 → nC N' i o = nC N k o) : onC N' i = onC N k := by
  funext x
  unfold onC
  rw [h 3 (by decide)]
  apply decide_eq_decide.2
  constructor
  · rintro ⟨j, j1, j2⟩; exact ⟨j, j1, by rw [← h _ (by omega)]; exact j2⟩
  · rintro ⟨j, j1, j2⟩; exact ⟨j, j1, by rw [h _ (by omega)]; exact j2⟩
theorem cLen_of {N N' : NN} {W i k : Nat} (hI : iN N W) (hk : k < N 3) (hC : ∀ o, o < 12 → nC N' i o = nC N k o) (hT : ∀ x, x < N 1 → nT N' x 2 = nT N x 2) : cLen N' i = cLen N k := by
  obtain ⟨-, -, -, -, h7, h8⟩ := hI.2.2.2.2.2.1 k hk
  unfold cLen
  rw [hC 3 (by decide)]
  apply sumf_congr
  intro j hj
  rw [hC _ (by omega)]
  exact hT _ (h8 j hj).1
/-! the class's block 19 in plain numbers -/
/-- the cells at t hold call k -/
abbrev cA (N : NN) (Z : ZZ) (t k : Nat) : Prop := gI Z t 0 = nI (nC N k 0) ∧ gI Z t 1 = nI (nC N k 1) ∧ gI Z t 2 = nI (nC N k 2) ∧ gI Z t 3 = nI (nC N k 3) ∧ gI Z t 4 = nI (cLen N k) ∧ ∀ j, j < nC N k 3 → gI Z (t + 1) j = nI (nC N k (4 + j))
def rBc (N : NN) (Z : ZZ) : Prop := ∀ i, i < N 3 → cA N Z (29 + 2 * i) i
theorem rB19 {N : NN} {Z : ZZ} : rB N Z 19 ↔ (gI Z 20 0 = nI (N 0) ∧ gI Z 20 1 = nI (N 1) ∧ gI Z 19 1 = nI (N 2) ∧ gI Z 19 5 = nI (N 3) ∧ gI Z 19 8 = nI (N 4) ∧ gL Z 19 = lN (N 5)) ∧ gI Z 20 6 = nI (msk (fun i => decide (nT N i 3 = 1)) 16) ∧
    (∀ i, i < 16 → gI Z 21 i = nI (nT N i 0) ∧ gI Z 22 i = nI (nT N i 1) ∧ gI Z 23 i = nI (nT N i 2) ∧ gI Z 24 i = nI (nT N i 4)) ∧ (∀ i, i < 10 → gI Z 25 i = nI (nU N i 0) ∧ gI Z 26 i = nI (nU N i 1) ∧ gI Z 27 i = nI (nU N i 2)) ∧ rBc N Z := ⟨fun h => h.2, fun h => ⟨by decide, h⟩⟩
theorem rBc_of {N N' : NN} {Z Z' : ZZ} {W : Nat} (h : rBc N Z) (hI : iN N W) (hk : ∀ k j, 29 ≤ k → k < 39 → gI Z' k j = gI Z k j) (h3 : N' 3 = N 3) (hC : ∀ i o, i < 5 → o < 12 → nC N' i o = nC N i o) (hT : ∀ x, x < N 1 → nT N' x 2 = nT N x 2) : rBc N' Z' := by
  intro i hi
  rw [h3] at hi
  have h5 := hI.1.2.2.2.1
  obtain ⟨-, -, -, -, h7, h8⟩ := hI.2.2.2.2.2.1 i hi
  obtain ⟨b0, b1, b2, b3, b4, b5⟩ := h i hi
  have hCi : ∀ o, o < 12 → nC N' i o = nC N i o := fun o ho => hC i o (by omega) ho
  refine ⟨?_, ?_, ?_, ?_, ?_, fun j hj => ?_⟩
  · rw [hk _ _ (by omega) (by omega), hCi _ (by decide)]; exact b0
  · rw [hk _ _ (by omega) (by omega), hCi _ (by decide)]; exact b1
  · rw [hk _ _ (by omega) (by omega), hCi _ (by decide)]; exact b2
  · rw [hk _ _ (by omega) (by omega), hCi _ (by decide)]; exact b3
  · rw [hk _ _ (by omega) (by omega), cLen_of hI hi hCi hT]; exact b4
  · rw [hCi _ (by decide)] at hj
    rw [hk _ _ (by omega) (by omega), hCi _ (by omega)]; exact b5 j hj
/-- a class change touches the present state and the router alone -/
def onlyP (Z Z' : ZZ) : Prop := (∀ k j, (k < 13 ∨ 38 < k) → gI Z' k j = gI Z k j) ∧ ∀ k, k ≠ 19 → gL Z' k = gL Z k
theorem onlyP_rf (Z : ZZ) : onlyP Z Z := ⟨fun _ _ _ => rfl, fun _ _ => rfl⟩
theorem onlyP_tr {A B C : ZZ} (h1 : onlyP A B) (h2 : onlyP B C) : onlyP A C := ⟨fun k j h => (h2.1 k j h).trans (h1.1 k j h), fun k h => (h2.2 k h).trans (h1.2 k h)⟩
theorem onlyP_R {A B : ZZ} (h : onlyR A B) : onlyP A B := ⟨fun k j hk => h.1 k j (by omega), fun k _ => h.2 k⟩
theorem onlyP_pI {A B : ZZ} {q j : Nat} {x : Int32} (h : onlyP A B) (hq : 13 ≤ q ∧ q ≤ 38) : onlyP A (pI B q j x) := ⟨fun k i hk => by rw [gI_pI_k _ _ _ _ (by omega)]; exact h.1 k i hk, h.2⟩
theorem onlyP_pL {A B : ZZ} {x : Int64} (h : onlyP A B) : onlyP A (pL B 19 x) := ⟨h.1, fun k hk => by rw [gL_pL, if_neg hk]; exact h.2 k hk⟩
theorem rB_keep {N : NN} {Z Z' : ZZ} {b : Nat} (h : rB N Z b) (h5 : N 3 ≤ 5) (hk : ∀ k j, b ≤ k → k < b + 20 → gI Z' k j = gI Z k j) (hl : gL Z' b = gL Z b) : rB N Z' b := by
  obtain ⟨hb, ⟨a0, a1, a2, a3, a4, a5⟩, am, aT, aU, aC⟩ := h
  refine ⟨hb, ⟨?_, ?_, ?_, ?_, ?_, ?_⟩, ?_, fun i hi => ?_, fun i hi => ?_, fun i hi => ?_⟩
  · rw [hk _ _ (by omega) (by omega)]; exact a0
  · rw [hk _ _ (by omega) (by omega)]; exact a1
  · rw [hk _ _ (by omega) (by omega)]; exact a2
  · rw [hk _ _ (by omega) (by omega)]; exact a3
  · rw [hk _ _ (by omega) (by omega)]; exact a4
  · rw [hl]; exact a5
  · rw [hk _ _ (by omega) (by omega)]; exact am
  · obtain ⟨q0, q1, q2, q3⟩ := aT i hi
    rw [hk _ _ (by omega) (by omega), hk _ _ (by omega) (by omega), hk _ _ (by omega) (by omega), hk _ _ (by omega) (by omega)]
    exact ⟨q0, q1, q2, q3⟩
  · obtain ⟨q0, q1, q2⟩ := aU i hi
    rw [hk _ _ (by omega) (by omega), hk _ _ (by omega) (by omega), hk _ _ (by omega) (by omega)]
    exact ⟨q0, q1, q2⟩
  · obtain ⟨q0, q1, q2, q3, q4, q5⟩ := aC i hi
    refine ⟨?_, ?_, ?_, ?_, ?_, fun j hj => ?_⟩
    · rw [hk _ _ (by omega) (by omega)]; exact q0
    · rw [hk _ _ (by omega) (by omega)]; exact q1
    · rw [hk _ _ (by omega) (by omega)]; exact q2
    · rw [hk _ _ (by omega) (by omega)]; exact q3
    · rw [hk _ _ (by omega) (by omega)]; exact q4
    · rw [hk _ _ (by omega) (by omega)]; exact q5 j hj
theorem rB_R {N : NN} {Z Z' : ZZ} {b W : Nat} (h : rB N Z b) (hI : iN N W) (ho : onlyR Z Z') : rB N Z' b := by
  have h14 := sh14_ge (sh_X6_network h.1)
  have h19 : b ≠ 18 := fun e => by
    have := h.1
    rw [e] at this
    exact absurd this (by decide)
  exact rB_keep h hI.1.2.2.2.1 (fun k j h1 h2 => ho.1 k j (by omega)) (ho.2 b)
/-- a reference change touches its present array and the search's rows alone -/
def onlyM (Z Z' : ZZ) : Prop := (∀ k j, k ≠ 1 → k ≠ 6 → k ≠ 7 → k ≠ 8 → (k = 0 → j ≠ 13) → gI Z' k j = gI Z k j) ∧ ∀ k, gL Z' k = gL Z k
theorem onlyM_rf (Z : ZZ) : onlyM Z Z := ⟨fun _ _ _ _ _ _ _ => rfl, fun _ => rfl⟩
theorem onlyM_tr {A B C : ZZ} (h1 : onlyM A B) (h2 : onlyM B C) : onlyM A C := ⟨fun k j a b c d e => (h2.1 k j a b c d e).trans (h1.1 k j a b c d e), fun k => (h2.2 k).trans (h1.2 k)⟩
theorem onlyM_F {A B : ZZ} (h : onlyF A B) : onlyM A B := ⟨fun k j _ b c d e => h.1 k j b c d e, h.2⟩
def only1 (Z Z' : ZZ) : Prop := (∀ k j, k ≠ 1 → gI Z' k j = gI Z k j) ∧ ∀ k, gL Z' k = gL Z k
theorem only1_rf (Z : ZZ) : only1 Z Z := ⟨fun _ _ _ => rfl, fun _ => rfl⟩
theorem only1_tr {A B C : ZZ} (h1 : only1 A B) (h2 : only1 B C) : only1 A C := ⟨fun k j a => (h2.1 k j a).trans (h1.1 k j a), fun k => (h2.2 k).trans (h1.2 k)⟩
theorem only1_pI (Z : ZZ) (j : Nat) (x : Int32) : only1 Z (pI Z 1 j x) := ⟨fun k i a => gI_pI_k _ _ _ _ a, fun _ => rfl⟩
theorem onlyM_1 {A B : ZZ} (h : only1 A B) : onlyM A B := ⟨fun k j a _ _ _ _ => h.1 k j a, h.2⟩
theorem rA_s {N : NN} {Z : ZZ} {k v : Nat} (h : rA N Z 1) : rA (sN N k v) (pI Z 1 k (nI v)) 1 := fun j hj => by
  by_cases c : j = k
  · rw [c, gI_pI_s, sN_s]
  · rw [gI_pI_j _ _ _ _ c, sN_n c]; exact h j hj
theorem m_setT {N : NN} {Z : ZZ} {i o v : Nat} {x : Int32} (h : rA N Z 1) (hi : 8 + 5 * i + o < 180) (hx : x = nI o) : ∃ Z', sX8_setTrunk (nI i) x (nI v) Z = some Z' ∧ rA (sT N i o v) Z' 1 ∧ only1 Z Z' := by
  subst hx
  refine ⟨_, ?_, rA_s h, only1_pI Z (8 + 5 * i + o) (nI v)⟩
  unfold sX8_setTrunk
  rw [show (8 : Int32) = nI 8 from rfl, show (5 : Int32) = nI 5 from rfl, pk_mul, nI_add, nI_add, gd_t (vin_n (by omega) (by decide)), cl_n (by omega), nm_d]
theorem m_setC {N : NN} {Z : ZZ} {i o v : Nat} {x : Int32} (h : rA N Z 1) (hi : 118 + 12 * i + o < 180) (hx : x = nI o) : ∃ Z', sX8_setCall (nI i) x (nI v) Z = some Z' ∧ rA (sC N i o v) Z' 1 ∧ only1 Z Z' := by
  subst hx
  refine ⟨_, ?_, rA_s h, only1_pI Z (118 + 12 * i + o) (nI v)⟩
  unfold sX8_setCall
  rw [show (118 : Int32) = nI 118 from rfl, show (12 : Int32) = nI 12 from rfl, pk_mul, nI_add, nI_add, gd_t (vin_n (by omega) (by decide)), cl_n (by omega), nm_d]
theorem g0 {N : NN} {Z : ZZ} (h : rA N Z 1) : gI Z 1 (0 : Int32).toNatClampNeg = nI (N 0) := h 0 (by decide)
theorem g1 {N : NN} {Z : ZZ} (h : rA N Z 1) : gI Z 1 (1 : Int32).toNatClampNeg = nI (N 1) := h 1 (by decide)
theorem g2 {N : NN} {Z : ZZ} (h : rA N Z 1) : gI Z 1 (2 : Int32).toNatClampNeg = nI (N 2) := h 2 (by decide)
theorem g3 {N : NN} {Z : ZZ} (h : rA N Z 1) : gI Z 1 (3 : Int32).toNatClampNeg = nI (N 3) := h 3 (by decide)
theorem g4 {N : NN} {Z : ZZ} (h : rA N Z 1) : gI Z 1 (4 : Int32).toNatClampNeg = nI (N 4) := h 4 (by decide)
theorem g5 {N : NN} {Z : ZZ} (h : rA N Z 1) : gI Z 1 (5 : Int32).toNatClampNeg = nI (N 5) := h 5 (by decide)
/-! a switch, a trunk, a subscriber more -/
def aSw (N : NN) : NN := sN N 0 (N 0 + 1)
def aTr (N : NN) (a b l : Nat) : NN := sN (sT (sT (sT (sT (sT N (N 1) 0 a) (N 1) 1 b) (N 1) 2 l) (N 1) 3 0) (N 1) 4 0) 1 (N 1 + 1)
def aSu (N : NN) (h t : Nat) : NN := sN (sU (sU (sU N (N 2) 0 h) (N 2) 1 t) (N 2) 2 0) 2 (N 2 + 1)
theorem m_sw {N : NN} {Z : ZZ} (h : rA N Z 1) : ∃ Z', sX8_addsSwitch Z = some (nI (N 0), Z') ∧ rA (aSw N) Z' 1 ∧ only1 Z Z' := by
  refine ⟨pI Z 1 0 (nI (N 0 + 1)), ?_, rA_s h, only1_pI _ _ _⟩
  unfold sX8_addsSwitch
  rw [gd_t (by decide), gd_t (by decide), g0 h, ad_n1, nm_d, gd_t (by decide), show ((0 : Int32).toNatClampNeg) = 0 from by decide, gI_pI_s, nI_pred]
theorem m_tr {N : NN} {Z : ZZ} {a b l : Nat} (h : rA N Z 1) (hn : N 1 < 16) : ∃ Z', sX8_lays (nI a) (nI b) (nI l) Z = some (nI (N 1), Z') ∧ rA (aTr N a b l) Z' 1 ∧ only1 Z Z' := by
  obtain ⟨Z1, c1, r1, o1⟩ := m_setT (v := a) (x := 0) (o := 0) (i := N 1) h (by omega) rfl
  obtain ⟨Z2, c2, r2, o2⟩ := m_setT (v := b) (x := 1) (o := 1) (i := N 1) r1 (by omega) rfl
  obtain ⟨Z3, c3, r3, o3⟩ := m_setT (v := l) (x := 2) (o := 2) (i := N 1) r2 (by omega) rfl
  obtain ⟨Z4, c4, r4, o4⟩ := m_setT (v := 0) (x := 3) (o := 3) (i := N 1) r3 (by omega) rfl
  obtain ⟨Z5, c5, r5, o5⟩ := m_setT (v := 0) (x := 4) (o := 4) (i := N 1) r4 (by omega) rfl
  have e1 : (sT (sT (sT (sT (sT N (N 1) 0 a) (N 1) 1 b) (N 1) 2 l) (N 1) 3 0) (N 1) 4 0) 1 = N 1 := by
    rw [sT_0 (by decide), sT_0 (by decide), sT_0 (by decide), sT_0 (by decide), sT_0 (by decide)]
  refine ⟨pI Z5 1 1 (nI (N 1 + 1)), ?_, rA_s r5, only1_tr o1 (only1_tr o2 (only1_tr o3 (only1_tr o4 (only1_tr o5 (only1_pI _ _ _)))))⟩
  unfold sX8_lays
  rw [gd_t (by decide), nm_d, g1 h, c1, bnd_s, c2, bnd_s, c3, bnd_s]
  rw [show sX8_setTrunk (nI (N 1)) 3 0 Z3 = some Z4 from c4, bnd_s, show sX8_setTrunk (nI (N 1)) 4 0 Z4 = some Z5 from c5, bnd_s, gd_t (by decide), gd_t (by decide), g1 r5, e1, ad_n1, nm_d]
  rfl
theorem m_su {N : NN} {Z : ZZ} {a b : Nat} (h : rA N Z 1) (hn : N 2 < 10) : ∃ Z', sX8_joins (nI a) (nI b) Z = some (nI (N 2), Z') ∧ rA (aSu N a b) Z' 1 ∧ only1 Z Z' := by
  have r1 : rA (sU N (N 2) 0 a) (pI Z 1 (88 + 3 * N 2 + 0) (nI a)) 1 := rA_s h
  have r2 : rA (sU (sU N (N 2) 0 a) (N 2) 1 b) (pI (pI Z 1 (88 + 3 * N 2 + 0) (nI a)) 1 (88 + 3 * N 2 + 1) (nI b)) 1 := rA_s r1
  have r3 : rA (sU (sU (sU N (N 2) 0 a) (N 2) 1 b) (N 2) 2 0) (pI (pI (pI Z 1 (88 + 3 * N 2 + 0) (nI a)) 1 (88 + 3 * N 2 + 1) (nI b)) 1 (88 + 3 * N 2 + 2) (nI 0)) 1 := rA_s r2
  have e1 : (sU (sU (sU N (N 2) 0 a) (N 2) 1 b) (N 2) 2 0) 2 = N 2 := by
    rw [sU_0 (by decide), sU_0 (by decide), sU_0 (by decide)]
  refine ⟨pI (pI (pI (pI Z 1 (88 + 3 * N 2 + 0) (nI a)) 1 (88 + 3 * N 2 + 1) (nI b)) 1 (88 + 3 * N 2 + 2) (nI 0)) 1 2 (nI (N 2 + 1)), ?_, rA_s r3, only1_tr (only1_pI _ _ _) (only1_tr (only1_pI _ _ _) (only1_tr (only1_pI _ _ _) (only1_pI _ _ _)))⟩
  have v0 : (88 + (3 * nI (N 2))) + 0 = nI (88 + 3 * N 2 + 0) := by
    rw [show (88 : Int32) = nI 88 from rfl, show (3 : Int32) = nI 3 from rfl, show (0 : Int32) = nI 0 from rfl, pk_mul, nI_add, nI_add]
  have v1 : (88 + (3 * nI (N 2))) + 1 = nI (88 + 3 * N 2 + 1) := by
    rw [show (88 : Int32) = nI 88 from rfl, show (3 : Int32) = nI 3 from rfl, show (1 : Int32) = nI 1 from rfl, pk_mul, nI_add, nI_add]
  have v2 : (88 + (3 * nI (N 2))) + 2 = nI (88 + 3 * N 2 + 2) := by
    rw [show (88 : Int32) = nI 88 from rfl, show (3 : Int32) = nI 3 from rfl, show (2 : Int32) = nI 2 from rfl, pk_mul, nI_add, nI_add]
  unfold sX8_joins
  rw [gd_t (by decide), nm_d, g2 h, v0, v1, v2, gd_t (vin_n (by omega) (by decide)), cl_n (by omega), nm_d, gd_t (vin_n (by omega) (by decide)), cl_n (by omega), nm_d, gd_t (vin_n (by omega) (by decide)), cl_n (by omega), nm_d, gd_t (by decide), gd_t (by decide)]
  rw [show (0 : Int32) = nI 0 from rfl, g2 r3, e1, ad_n1, nm_d]
  rfl
theorem iN_sw {N : NN} {W : Nat} (hI : iN N W) (h : N 0 < 8) : iN (aSw N) (W + 1) := by
  obtain ⟨⟨h0, h1, h2, h3, h4⟩, hT, hTz, hU, hUz, hC, hD, hS, hB⟩ := hI
  have eT : ∀ i o, nT (aSw N) i o = nT N i o := fun i o => nT_s0 (by decide)
  have eU : ∀ i o, nU (aSw N) i o = nU N i o := fun i o => nU_s0 (by decide)
  have eC : ∀ i o, nC (aSw N) i o = nC N i o := fun i o => nC_s0 (by decide)
  have eO := onC_eq eC
  have e0 : aSw N 0 = N 0 + 1 := sN_s _ _ _
  have e1 : aSw N 1 = N 1 := sN_n (by decide)
  have e2 : aSw N 2 = N 2 := sN_n (by decide)
  have e3 : aSw N 3 = N 3 := sN_n (by decide)
  have e4 : aSw N 4 = N 4 := sN_n (by decide)
  have e5 : aSw N 5 = N 5 := sN_n (by decide)
  unfold iN
  simp only [eT, eU, eC, eO, e0, e1, e2, e3, e4, e5]
  refine ⟨⟨by omega, h1, h2, h3, by omega⟩, fun i hi => ?_, hTz, fun i hi => ?_, hUz, fun i hi => ?_, hD, hS, by omega⟩
  · obtain ⟨a, b, c, d, e, f, g⟩ := hT i hi
    exact ⟨by omega, by omega, c, d, e, f, by omega⟩
  · have := hU i hi
    exact ⟨by omega, this.2⟩
  · obtain ⟨a, b, c, d, e, f⟩ := hC i hi
    exact ⟨a, b, c, by omega, e, f⟩
theorem iN_tr {N : NN} {W a b l : Nat} (hI : iN N W) (h : N 1 < 16) (ha : a < N 0) (hb : b < N 0) (hab : a ≠ b) (hl : 1 ≤ l ∧ l ≤ 20) : iN (aTr N a b l) (W + 1) := by
  obtain ⟨⟨h0, h1, h2, h3, h4⟩, hT, hTz, hU, hUz, hC, hD, hS, hB⟩ := hI
  have f0 : ∀ i, nT (aTr N a b l) i 0 = if i = N 1 then a else nT N i 0 := fun i => by simp [aTr, nT_s0, nT_sT]
  have f1 : ∀ i, nT (aTr N a b l) i 1 = if i = N 1 then b else nT N i 1 := fun i => by simp [aTr, nT_s0, nT_sT]
  have f2 : ∀ i, nT (aTr N a b l) i 2 = if i = N 1 then l else nT N i 2 := fun i => by simp [aTr, nT_s0, nT_sT]
  have f3 : ∀ i, nT (aTr N a b l) i 3 = if i = N 1 then 0 else nT N i 3 := fun i => by simp [aTr, nT_s0, nT_sT]
  have f4 : ∀ i, nT (aTr N a b l) i 4 = if i = N 1 then 0 else nT N i 4 := fun i => by simp [aTr, nT_s0, nT_sT]
  have fn : ∀ i o, i ≠ N 1 → o < 5 → nT (aTr N a b l) i o = nT N i o := fun i o hi ho => by simp [aTr, nT_s0, nT_sT, hi, ho]
  have eU : ∀ i o, nU (aTr N a b l) i o = nU N i o := fun i o => by simp [aTr, nU_s0, nU_sT, h]
  have eC : ∀ i o, nC (aTr N a b l) i o = nC N i o := fun i o => by simp [aTr, nC_s0, nC_sT, h]
  have eO := onC_eq eC
  have e1 : aTr N a b l 1 = N 1 + 1 := sN_s _ _ _
  have ek : ∀ k, k ≠ 1 → k < 8 → aTr N a b l k = N k := fun k hk hk8 => by simp [aTr, sN_n hk, sT_0 hk8]
  have e0 := ek 0 (by decide) (by decide)
  have e2 := ek 2 (by decide) (by decide)
  have e3 := ek 3 (by decide) (by decide)
  have e4 := ek 4 (by decide) (by decide)
  have e5 := ek 5 (by decide) (by decide)
  unfold iN
  simp only [f0, f1, f2, f3, f4, eU, eC, eO, e0, e1, e2, e3, e4, e5]
  refine ⟨⟨h0, by omega, h2, h3, by omega⟩, fun i hi => ?_, fun i i1 i2 o ho => ?_, hU, hUz, fun i hi => ?_, hD, hS, by omega⟩
  · by_cases c : i = N 1
    · simp only [if_pos c]; omega
    · simp only [if_neg c]
      obtain ⟨a, b, c, d, e, f, g⟩ := hT i (by omega)
      exact ⟨a, b, c, d, e, f, by omega⟩
  · rw [fn i o (by omega) ho]; exact hTz i (by omega) i2 o ho
  · obtain ⟨a, b, c, d, e, f⟩ := hC i hi
    refine ⟨a, b, c, by omega, e, fun j hj => ⟨by have := (f j hj).1; omega, ?_⟩⟩
    split
    · omega
    · exact (f j hj).2
theorem iN_su {N : NN} {W a b : Nat} (hI : iN N W) (h : N 2 < 10) (ha : a < N 0) (hb : b ≤ 2) : iN (aSu N a b) (W + 1) := by
  obtain ⟨⟨h0, h1, h2, h3, h4⟩, hT, hTz, hU, hUz, hC, hD, hS, hB⟩ := hI
  have f0 : ∀ i, nU (aSu N a b) i 0 = if i = N 2 then a else nU N i 0 := fun i => by simp [aSu, nU_s0, nU_sU]
  have f1 : ∀ i, nU (aSu N a b) i 1 = if i = N 2 then b else nU N i 1 := fun i => by simp [aSu, nU_s0, nU_sU]
  have f2 : ∀ i, nU (aSu N a b) i 2 = if i = N 2 then 0 else nU N i 2 := fun i => by simp [aSu, nU_s0, nU_sU]
  have fn : ∀ i o, i ≠ N 2 → o < 3 → nU (aSu N a b) i o = nU N i o := fun i o hi ho => by simp [aSu, nU_s0, nU_sU, hi, ho]
  have eT : ∀ i o, i < 16 → o < 5 → nT (aSu N a b) i o = nT N i o := fun i o hi ho => by simp [aSu, nT_s0, nT_sU, hi, ho]
  have eC : ∀ i o, nC (aSu N a b) i o = nC N i o := fun i o => by simp [aSu, nC_s0, nC_sU, h]
  have eO := onC_eq eC
  have e2 : aSu N a b 2 = N 2 + 1 := sN_s _ _ _
  have ek : ∀ k, k ≠ 2 → k < 8 → aSu N a b k = N k := fun k hk hk8 => by simp [aSu, sN_n hk, sU_0 hk8]
  have e0 := ek 0 (by decide) (by decide)
  have e1 := ek 1 (by decide) (by decide)
  have e3 := ek 3 (by decide) (by decide)
  have e4 := ek 4 (by decide) (by decide)
  have e5 := ek 5 (by decide) (by decide)
  have hS' : sumf (fun i => if i = N 2 then 0 else nU N i 2) (N 2 + 1) = N 5 := by
    unfold sumf
    rw [if_pos rfl, sumf_congr (g := fun i => nU N i 2) (fun i hi => if_neg (by omega))]
    exact hS
  unfold iN
  simp only [f0, f1, f2, eC, eO, e0, e1, e2, e3, e4, e5]
  refine ⟨⟨h0, h1, by omega, h3, by omega⟩, fun i hi => ?_, fun i i1 i2 o ho => ?_, fun i hi => ?_, fun i i1 i2 o ho => ?_, fun i hi => ?_, hD, hS', by omega⟩
  · rw [eT i 0 (by omega) (by decide), eT i 1 (by omega) (by decide), eT i 2 (by omega) (by decide), eT i 3 (by omega) (by decide), eT i 4 (by omega) (by decide)]
    obtain ⟨a, b, c, d, e, f, g⟩ := hT i (by omega)
    exact ⟨a, b, c, d, e, f, by omega⟩
  · rw [eT i o (by omega) ho]; exact hTz i i1 i2 o ho
  · by_cases c : i = N 2
    · simp only [if_pos c]; omega
    · simp only [if_neg c]
      exact hU i (by omega)
  · rw [fn i o (by omega) ho]; exact hUz i (by omega) i2 o ho
  · obtain ⟨a, b, c, d, e, f⟩ := hC i hi
    refine ⟨by omega, by omega, c, by omega, e, fun j hj => ⟨(f j hj).1, ?_⟩⟩
    rw [eT _ 3 (by have := (f j hj).1; omega) (by decide)]
    exact (f j hj).2
theorem c_sw {N : NN} {Z : ZZ} {W : Nat} (hB : rB N Z 19) (hI : iN N W) : ∃ Z', sX3_attachSwitch (19 + 1) Z = some (nI (N 0), Z') ∧ rB (aSw N) Z' 19 ∧ onlyP Z Z' := by
  obtain ⟨⟨a0, a1, a2, a3, a4, a5⟩, am, aT, aU, aC⟩ := rB19.1 hB
  have eT : ∀ i o, nT (aSw N) i o = nT N i o := fun i o => nT_s0 (by decide)
  have eU : ∀ i o, nU (aSw N) i o = nU N i o := fun i o => nU_s0 (by decide)
  have eC : ∀ i o, nC (aSw N) i o = nC N i o := fun i o => nC_s0 (by decide)
  have e0 : aSw N 0 = N 0 + 1 := sN_s _ _ _
  have ek : ∀ k, k ≠ 0 → aSw N k = N k := fun k hk => sN_n hk
  have hk : ∀ k j, k ≠ 20 → gI (pI Z 20 0 (nI (N 0 + 1))) k j = gI Z k j := fun k j h => gI_pI_k _ _ _ _ h
  refine ⟨pI Z 20 0 (nI (N 0 + 1)), ?_, rB19.2 ?_, onlyP_pI (onlyP_rf Z) (by decide)⟩
  · show sX3_attachSwitch 20 Z = _
    unfold sX3_attachSwitch
    rw [gd_t (by decide), nm_d, a0, ad_n1]
  · refine ⟨⟨?_, ?_, ?_, ?_, ?_, ?_⟩, ?_, fun i hi => ?_, fun i hi => ?_, rBc_of aC hI (fun k j h1 _ => hk k j (by omega)) (ek 3 (by decide)) (fun i o _ _ => eC i o) (fun x _ => eT x 2)⟩
    · rw [gI_pI_s, e0]
    · rw [gI_pI_j _ _ _ _ (by decide), ek 1 (by decide)]; exact a1
    · rw [hk _ _ (by decide), ek 2 (by decide)]; exact a2
    · rw [hk _ _ (by decide), ek 3 (by decide)]; exact a3
    · rw [hk _ _ (by decide), ek 4 (by decide)]; exact a4
    · rw [gL_pI, ek 5 (by decide)]; exact a5
    · rw [gI_pI_j _ _ _ _ (by decide)]; simp only [eT]; exact am
    · simp only [eT, hk _ _ (show (21 : Nat) ≠ 20 by decide), hk _ _ (show (22 : Nat) ≠ 20 by decide), hk _ _ (show (23 : Nat) ≠ 20 by decide), hk _ _ (show (24 : Nat) ≠ 20 by decide)]
      exact aT i hi
    · simp only [eU, hk _ _ (show (25 : Nat) ≠ 20 by decide), hk _ _ (show (26 : Nat) ≠ 20 by decide), hk _ _ (show (27 : Nat) ≠ 20 by decide)]
      exact aU i hi
theorem c_tr {N : NN} {Z : ZZ} {W a b l : Nat} (hB : rB N Z 19) (hI : iN N W) (hn : N 1 < 16) : ∃ Z', sX3_attachTrunk (19 + 1) (nI a) (nI b) (nI l) Z = some (nI (N 1), Z') ∧ rB (aTr N a b l) Z' 19 ∧ onlyP Z Z' := by
  obtain ⟨⟨a0, a1, a2, a3, a4, a5⟩, am, aT, aU, aC⟩ := rB19.1 hB
  have hTz := hI.2.2.1 (N 1) (Nat.le_refl _) hn
  have f0 : ∀ i, nT (aTr N a b l) i 0 = if i = N 1 then a else nT N i 0 := fun i => by simp [aTr, nT_s0, nT_sT]
  have f1 : ∀ i, nT (aTr N a b l) i 1 = if i = N 1 then b else nT N i 1 := fun i => by simp [aTr, nT_s0, nT_sT]
  have f2 : ∀ i, nT (aTr N a b l) i 2 = if i = N 1 then l else nT N i 2 := fun i => by simp [aTr, nT_s0, nT_sT]
  have f3 : ∀ i, nT (aTr N a b l) i 3 = nT N i 3 := fun i => by
    have := hTz 3 (by decide)
    by_cases c : i = N 1
    · simp [aTr, nT_s0, nT_sT, c, this]
    · simp [aTr, nT_s0, nT_sT, c]
  have f4 : ∀ i, nT (aTr N a b l) i 4 = nT N i 4 := fun i => by
    have := hTz 4 (by decide)
    by_cases c : i = N 1
    · simp [aTr, nT_s0, nT_sT, c, this]
    · simp [aTr, nT_s0, nT_sT, c]
  have eU : ∀ i o, nU (aTr N a b l) i o = nU N i o := fun i o => by simp [aTr, nU_s0, nU_sT, hn]
  have eC : ∀ i o, nC (aTr N a b l) i o = nC N i o := fun i o => by simp [aTr, nC_s0, nC_sT, hn]
  have e1 : aTr N a b l 1 = N 1 + 1 := sN_s _ _ _
  have ek : ∀ k, k ≠ 1 → k < 8 → aTr N a b l k = N k := fun k hk hk8 => by simp [aTr, sN_n hk, sT_0 hk8]
  refine ⟨pI (pI (pI (pI Z 21 (N 1) (nI a)) 22 (N 1) (nI b)) 23 (N 1) (nI l)) 20 1 (nI (N 1 + 1)), ?_, rB19.2 ?_, onlyP_pI (onlyP_pI (onlyP_pI (onlyP_pI (onlyP_rf Z) (by decide)) (by decide)) (by decide)) (by decide)⟩
  · show sX3_attachTrunk 20 (nI a) (nI b) (nI l) Z = _
    unfold sX3_attachTrunk
    rw [gd_t (by decide), nm_d, a1, if_pos (ltl hn (by decide)), gd_t (vin_n (by omega) (by decide)), nm_d, gd_t (vin_n (by omega) (by decide)), nm_d, gd_t (vin_n (by omega) (by decide)), nm_d, cl_n (by omega), nm_d, gI_pI_k _ _ _ _ (by decide), gI_pI_k _ _ _ _ (by decide), gI_pI_k _ _ _ _ (by decide), a1, ad_n1]
  · refine ⟨⟨?_, ?_, ?_, ?_, ?_, ?_⟩, ?_, fun i hi => ?_, fun i hi => ?_, rBc_of aC hI (fun k j h1 _ => by rw [gI_pI_k _ _ _ _ (by omega), gI_pI_k _ _ _ _ (by omega), gI_pI_k _ _ _ _ (by omega), gI_pI_k _ _ _ _ (by omega)]) (ek 3 (by decide) (by decide)) (fun i o _ _ => eC i o) (fun x hx => by rw [f2, if_neg (by omega)])⟩
    · rw [ek 0 (by decide) (by decide)]; simpa [gI_pI] using a0
    · rw [gI_pI_s, e1]
    · rw [ek 2 (by decide) (by decide)]; simpa [gI_pI] using a2
    · rw [ek 3 (by decide) (by decide)]; simpa [gI_pI] using a3
    · rw [ek 4 (by decide) (by decide)]; simpa [gI_pI] using a4
    · rw [ek 5 (by decide) (by decide)]; exact a5
    · simp only [f3]; simpa [gI_pI] using am
    · obtain ⟨q0, q1, q2, q3⟩ := aT i hi
      rw [f0, f1, f2, f4]
      by_cases c : i = N 1
      · subst c; simp [gI_pI]; exact q3
      · simp [gI_pI, c]; exact ⟨q0, q1, q2, q3⟩
    · simp only [eU]; simpa [gI_pI] using aU i hi
theorem c_su {N : NN} {Z : ZZ} {W a b : Nat} (hB : rB N Z 19) (hI : iN N W) (hn : N 2 < 10) : ∃ Z', sX6_attachSubscriber 19 (nI a) (nI b) Z = some (nI (N 2), Z') ∧ rB (aSu N a b) Z' 19 ∧ onlyP Z Z' := by
  obtain ⟨⟨a0, a1, a2, a3, a4, a5⟩, am, aT, aU, aC⟩ := rB19.1 hB
  have h16 := hI.1.2.1
  have hUz := hI.2.2.2.2.1 (N 2) (Nat.le_refl _) hn
  have f0 : ∀ i, nU (aSu N a b) i 0 = if i = N 2 then a else nU N i 0 := fun i => by simp [aSu, nU_s0, nU_sU]
  have f1 : ∀ i, nU (aSu N a b) i 1 = if i = N 2 then b else nU N i 1 := fun i => by simp [aSu, nU_s0, nU_sU]
  have f2 : ∀ i, nU (aSu N a b) i 2 = nU N i 2 := fun i => by
    have := hUz 2 (by decide)
    by_cases c : i = N 2
    · simp [aSu, nU_s0, nU_sU, c, this]
    · simp [aSu, nU_s0, nU_sU, c]
  have eT : ∀ i o, i < 16 → o < 5 → nT (aSu N a b) i o = nT N i o := fun i o hi ho => by simp [aSu, nT_s0, nT_sU, hi, ho]
  have eC : ∀ i o, nC (aSu N a b) i o = nC N i o := fun i o => by simp [aSu, nC_s0, nC_sU, hn]
  have e2 : aSu N a b 2 = N 2 + 1 := sN_s _ _ _
  have ek : ∀ k, k ≠ 2 → k < 8 → aSu N a b k = N k := fun k hk hk8 => by simp [aSu, sN_n hk, sU_0 hk8]
  refine ⟨pI (pI (pI Z 25 (N 2) (nI a)) 26 (N 2) (nI b)) 19 1 (nI (N 2 + 1)), ?_, rB19.2 ?_, onlyP_pI (onlyP_pI (onlyP_pI (onlyP_rf Z) (by decide)) (by decide)) (by decide)⟩
  · unfold sX6_attachSubscriber
    rw [gd_t (by decide), nm_d, a2, if_pos (ltl hn (by decide)), gd_t (vin_n (by omega) (by decide)), nm_d, gd_t (vin_n (by omega) (by decide)), nm_d, cl_n (by omega), nm_d, gI_pI_k _ _ _ _ (by decide), gI_pI_k _ _ _ _ (by decide), a2, ad_n1]
  · refine ⟨⟨?_, ?_, ?_, ?_, ?_, ?_⟩, ?_, fun i hi => ?_, fun i hi => ?_, rBc_of aC hI (fun k j h1 _ => by rw [gI_pI_k _ _ _ _ (by omega), gI_pI_k _ _ _ _ (by omega), gI_pI_k _ _ _ _ (by omega)]) (ek 3 (by decide) (by decide)) (fun i o _ _ => eC i o) (fun x hx => eT x 2 (by omega) (by decide))⟩
    · rw [ek 0 (by decide) (by decide)]; simpa [gI_pI] using a0
    · rw [ek 1 (by decide) (by decide)]; simpa [gI_pI] using a1
    · rw [gI_pI_s, e2]
    · rw [ek 3 (by decide) (by decide)]; simpa [gI_pI] using a3
    · rw [ek 4 (by decide) (by decide)]; simpa [gI_pI] using a4
    · rw [ek 5 (by decide) (by decide)]; exact a5
    · rw [msk_congr (q := fun i => decide (nT N i 3 = 1)) (fun i hi => by rw [eT i 3 hi (by decide)])]; simpa [gI_pI] using am
    · rw [eT i 0 hi (by decide), eT i 1 hi (by decide), eT i 2 hi (by decide), eT i 4 hi (by decide)]; simpa [gI_pI] using aT i hi
    · obtain ⟨q0, q1, q2⟩ := aU i hi
      rw [f0, f1, f2]
      by_cases c : i = N 2
      · subst c; simp [gI_pI]; exact q2
      · simp [gI_pI, c]; exact ⟨q0, q1, q2⟩
