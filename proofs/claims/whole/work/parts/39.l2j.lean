/-! the reference: its arrays, the calls over a trunk, free trunks -/
/-- the reference's array at q (1 now, 2 before, 3 saved) holds N -/
def rA (N : NN) (Z : ZZ) (q : Nat) : Prop := ∀ j, j < 180 → gI Z q j = nI (N j)
theorem rA_i {N : NN} {Z : ZZ} {q j : Nat} (h : rA N Z q) (hj : j < 180) : gI Z q j = nI (N j) := h j hj
theorem p_t_x {N : NN} {Z : ZZ} {i o : Nat} {x : Int32} (h : rA N Z 1) (hi : 8 + 5 * i + o < 180) (hx : x = nI o) : sX8_t (nI i) x Z = some (nI (nT N i o), Z) := by
  subst hx
  unfold sX8_t nT
  rw [show (8 : Int32) = nI 8 from rfl, show (5 : Int32) = nI 5 from rfl, pk_mul, nI_add, nI_add, gd_t (vin_n (by omega) (by decide)), cl_n (by omega), h _ (by omega)]
theorem p_t0 {N : NN} {Z : ZZ} {i : Nat} (h : rA N Z 1) (hi : i < 16) : sX8_t (nI i) 0 Z = some (nI (nT N i 0), Z) := p_t_x h (by omega) rfl
theorem p_t1 {N : NN} {Z : ZZ} {i : Nat} (h : rA N Z 1) (hi : i < 16) : sX8_t (nI i) 1 Z = some (nI (nT N i 1), Z) := p_t_x h (by omega) rfl
theorem p_t2 {N : NN} {Z : ZZ} {i : Nat} (h : rA N Z 1) (hi : i < 16) : sX8_t (nI i) 2 Z = some (nI (nT N i 2), Z) := p_t_x h (by omega) rfl
theorem p_t3 {N : NN} {Z : ZZ} {i : Nat} (h : rA N Z 1) (hi : i < 16) : sX8_t (nI i) 3 Z = some (nI (nT N i 3), Z) := p_t_x h (by omega) rfl
theorem p_t4 {N : NN} {Z : ZZ} {i : Nat} (h : rA N Z 1) (hi : i < 16) : sX8_t (nI i) 4 Z = some (nI (nT N i 4), Z) := p_t_x h (by omega) rfl
theorem p_u_x {N : NN} {Z : ZZ} {i o : Nat} {x : Int32} (h : rA N Z 1) (hi : 88 + 3 * i + o < 180) (hx : x = nI o) : sX8_u (nI i) x Z = some (nI (nU N i o), Z) := by
  subst hx
  unfold sX8_u nU
  rw [show (88 : Int32) = nI 88 from rfl, show (3 : Int32) = nI 3 from rfl, pk_mul, nI_add, nI_add, gd_t (vin_n (by omega) (by decide)), cl_n (by omega), h _ (by omega)]
theorem p_c_x {N : NN} {Z : ZZ} {i o : Nat} {x : Int32} (h : rA N Z 1) (hi : 118 + 12 * i + o < 180) (hx : x = nI o) : sX8_c (nI i) x Z = some (nI (nC N i o), Z) := by
  subst hx
  unfold sX8_c nC
  rw [show (118 : Int32) = nI 118 from rfl, show (12 : Int32) = nI 12 from rfl, pk_mul, nI_add, nI_add, gd_t (vin_n (by omega) (by decide)), cl_n (by omega), h _ (by omega)]
theorem p_passes_L {N : NN} {Z : ZZ} {W i x : Nat} (hA : rA N Z 1) (hI : iN N W) (hi : i < N 3) (hx : x < 2 ^ 31) : ∀ (e k n : Nat), k + e = nC N i 3 → e < n → (∀ j, j < k → nC N i (4 + j) ≠ x) → sX8_passesOver_L2 (nI i) (nI x) n (nI k) Z = some (if onC N i x then 1 else 0, Z) := by
  have h5 := hI.1.2.2.2.1
  have h16 := hI.1.2.1
  obtain ⟨-, -, -, -, c3, c4⟩ := hI.2.2.2.2.2.1 i hi
  intro e
  induction e with
  | zero =>
    intro k n hk hn hj
    obtain ⟨n, rfl⟩ : ∃ q, n = q + 1 := ⟨n - 1, by omega⟩
    have e : onC N i x = false := decide_eq_false (fun ⟨j, j1, j2⟩ => hj j (by omega) j2)
    rw [sX8_passesOver_L2, p_c_x (x := 3) hA (o := 3) (by omega) rfl, bnd_s, if_pos (nI_le (by omega) (by omega)), e]
    rfl
  | succ e ih =>
    intro k n hk hn hj
    obtain ⟨n, rfl⟩ : ∃ q, n = q + 1 := ⟨n - 1, by omega⟩
    obtain ⟨t1, -⟩ := c4 k (by omega)
    rw [sX8_passesOver_L2, p_c_x (x := 3) hA (o := 3) (by omega) rfl, bnd_s, if_neg (nI_ge (by omega) (by omega)), show (4 : Int32) = nI 4 from rfl, nI_add, p_c_x hA (o := 4 + k) (by omega) rfl, bnd_s]
    simp only [eq_nn (show nC N i (4 + k) < 2 ^ 31 by omega) hx]
    by_cases c : nC N i (4 + k) = x
    · have e : onC N i x = true := decide_eq_true ⟨k, by omega, c⟩
      rw [if_pos c, e]; rfl
    · rw [if_neg c, nm_d, ad_n1]
      exact ih (k + 1) n (by omega) (by omega) (fun j hj2 => by
        by_cases q : j = k
        · rw [q]; exact c
        · exact hj j (by omega))
theorem p_passes {N : NN} {Z : ZZ} {W i x : Nat} (hA : rA N Z 1) (hI : iN N W) (hi : i < N 3) (hx : x < 2 ^ 31) : sX8_passesOver (nI i) (nI x) Z = some (if onC N i x then 1 else 0, Z) := by
  obtain ⟨-, -, -, -, c3, -⟩ := hI.2.2.2.2.2.1 i hi
  exact p_passes_L hA hI hi hx (nC N i 3) 0 3000 (by omega) (by omega) (fun j hj => by omega)
theorem p_callOn_L {N : NN} {Z : ZZ} {W x : Nat} (hA : rA N Z 1) (hI : iN N W) (hx : x < 2 ^ 31) : ∀ (e i n : Nat), i + e = N 3 → e < n → (∀ k, k < i → onC N k x = false) → sX8_callOn_L2 (nI x) n (nI i) Z = some (if usr N x < N 3 then nI (usr N x) else -1, Z) := by
  have h5 := hI.1.2.2.2.1
  intro e
  induction e with
  | zero =>
    intro i n hi hn hk
    obtain ⟨n, rfl⟩ : ∃ q, n = q + 1 := ⟨n - 1, by omega⟩
    have e : usr N x = N 3 := fnd_none (fun k hk2 => hk k (by omega))
    rw [sX8_callOn_L2, gd_t (by decide), show ((3 : Int32).toNatClampNeg) = 3 from by decide, hA 3 (by decide), if_pos (nI_le (by omega) (by omega)), e, if_neg (by omega)]
  | succ e ih =>
    intro i n hi hn hk
    obtain ⟨n, rfl⟩ : ∃ q, n = q + 1 := ⟨n - 1, by omega⟩
    rw [sX8_callOn_L2, gd_t (by decide), show ((3 : Int32).toNatClampNeg) = 3 from by decide, hA 3 (by decide), if_neg (nI_ge (by omega) (by omega)), p_passes hA hI (by omega) hx, bnd_s]
    cases c : onC N i x with
    | true =>
      have e : usr N x = i := fnd_some (by omega) hk c
      simp only [if_true]
      rw [if_neg (by decide), e, if_pos (by omega)]
    | false =>
      simp only [Bool.false_eq_true, if_false]
      rw [if_pos trivial, nm_d, ad_n1]
      exact ih (i + 1) n (by omega) (by omega) (fun k hk2 => by
        by_cases q : k = i
        · rw [q]; exact c
        · exact hk k (by omega))
theorem p_callOn {N : NN} {Z : ZZ} {W x : Nat} (hA : rA N Z 1) (hI : iN N W) (hx : x < 2 ^ 31) : sX8_callOn (nI x) Z = some (if usr N x < N 3 then nI (usr N x) else -1, Z) :=
  p_callOn_L hA hI hx (N 3) 0 3000 (by omega) (by have := hI.1.2.2.2.1; omega) (fun k hk => by omega)
/-- in service, and no call but the c-th over it -/
def frE (N : NN) (c i : Nat) : Bool := decide (nT N i 3 = 0) && decide (usr N i < N 3 → usr N i = c)
theorem frE_free {N : NN} {c i : Nat} (hc : N 3 ≤ c) (hi : i < N 1) : frE N c i = free N i := by
  unfold frE free
  rw [decide_eq_true hi, Bool.true_and]
  congr 1
  have e : used N i = decide (usr N i < N 3) := by
    unfold used
    apply decide_eq_decide.2
    constructor
    · rintro ⟨k, k1, k2⟩
      rcases Nat.lt_or_ge (usr N i) (N 3) with q | q
      · exact q
      · have := fnd_ge (p := fun k => onC N k i) (n := N 3) (by unfold usr at q; omega) k k1
        rw [k2] at this
        cases this
    · intro q
      exact ⟨usr N i, q, (fnd_lt (p := fun k => onC N k i) (n := N 3) q).1⟩
  rw [e]
  by_cases q : usr N i < N 3
  · rw [decide_eq_true q, decide_eq_false (fun h => by have := h q; omega)]; rfl
  · rw [decide_eq_false q, decide_eq_true (fun h => absurd h q)]; rfl
def cI (c : Nat) : Int32 := if c < 5 then nI c else -1
theorem p_isFree {N : NN} {Z : ZZ} {W i c : Nat} (hA : rA N Z 1) (hI : iN N W) (hi : i < N 1) (hc : c < N 3 ∨ 5 ≤ c) : sX8_isFree (nI i) (cI c) Z = some (if frE N c i then 1 else 0, Z) := by
  have h16 := hI.1.2.1
  have h5 := hI.1.2.2.2.1
  obtain ⟨-, -, -, -, -, q5, -⟩ := hI.2.1 i hi
  unfold sX8_isFree frE
  rw [p_callOn hA hI (by omega), bnd_s, nm_d, p_t3 hA (by omega), bnd_s]
  show (if nI (nT N i 3) = nI 0 then _ else _) = _
  simp only [eq_nn (show nT N i 3 < 2 ^ 31 by omega) (show 0 < 2 ^ 31 by decide)]
  by_cases e : nT N i 3 = 0
  · rw [if_pos e, decide_eq_true e, Bool.true_and]
    by_cases u : usr N i < N 3
    · rw [if_pos u, if_neg (ne_m1 (by omega))]
      by_cases e2 : usr N i = c
      · have : cI c = nI (usr N i) := by unfold cI; rw [if_pos (by omega), e2]
        rw [this, if_pos rfl, decide_eq_true (fun _ => e2)]; rfl
      · have : ¬ nI (usr N i) = cI c := by
          unfold cI
          split
          · rw [eq_nn (by omega) (by omega)]; exact e2
          · exact ne_m1 (by omega)
        rw [if_neg this, decide_eq_false (fun h => e2 (h u))]; rfl
    · rw [if_neg u, if_pos rfl, decide_eq_true (fun h => absurd h u)]; rfl
  · rw [if_neg e, decide_eq_false e]; rfl
theorem p_touches {N : NN} {Z : ZZ} {W i v : Nat} (hA : rA N Z 1) (hI : iN N W) (hi : i < N 1) (hv : v < 2 ^ 31) : sX8_touches (nI i) (nI v) Z = some (if nT N i 0 = v ∨ nT N i 1 = v then 1 else 0, Z) := by
  have h16 := hI.1.2.1
  have h8 := hI.1.1
  obtain ⟨q0, q1, -⟩ := hI.2.1 i hi
  unfold sX8_touches
  rw [p_t0 hA (by omega), bnd_s]
  simp only [eq_nn (show nT N i 0 < 2 ^ 31 by omega) hv]
  by_cases c : nT N i 0 = v
  · rw [if_pos c, if_pos (Or.inl c)]
  · rw [if_neg c, p_t1 hA (by omega), bnd_s]
    simp only [eq_nn (show nT N i 1 < 2 ^ 31 by omega) hv]
    by_cases c2 : nT N i 1 = v
    · rw [if_pos c2, if_pos (Or.inr c2)]
    · rw [if_neg c2, if_neg (fun q => q.elim c c2)]
theorem p_beyond {N : NN} {Z : ZZ} {W i v : Nat} (hA : rA N Z 1) (hI : iN N W) (hi : i < N 1) (hv : nT N i 0 = v ∨ nT N i 1 = v) : sX8_beyond (nI i) (nI v) Z = some (nI (oth N i v), Z) := by
  have h16 := hI.1.2.1
  have h8 := hI.1.1
  obtain ⟨q0, q1, -⟩ := hI.2.1 i hi
  have e : nT N i 0 + nT N i 1 = oth N i v + v := by
    unfold oth
    split
    · omega
    · omega
  unfold sX8_beyond
  rw [p_t0 hA (by omega), bnd_s, p_t1 hA (by omega), bnd_s]
  simp only [nI_add]
  rw [e, ← nI_add, Int32.add_sub_cancel]
