/-! cuts: how many usable trunks leave a set of switches; the least over the sets with a and without b -/
def cutI (N : NN) (p : Nat → Bool) (S i : Nat) : Nat := if p i && (S.testBit (nT N i 0) != S.testBit (nT N i 1)) then 1 else 0
def cutC (N : NN) (p : Nat → Bool) (S n : Nat) : Nat := sumf (cutI N p S) n
theorem cutC_le (N : NN) (p : Nat → Bool) (S n : Nat) : cutC N p S n ≤ n := by
  induction n with
  | zero => exact Nat.le_refl _
  | succ n ih =>
    have h1 : cutC N p S (n + 1) = cutC N p S n + cutI N p S n := rfl
    rw [h1]; unfold cutI; split <;> omega
def leastN (N : NN) (p : Nat → Bool) (a b : Nat) : Nat → Nat
  | 0 => 16
  | S + 1 => if S.testBit a && !S.testBit b then min (leastN N p a b S) (cutC N p S (N 1)) else leastN N p a b S
theorem leastN_le (N : NN) (p : Nat → Bool) (a b n : Nat) : leastN N p a b n ≤ 16 := by
  induction n with
  | zero => exact Nat.le_refl _
  | succ n ih => unfold leastN; split <;> omega
theorem p_leaving_L {N : NN} {W t S : Nat} {Z : ZZ} {p : Nat → Bool} (hI : iN N W) (hR : rNet N Z t) (hS : S < 2 ^ 31) : ∀ (e i n : Nat), i + e = N 1 → e < n → sX5_countLeaving_L6 t (nI (msk p 16)) (nI S) n (nI (cutC N p S i)) (nI i) Z = some (nI (cutC N p S (N 1)), Z) := by
  have h16 := hI.1.2.1
  have h8 := hI.1.1
  intro e
  induction e with
  | zero =>
    intro i n hi hn
    obtain ⟨n, rfl⟩ : ∃ q, n = q + 1 := ⟨n - 1, by omega⟩
    rw [sX5_countLeaving_L6, hR.2.2.1, if_pos (nI_le (by omega) (by omega)), show i = N 1 by omega]
  | succ e ih =>
    intro i n hi hn
    obtain ⟨n, rfl⟩ : ∃ q, n = q + 1 := ⟨n - 1, by omega⟩
    have hmk := msk_lt p 16
    obtain ⟨g0, g1, -⟩ := hR.2.2.2 i (by omega)
    obtain ⟨q0, q1, -⟩ := hI.2.1 i (by omega)
    have e1 : cutC N p S (i + 1) = cutC N p S i + cutI N p S i := rfl
    rw [sX5_countLeaving_L6, hR.2.2.1, if_neg (nI_ge (by omega) (by omega)), gd_t (vin_n (by omega) (by decide)), cl_n (by omega), g0, p_hasBit hS (by omega), bnd_s, gd_t (vin_n (by omega) (by decide)), g1, p_hasBit hS (by omega), bnd_s]
    have hih := ih (i + 1) n (by omega) (by omega)
    rw [e1] at hih
    have ebit : (if S.testBit (nT N i 0) = true then (1 : Int32) else 0) = (if S.testBit (nT N i 1) = true then (1 : Int32) else 0) ↔ S.testBit (nT N i 0) = S.testBit (nT N i 1) := by
      cases S.testBit (nT N i 0) <;> cases S.testBit (nT N i 1) <;> decide
    simp only [ebit]
    by_cases c : S.testBit (nT N i 0) = S.testBit (nT N i 1)
    · have e2 : cutI N p S i = 0 := by
        unfold cutI
        rw [if_neg]
        simp [c]
      rw [e2] at hih
      rw [if_pos c]
      unfold sX5_countLeaving_B45
      rw [if_pos rfl, nm_d, ad_n1]
      exact hih
    · rw [if_neg c]
      unfold sX5_countLeaving_B45
      rw [if_neg (by decide), p_hasBit (by omega) (by omega), bnd_s, msk_bit]
      have e3 : decide (i < 16) = true := decide_eq_true (by omega)
      rw [e3, Bool.true_and]
      cases hp : p i with
      | false =>
        have e2 : cutI N p S i = 0 := by
          unfold cutI
          rw [hp]; rfl
        rw [e2] at hih
        simp only [Bool.false_eq_true, if_false]
        rw [if_pos trivial, nm_d, ad_n1]
        exact hih
      | true =>
        have e2 : cutI N p S i = 1 := by
          unfold cutI
          rw [hp, if_pos]
          simp [c]
        rw [e2] at hih
        simp only [if_true]
        rw [if_neg (by decide), nm_d, nm_d, ad_n1, ad_n1]
        exact hih
theorem p_leaving {N : NN} {W t S : Nat} {Z : ZZ} {p : Nat → Bool} (hI : iN N W) (hR : rNet N Z t) (hS : S < 2 ^ 31) : sX5_countLeaving t (nI (msk p 16)) (nI S) Z = some (nI (cutC N p S (N 1)), Z) := by
  unfold sX5_countLeaving
  rw [gd_t hR.1]
  exact p_leaving_L hI hR hS (N 1) 0 3000 (by omega) (by have := hI.1.2.1; omega)
theorem pow_N0 {N : NN} {W : Nat} (hI : iN N W) : 2 ^ N 0 ≤ 256 := by
  have : 2 ^ N 0 ≤ 2 ^ 8 := Nat.pow_le_pow_right (by decide) hI.1.1
  omega
theorem p_cut_L {N : NN} {W t a b : Nat} {Z : ZZ} {p : Nat → Bool} (hI : iN N W) (hR : rNet N Z t) (ha : a < 8) (hb : b < 8) : ∀ (e S n : Nat), S + e = 2 ^ N 0 → e < n → sX5_smallestCut_L7 t (nI (msk p 16)) (nI a) (nI b) n (nI (leastN N p a b S)) (nI S) Z = some (nI (leastN N p a b (2 ^ N 0)), Z) := by
  have h8 := hI.1.1
  have h16 := hI.1.2.1
  have hpw := pow_N0 hI
  intro e
  induction e with
  | zero =>
    intro S n hi hn
    obtain ⟨n, rfl⟩ : ∃ q, n = q + 1 := ⟨n - 1, by omega⟩
    rw [sX5_smallestCut_L7, hR.2.1, p_bit (by omega), bnd_s, if_pos (nI_le (by omega) (by omega)), show S = 2 ^ N 0 by omega]
  | succ e ih =>
    intro S n hi hn
    obtain ⟨n, rfl⟩ : ∃ q, n = q + 1 := ⟨n - 1, by omega⟩
    have hih := ih (S + 1) n (by omega) (by omega)
    have e1 : leastN N p a b (S + 1) = if S.testBit a && !S.testBit b then min (leastN N p a b S) (cutC N p S (N 1)) else leastN N p a b S := rfl
    have hl := leastN_le N p a b S
    have hcu := cutC_le N p S (N 1)
    rw [sX5_smallestCut_L7, hR.2.1, p_bit (by omega), bnd_s, if_neg (nI_ge (by omega) (by omega)), p_hasBit (by omega) (by omega), bnd_s]
    cases ta : S.testBit a with
    | false =>
      rw [e1, ta] at hih
      simp only [Bool.false_eq_true, if_false]
      rw [if_pos trivial, nm_d, ad_n1]
      simpa using hih
    | true =>
      simp only [if_true]
      rw [if_neg (by decide), p_hasBit (by omega) (by omega), bnd_s]
      cases tb : S.testBit b with
      | true =>
        rw [e1, ta, tb] at hih
        simp only [if_true]
        rw [if_neg (by decide), nm_d, ad_n1]
        simpa using hih
      | false =>
        rw [e1, ta, tb] at hih
        simp only [Bool.false_eq_true, if_false]
        rw [if_pos trivial, p_leaving hI hR (by omega), bnd_s]
        have e2 : imin (nI (leastN N p a b S)) (nI (cutC N p S (N 1))) = nI (min (leastN N p a b S) (cutC N p S (N 1))) := by
          unfold imin
          simp only [lt_nn (show cutC N p S (N 1) < 2 ^ 31 by omega) (show leastN N p a b S < 2 ^ 31 by omega)]
          split
          · rw [Nat.min_eq_right (by omega)]
          · rw [Nat.min_eq_left (by omega)]
        rw [e2, nm_d, nm_d, ad_n1]
        simpa using hih
theorem p_cut {N : NN} {W t a b : Nat} {Z : ZZ} {p : Nat → Bool} (hI : iN N W) (hR : rNet N Z t) (ha : a < 8) (hb : b < 8) : sX5_smallestCut t (nI (msk p 16)) (nI a) (nI b) Z = some (nI (leastN N p a b (2 ^ N 0)), Z) := by
  have hpw := pow_N0 hI
  unfold sX5_smallestCut
  rw [gd_t hR.1]
  exact p_cut_L hI hR ha hb (2 ^ N 0) 0 3000 (by omega) (by omega)
/-! the reference's border and least -/
theorem p_shrbit {S i : Nat} (hS : S < 2 ^ 31) (hi : i < 31) : (nI S >>> (nI i &&& 31)) &&& 1 = nI (if S.testBit i then 1 else 0) := by
  have h0 : ∀ i, i < 31 → (nI i &&& 31) = nI i := by decide +kernel
  have h1 : ∀ i, i < 31 → ((nI i).toBitVec.smod 32).toNat = i := by decide +kernel
  rw [h0 i hi, pk_shrN hS (nI i) i (h1 i hi), pk_andN (m := 1) (by have := Nat.div_le_self S (2 ^ i); omega) 1 (by decide)]
  have e1 : S.testBit i = decide (S / 2 ^ i % 2 = 1) := by rw [Nat.testBit_eq_decide_div_mod_eq]
  rw [e1]
  by_cases c : S / 2 ^ i % 2 = 1
  · simp [c]
  · have : S / 2 ^ i % 2 = 0 := by omega
    simp [this]
theorem p_border_L {N : NN} {W S : Nat} {Z : ZZ} (hI : iN N W) (hA : rA N Z 1) (hS : S < 2 ^ 31) : ∀ (e i n : Nat), i + e = N 1 → e < n → sX8_border_L4 (nI S) n (nI (cutC N (frE N 5) S i)) (nI i) Z = some (nI (cutC N (frE N 5) S (N 1)), Z) := by
  have h16 := hI.1.2.1
  have h8 := hI.1.1
  intro e
  induction e with
  | zero =>
    intro i n hi hn
    obtain ⟨n, rfl⟩ : ∃ q, n = q + 1 := ⟨n - 1, by omega⟩
    rw [sX8_border_L4, gd_t (by decide), show ((1 : Int32).toNatClampNeg) = 1 from by decide, hA 1 (by decide), if_pos (nI_le (by omega) (by omega)), show i = N 1 by omega]
  | succ e ih =>
    intro i n hi hn
    obtain ⟨n, rfl⟩ : ∃ q, n = q + 1 := ⟨n - 1, by omega⟩
    obtain ⟨q0, q1, -⟩ := hI.2.1 i (by omega)
    have e1 : cutC N (frE N 5) S (i + 1) = cutC N (frE N 5) S i + cutI N (frE N 5) S i := rfl
    have hih := ih (i + 1) n (by omega) (by omega)
    rw [e1] at hih
    have hz : ∀ x : Nat, nI x + 0 = nI x := fun x => by rw [show (0 : Int32) = nI 0 from rfl, nI_add]; rfl
    rw [sX8_border_L4, gd_t (by decide), show ((1 : Int32).toNatClampNeg) = 1 from by decide, hA 1 (by decide), if_neg (nI_ge (by omega) (by omega)), show ((-1 : Int32)) = cI 5 from by decide, p_isFree hA hI (by omega) (Or.inr (by decide)), bnd_s]
    cases hp : frE N 5 i with
    | false =>
      have e2 : cutI N (frE N 5) S i = 0 := by
        unfold cutI
        rw [hp]; rfl
      rw [e2] at hih
      simp only [Bool.false_eq_true, if_false]
      rw [if_pos trivial, nm_d, nm_d, ad_n1, hz]
      exact hih
    | true =>
      simp only [if_true]
      rw [if_neg (by decide), p_t0 hA (by omega), bnd_s, p_t1 hA (by omega), bnd_s]
      rw [p_shrbit hS (by omega), p_shrbit hS (by omega)]
      have ebit : nI (if S.testBit (nT N i 0) = true then 1 else 0) = nI (if S.testBit (nT N i 1) = true then 1 else 0) ↔ S.testBit (nT N i 0) = S.testBit (nT N i 1) := by
        cases S.testBit (nT N i 0) <;> cases S.testBit (nT N i 1) <;> decide
      simp only [ebit]
      by_cases c : S.testBit (nT N i 0) = S.testBit (nT N i 1)
      · have e2 : cutI N (frE N 5) S i = 0 := by
          unfold cutI
          rw [if_neg]
          simp [c]
        rw [e2] at hih
        rw [if_pos c, nm_d, nm_d, ad_n1, hz]
        exact hih
      · have e2 : cutI N (frE N 5) S i = 1 := by
          unfold cutI
          rw [hp, if_pos]
          simp [c]
        rw [e2] at hih
        rw [if_neg c, nm_d, nm_d, ad_n1, ad_n1]
        exact hih
theorem p_border {N : NN} {W S : Nat} {Z : ZZ} (hI : iN N W) (hA : rA N Z 1) (hS : S < 2 ^ 31) : sX8_border (nI S) Z = some (nI (cutC N (frE N 5) S (N 1)), Z) :=
  p_border_L hI hA hS (N 1) 0 3000 (by omega) (by have := hI.1.2.1; omega)
theorem p_least_L {N : NN} {W a b : Nat} {Z : ZZ} (hI : iN N W) (hA : rA N Z 1) (ha : a < 8) (hb : b < 8) : ∀ (e S n : Nat), S + e = 2 ^ N 0 → e < n → sX8_least_L49 (nI a) (nI b) n (nI (leastN N (frE N 5) a b S)) (nI S) Z = some (nI (leastN N (frE N 5) a b (2 ^ N 0)), Z) := by
  have h8 := hI.1.1
  have h16 := hI.1.2.1
  have hpw := pow_N0 hI
  have hsh : ∀ i, i < 31 → (1 : Int32) <<< (nI i &&& 31) = nI (2 ^ i) := by decide +kernel
  intro e
  induction e with
  | zero =>
    intro S n hi hn
    obtain ⟨n, rfl⟩ : ∃ q, n = q + 1 := ⟨n - 1, by omega⟩
    rw [sX8_least_L49, gd_t (by decide), show ((0 : Int32).toNatClampNeg) = 0 from by decide, hA 0 (by decide), hsh _ (by omega), if_pos (nI_le (by omega) (by omega)), show S = 2 ^ N 0 by omega]
  | succ e ih =>
    intro S n hi hn
    obtain ⟨n, rfl⟩ : ∃ q, n = q + 1 := ⟨n - 1, by omega⟩
    have hih := ih (S + 1) n (by omega) (by omega)
    have e1 : leastN N (frE N 5) a b (S + 1) = if S.testBit a && !S.testBit b then min (leastN N (frE N 5) a b S) (cutC N (frE N 5) S (N 1)) else leastN N (frE N 5) a b S := rfl
    have hl := leastN_le N (frE N 5) a b S
    have hcu := cutC_le N (frE N 5) S (N 1)
    rw [sX8_least_L49, gd_t (by decide), show ((0 : Int32).toNatClampNeg) = 0 from by decide, hA 0 (by decide), hsh _ (by omega), if_neg (nI_ge (by omega) (by omega)), p_shrbit (by omega) (by omega), p_shrbit (by omega) (by omega)]
    cases ta : S.testBit a with
    | false =>
      rw [e1, ta] at hih
      simp only [Bool.false_eq_true, if_false]
      rw [if_pos (by decide), nm_d, ad_n1]
      simpa using hih
    | true =>
      simp only [if_true]
      rw [if_neg (by decide)]
      cases tb : S.testBit b with
      | true =>
        rw [e1, ta, tb] at hih
        simp only [if_true]
        rw [if_pos (by decide), nm_d, ad_n1]
        simpa using hih
      | false =>
        rw [e1, ta, tb] at hih
        simp only [Bool.false_eq_true, if_false]
        rw [if_neg (by decide), p_border hI hA (by omega), bnd_s, nm_d]
        simp only [le_nn (show leastN N (frE N 5) a b S < 2 ^ 31 by omega) (show cutC N (frE N 5) S (N 1) < 2 ^ 31 by omega)]
        simp only [Bool.not_false, Bool.and_self, if_true] at hih
        by_cases c : leastN N (frE N 5) a b S ≤ cutC N (frE N 5) S (N 1)
        · rw [Nat.min_eq_left c] at hih
          rw [if_pos c, nm_d, ad_n1]
          exact hih
        · rw [Nat.min_eq_right (by omega)] at hih
          rw [if_neg c, nm_d, ad_n1]
          exact hih
