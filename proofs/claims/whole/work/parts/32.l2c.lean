theorem andn_nn {a b : Nat} (ha : a < 2 ^ 16) (hb : b < 2 ^ 16) : nI a &&& (nI b ^^^ (-1)) = nI (msk (fun i => a.testBit i && !b.testBit i) 16) := by
  apply Int32.toBitVec_inj.mp
  apply BitVec.eq_of_getLsbD_eq
  intro i hi
  have e1 : (nI a &&& (nI b ^^^ (-1))).toBitVec = BitVec.ofNat 32 a &&& (BitVec.ofNat 32 b ^^^ BitVec.allOnes 32) := rfl
  have e2 : (nI (msk (fun i => a.testBit i && !b.testBit i) 16)).toBitVec = BitVec.ofNat 32 (msk (fun i => a.testBit i && !b.testBit i) 16) := rfl
  rw [e1, e2, BitVec.getLsbD_and, BitVec.getLsbD_xor, BitVec.getLsbD_allOnes, BitVec.getLsbD_ofNat, BitVec.getLsbD_ofNat, BitVec.getLsbD_ofNat, msk_bit]
  by_cases h : i < 16
  · simp [h, hi]
  · have h1 : a.testBit i = false := Nat.testBit_lt_two_pow (Nat.lt_of_lt_of_le ha (Nat.pow_le_pow_right (by decide) (by omega)))
    simp [h, h1]
theorem msk_congr {p q : Nat → Bool} {n : Nat} (h : ∀ i, i < n → p i = q i) : msk p n = msk q n := by
  induction n with
  | zero => rfl
  | succ n ih => unfold msk; rw [ih fun i hi => h i (by omega), h n (by omega)]
def cBits (N : NN) (i : Nat) : Nat := rbits (fun j => nC N i (4 + j)) (nC N i 3)
theorem cBits_bit (N : NN) (i x : Nat) : (cBits N i).testBit x = onC N i x := rbits_bit _ _ _
theorem cBits_lt {N : NN} {W i : Nat} (hI : iN N W) (hi : i < N 3) : cBits N i < 2 ^ 16 := rbits_lt fun j hj => by
  have := (hI.2.2.2.2.2.1 i hi).2.2.2.2.2 j hj
  have := hI.1.2.1
  omega
theorem p_tb {N : NN} {Z : ZZ} {b W i : Nat} (hB : rB N Z b) (hI : iN N W) (hi : i < N 3) : sX1_trunkBits (b + 9 + 1 + 2 * i) Z = some (nI (cBits N i), Z) := by
  obtain ⟨hb, -, -, -, -, hc⟩ := hB
  obtain ⟨c0, c1, c2, c3, c4, c5⟩ := hc i hi
  have h5 := hI.1.2.2.2.1
  obtain ⟨-, -, -, -, h7, h8⟩ := hI.2.2.2.2.2.1 i hi
  exact p_trunkBits (f := fun j => nC N i (4 + j)) (shC_call hb (by omega)) c3 h7 (fun j hj => ⟨c5 j hj, by
    have := (h8 j hj).1
    have := hI.1.2.1
    omega⟩)
theorem p_userIndexOf_L {N : NN} {Z : ZZ} {b W x : Nat} (hB : rB N Z b) (hI : iN N W) (hx : x < 16) : ∀ (d i n : Nat), i + d = N 3 → d < n → (∀ k, k < i → onC N k x = false) → sX6_userIndexOf_L2 b (nI x) n (nI i) Z = some (if usr N x < N 3 then nI (usr N x) else -1, Z) := by
  have h3 := hB.2.1.2.2.2.1
  have h5 := hI.1.2.2.2.1
  intro d
  induction d with
  | zero =>
    intro i n hi hn hk
    obtain ⟨n, rfl⟩ : ∃ q, n = q + 1 := ⟨n - 1, by omega⟩
    have e : usr N x = N 3 := fnd_none (fun k hk2 => hk k (by omega))
    rw [sX6_userIndexOf_L2, h3, if_pos (nI_le (by omega) (by omega)), e, if_neg (by omega)]
  | succ d ih =>
    intro i n hi hn hk
    obtain ⟨n, rfl⟩ : ∃ q, n = q + 1 := ⟨n - 1, by omega⟩
    have hlt := cBits_lt hI (show i < N 3 by omega)
    rw [sX6_userIndexOf_L2, h3, if_neg (nI_ge (by omega) (by omega)), gd_t (vin_n (by omega) (by decide)), elC_n (by omega), p_tb hB hI (by omega), bnd_s, p_hasBit (Nat.lt_trans hlt (by decide)) (by omega), bnd_s, cBits_bit]
    cases c : onC N i x with
    | true =>
      have e : usr N x = i := fnd_some (p := fun i => onC N i x) (by omega) hk c
      simp only [if_true]
      rw [if_neg (by decide), e, if_pos (by omega)]
    | false =>
      simp only [Bool.false_eq_true, if_false]
      rw [if_pos trivial, nm_d, ad_n1]
      exact ih (i + 1) n (by omega) (by omega) (fun k hk2 => by
        rcases Nat.lt_or_ge k i with q | q
        · exact hk k q
        · have : k = i := by omega
          subst this; exact c)
theorem p_userIndexOf {N : NN} {Z : ZZ} {b W x : Nat} (hB : rB N Z b) (hI : iN N W) (hx : x < 16) : sX6_userIndexOf b (nI x) Z = some (if usr N x < N 3 then nI (usr N x) else -1, Z) := by
  unfold sX6_userIndexOf
  have := hI.1.2.2.2.1
  rw [gd_t hB.1]
  exact p_userIndexOf_L hB hI hx (N 3) 0 3000 (by omega) (by omega) (fun k hk => by omega)
def uBits (N : NN) : Nat → Nat
  | 0 => 0
  | n + 1 => uBits N n ||| cBits N n
theorem uBits_lt {N : NN} {W : Nat} (hI : iN N W) : ∀ n, n ≤ N 3 → uBits N n < 2 ^ 16 := by
  intro n
  induction n with
  | zero => intro _; simp [uBits]
  | succ n ih => intro h; exact Nat.or_lt_two_pow (ih (by omega)) (cBits_lt hI (by omega))
theorem uBits_bit (N : NN) (n x : Nat) : (uBits N n).testBit x = decide (∃ i, i < n ∧ onC N i x = true) := by
  induction n with
  | zero => simp [uBits]
  | succ n ih =>
    unfold uBits
    rw [Nat.testBit_or, ih, cBits_bit]
    cases c : onC N n x with
    | true =>
      rw [Bool.or_true]
      exact (decide_eq_true ⟨n, by omega, c⟩).symm
    | false =>
      rw [Bool.or_false]
      have : (∃ i, i < n + 1 ∧ onC N i x = true) ↔ (∃ i, i < n ∧ onC N i x = true) := by
        constructor
        · rintro ⟨j, h1, h2⟩
          rcases Nat.lt_or_ge j n with h | h
          · exact ⟨j, h, h2⟩
          · have : j = n := by omega
            subst this; rw [c] at h2; cases h2
        · rintro ⟨j, h1, h2⟩; exact ⟨j, by omega, h2⟩
      simp only [this]
theorem p_usedTrunks_L {N : NN} {Z : ZZ} {b W : Nat} (hB : rB N Z b) (hI : iN N W) : ∀ (d i n : Nat), i + d = N 3 → d < n → sX6_usedTrunks_L4 b n (nI (uBits N i)) (nI i) Z = some (nI (uBits N (N 3)), Z) := by
  have h3 := hB.2.1.2.2.2.1
  have h5 := hI.1.2.2.2.1
  intro d
  induction d with
  | zero =>
    intro i n hi hn
    obtain ⟨n, rfl⟩ : ∃ q, n = q + 1 := ⟨n - 1, by omega⟩
    rw [sX6_usedTrunks_L4, h3, if_pos (nI_le (by omega) (by omega)), show i = N 3 by omega]
  | succ d ih =>
    intro i n hi hn
    obtain ⟨n, rfl⟩ : ∃ q, n = q + 1 := ⟨n - 1, by omega⟩
    rw [sX6_usedTrunks_L4, h3, if_neg (nI_ge (by omega) (by omega)), gd_t (vin_n (by omega) (by decide)), elC_n (by omega), p_tb hB hI (by omega), bnd_s, nm_d, nm_d, or_nn, ad_n1]
    exact ih (i + 1) n (by omega) (by omega)
theorem p_usedTrunks {N : NN} {Z : ZZ} {b W : Nat} (hB : rB N Z b) (hI : iN N W) : sX6_usedTrunks b Z = some (nI (uBits N (N 3)), Z) := by
  unfold sX6_usedTrunks
  have := hI.1.2.2.2.1
  rw [gd_t hB.1]
  exact p_usedTrunks_L hB hI (N 3) 0 3000 (by omega) (by omega)
theorem p_allTrunks {N : NN} {Z : ZZ} {b W : Nat} (hB : rB N Z b) (hI : iN N W) : sX3_allTrunks (b + 1) Z = some (nI (2 ^ N 1 - 1), Z) := by
  have h1 := hI.1.2.1
  unfold sX3_allTrunks
  rw [gd_t (sh_X6_network hB.1), hB.2.1.2.1, p_bit (by omega), bnd_s]
  have e : nI (2 ^ N 1) - 1 = nI (2 ^ N 1 - 1) := pk_sub (a := 2 ^ N 1) (b := 1) Nat.one_le_two_pow
  rw [e]
def fMask (N : NN) : Nat := msk (free N) 16
theorem p_freeTrunks {N : NN} {Z : ZZ} {b W : Nat} (hB : rB N Z b) (hI : iN N W) : sX6_freeTrunks b Z = some (nI (fMask N), Z) := by
  have h1 := hI.1.2.1
  unfold sX6_freeTrunks
  rw [gd_t hB.1, p_allTrunks hB hI, bnd_s, p_usedTrunks hB hI, bnd_s, hB.2.2.1]
  have hp : 2 ^ N 1 - 1 < 2 ^ 16 := by
    have : 2 ^ N 1 ≤ 2 ^ 16 := Nat.pow_le_pow_right (by decide) h1
    have : 0 < 2 ^ N 1 := Nat.two_pow_pos _
    omega
  rw [andn_nn hp (msk_lt _ 16), andn_nn (msk_lt _ 16) (uBits_lt hI _ (Nat.le_refl _))]
  have e : msk (fun i => (msk (fun i => (2 ^ N 1 - 1).testBit i && !(msk (fun i => decide (nT N i 3 = 1)) 16).testBit i) 16).testBit i && !(uBits N (N 3)).testBit i) 16 = fMask N := by
    apply msk_congr
    intro i hi
    rw [msk_bit, msk_bit, uBits_bit, Nat.testBit_two_pow_sub_one]
    unfold free used
    by_cases c : i < N 1
    · have := (hI.2.1 i c).2.2.2.2.2.1
      by_cases c2 : nT N i 3 = 1
      · simp [hi, c, c2]
      · have c3 : nT N i 3 = 0 := by omega
        simp [hi, c, c3]
    · simp [hi, c]
  rw [e]
