theorem gd_t {α : Type} {b : Prop} [Decidable b] {k : Option α} (h : b) : gd b k = k := if_pos h
theorem bnd_s {α β : Type} (x : α) (f : α → Option β) : bnd (some x) f = f x := rfl
theorem nm_d {α β : Type} (x : α) (f : α → Option β) : nm x f = f x := rfl
theorem vin_n {i n : Nat} (h : i < n) (hn : n < 2 ^ 31) : vin (nI i) n = true := by
  unfold vin
  rw [Bool.and_eq_true]
  exact ⟨decide_eq_true (nI_pos (by omega)), decide_eq_true (by rw [nI_clamp (by omega)]; exact h)⟩
theorem gI_pI (Z : ZZ) (k j : Nat) (v : Int32) (k' j' : Nat) : gI (pI Z k j v) k' j' = if k' = k ∧ j' = j then v else gI Z k' j' := by
  unfold gI pI
  by_cases h : k' = k
  · subst h
    by_cases h2 : j' = j
    · subst h2; simp [upd]
    · simp [upd, h2]
  · simp [h]
theorem gI_pI_s (Z : ZZ) (k j : Nat) (v : Int32) : gI (pI Z k j v) k j = v := by rw [gI_pI]; simp
theorem gI_pI_j (Z : ZZ) (k j : Nat) (v : Int32) {j' : Nat} (h : j' ≠ j) : gI (pI Z k j v) k j' = gI Z k j' := by rw [gI_pI]; simp [h]
theorem gI_pI_k (Z : ZZ) (k j : Nat) (v : Int32) {k' j' : Nat} (h : k' ≠ k) : gI (pI Z k j v) k' j' = gI Z k' j' := by rw [gI_pI]; simp [h]
theorem gL_pI (Z : ZZ) (k j : Nat) (v : Int32) (k' : Nat) : gL (pI Z k j v) k' = gL Z k' := rfl
theorem gI_pL (Z : ZZ) (k : Nat) (v : Int64) (k' j' : Nat) : gI (pL Z k v) k' j' = gI Z k' j' := rfl
theorem gL_pL (Z : ZZ) (k : Nat) (v : Int64) (k' : Nat) : gL (pL Z k v) k' = if k' = k then v else gL Z k' := rfl
theorem le_nn {a b : Nat} (ha : a < 2 ^ 31) (hb : b < 2 ^ 31) : (nI a ≤ nI b) = (a ≤ b) := propext (nI_leI ha hb)
theorem lt_nn {a b : Nat} (ha : a < 2 ^ 31) (hb : b < 2 ^ 31) : (nI a < nI b) = (a < b) := propext (nI_ltI ha hb)
theorem eq_nn {a b : Nat} (ha : a < 2 ^ 31) (hb : b < 2 ^ 31) : (nI a = nI b) = (a = b) := propext (nI_eq ha hb)
theorem lit_n (n : Nat) : (OfNat.ofNat n : Int32) = nI n := rfl
theorem le_nl {a n : Nat} (ha : a < 2 ^ 31) (hn : n < 2 ^ 31) : (nI a ≤ (OfNat.ofNat n : Int32)) = (a ≤ n) := le_nn ha hn
theorem le_ln {a n : Nat} (ha : a < 2 ^ 31) (hn : n < 2 ^ 31) : ((OfNat.ofNat n : Int32) ≤ nI a) = (n ≤ a) := le_nn hn ha
theorem lt_nl {a n : Nat} (ha : a < 2 ^ 31) (hn : n < 2 ^ 31) : (nI a < (OfNat.ofNat n : Int32)) = (a < n) := lt_nn ha hn
theorem lt_ln {a n : Nat} (ha : a < 2 ^ 31) (hn : n < 2 ^ 31) : ((OfNat.ofNat n : Int32) < nI a) = (n < a) := lt_nn hn ha
theorem eq_nl {a n : Nat} (ha : a < 2 ^ 31) (hn : n < 2 ^ 31) : (nI a = (OfNat.ofNat n : Int32)) = (a = n) := eq_nn ha hn
theorem ad_n1 (a : Nat) : nI a + 1 = nI (a + 1) := nI_1 a
theorem ne_m1 {a : Nat} (h : a < 2 ^ 31) : ¬ nI a = (-1) := fun e => by
  have h1 := congrArg Int32.toInt e
  rw [nI_toInt h] at h1
  have h2 : ((-1 : Int32)).toInt = -1 := by decide
  omega
theorem cl_n {i : Nat} (h : i < 2 ^ 31) : (nI i).toNatClampNeg = i := nI_clamp h
/-- the set of numbers under n that p holds of, as bits -/
def msk (p : Nat → Bool) : Nat → Nat
  | 0 => 0
  | n + 1 => msk p n + (if p n then 2 ^ n else 0)
theorem msk_lt (p : Nat → Bool) (n : Nat) : msk p n < 2 ^ n := by
  induction n with
  | zero => simp [msk]
  | succ n ih =>
    unfold msk
    have : 2 ^ (n + 1) = 2 ^ n + 2 ^ n := by omega
    split <;> omega
theorem msk_bit (p : Nat → Bool) (n i : Nat) : (msk p n).testBit i = (decide (i < n) && p i) := by
  induction n with
  | zero => simp [msk]
  | succ n ih =>
    unfold msk
    have hlt := msk_lt p n
    by_cases hp : p n
    · rw [if_pos hp, Nat.add_comm]
      rcases Nat.lt_trichotomy i n with h | h | h
      · rw [Nat.testBit_two_pow_add_gt h, ih]
        have : decide (i < n + 1) = decide (i < n) := by simp; omega
        rw [this]
      · subst h
        rw [Nat.testBit_two_pow_add_eq, ih]; simp [hp]
      · rw [Nat.testBit_lt_two_pow]
        · have : ¬ i < n + 1 := by omega
          simp [this]
        · have h2 : 2 ^ (n + 1) = 2 ^ n + 2 ^ n := by omega
          have h3 : 2 ^ (n + 1) ≤ 2 ^ i := Nat.pow_le_pow_right (by decide) (by omega)
          omega
    · rw [if_neg hp, Nat.add_zero, ih]
      by_cases h : i = n
      · subst h; simp [hp]
      · have : decide (i < n + 1) = decide (i < n) := by simp; omega
        rw [this]
theorem msk_of {p : Nat → Bool} {n m : Nat} (hm : m < 2 ^ n) (h : ∀ i, i < n → m.testBit i = p i) : m = msk p n := by
  apply Nat.eq_of_testBit_eq
  intro i
  rw [msk_bit]
  by_cases hi : i < n
  · rw [h i hi]; simp [hi]
  · rw [Nat.testBit_lt_two_pow (Nat.lt_of_lt_of_le hm (Nat.pow_le_pow_right (by decide) (by omega)))]; simp [hi]
theorem p_hasTrunk {Z : ZZ} {t i tc : Nat} (ht : shC t = 14) (h : gI Z t 1 = nI tc) (hi : i < 2 ^ 31) (htc : tc < 2 ^ 31) : sX3_hasTrunk t (nI i) Z = some (if i < tc then 1 else 0, Z) := by
  unfold sX3_hasTrunk
  rw [gd_t ht, if_neg (nI_pos hi), h]
  simp only [le_nn htc hi]
  by_cases c : i < tc
  · rw [if_neg (by omega), if_pos c]
  · rw [if_pos (by omega), if_neg c]
theorem p_hasSwitch {Z : ZZ} {t i sc : Nat} (ht : shC t = 14) (h : gI Z t 0 = nI sc) (hi : i < 2 ^ 31) (htc : sc < 2 ^ 31) : sX3_hasSwitch t (nI i) Z = some (if i < sc then 1 else 0, Z) := by
  unfold sX3_hasSwitch
  rw [gd_t ht, if_neg (nI_pos hi), h]
  simp only [le_nn htc hi]
  by_cases c : i < sc
  · rw [if_neg (by omega), if_pos c]
  · rw [if_pos (by omega), if_neg c]
theorem p_bit {Z : ZZ} {i : Nat} (hi : i < 31) : sX7_bit (nI i) Z = some (nI (2 ^ i), Z) := by
  unfold sX7_bit
  have h : ∀ i, i < 31 → (1 : Int32) <<< (nI i &&& 31) = nI (2 ^ i) := by decide +kernel
  rw [h i hi]
theorem p_hasBit {Z : ZZ} {m i : Nat} (hm : m < 2 ^ 31) (hi : i < 31) : sX7_hasBit (nI m) (nI i) Z = some (if m.testBit i then 1 else 0, Z) := by
  unfold sX7_hasBit
  have h0 : ∀ i, i < 31 → (nI i &&& 31) = nI i := by decide +kernel
  have h1 : ∀ i, i < 31 → ((nI i).toBitVec.smod 32).toNat = i := by decide +kernel
  rw [h0 i hi, pk_shrN hm (nI i) i (h1 i hi), pk_andN (m := 1) (by have := Nat.div_le_self m (2 ^ i); omega) 1 (by decide)]
  have e : m.testBit i = decide (m / 2 ^ i % 2 = 1) := by rw [Nat.testBit_eq_decide_div_mod_eq]
  rw [e]
  by_cases c : m / 2 ^ i % 2 = 1
  · rw [c, if_neg (by decide)]; simp
  · have : m / 2 ^ i % 2 = 0 := by omega
    rw [Nat.pow_one, this, if_pos (by decide)]; simp

theorem p_isOf {Z : ZZ} {t x u v : Nat} (ht : shC t = 17) (h0 : gI Z t 0 = nI u) (h1 : gI Z t 1 = nI v) (hu : u < 2 ^ 31) (hv : v < 2 ^ 31) (hx : x < 2 ^ 31) : sX1_isOf t (nI x) Z = some (if u = x ∨ v = x then 1 else 0, Z) := by
  unfold sX1_isOf
  rw [gd_t ht, h0, h1]
  simp only [eq_nn hu hx, eq_nn hv hx]
  by_cases c : u = x
  · rw [if_pos c, if_pos (Or.inl c)]
  · by_cases c2 : v = x
    · rw [if_neg c, if_pos c2, if_pos (Or.inr c2)]
    · rw [if_neg c, if_neg c2, if_neg (by omega)]
/-- the route's trunks as bits -/
def rbits (f : Nat → Nat) : Nat → Nat
  | 0 => 0
  | n + 1 => rbits f n ||| 2 ^ f n
theorem rbits_lt {f : Nat → Nat} {n : Nat} (h : ∀ j, j < n → f j < 16) : rbits f n < 2 ^ 16 := by
  induction n with
  | zero => simp [rbits]
  | succ n ih => exact Nat.or_lt_two_pow (ih fun j hj => h j (by omega)) (Nat.pow_lt_pow_right (by decide) (h n (by omega)))
theorem rbits_bit (f : Nat → Nat) (n i : Nat) : (rbits f n).testBit i = decide (∃ j, j < n ∧ f j = i) := by
  induction n with
  | zero => simp [rbits]
  | succ n ih =>
    unfold rbits
    rw [Nat.testBit_or, ih, Nat.testBit_two_pow]
    by_cases c : f n = i
    · simp only [c, decide_true, Bool.or_true]
      exact (decide_eq_true ⟨n, by omega, c⟩).symm
    · have : (∃ j, j < n + 1 ∧ f j = i) ↔ (∃ j, j < n ∧ f j = i) := by
        constructor
        · rintro ⟨j, h1, h2⟩
          rcases Nat.lt_or_ge j n with h | h
          · exact ⟨j, h, h2⟩
          · have : j = n := by omega
            subst this; exact absurd h2 c
        · rintro ⟨j, h1, h2⟩; exact ⟨j, by omega, h2⟩
      simp [c, this]
theorem or_nn (a b : Nat) : nI a ||| nI b = nI (a ||| b) := by
  apply Int32.toBitVec_inj.mp
  simp [nI, BitVec.ofNat_or]
theorem p_trunkBits_L {Z : ZZ} {t k : Nat} {f : Nat → Nat} (hk : gI Z t 3 = nI k) (hk7 : k ≤ 7) (hf : ∀ j, j < k → gI Z (t + 1) j = nI (f j) ∧ f j < 16) : ∀ (d i n : Nat), i + d = k → d < n → sX1_trunkBits_L4 t n (nI (rbits f i)) (nI i) Z = some (nI (rbits f k), Z) := by
  intro d
  induction d with
  | zero =>
    intro i n hi hn
    obtain ⟨n, rfl⟩ : ∃ q, n = q + 1 := ⟨n - 1, by omega⟩
    rw [sX1_trunkBits_L4, hk, if_pos (nI_le (by omega) (by omega)), show i = k by omega]
  | succ d ih =>
    intro i n hi hn
    obtain ⟨n, rfl⟩ : ∃ q, n = q + 1 := ⟨n - 1, by omega⟩
    obtain ⟨h1, h2⟩ := hf i (by omega)
    have h0 : ∀ i, i < 16 → (1 : Int32) <<< (nI i &&& 31) = nI (2 ^ i) := by decide +kernel
    rw [sX1_trunkBits_L4, hk, if_neg (nI_ge (by omega) (by omega)), gd_t (vin_n (by omega) (by decide)), nm_d, nm_d, cl_n (by omega), h1, h0 _ h2, or_nn, ad_n1]
    exact ih (i + 1) n (by omega) (by omega)
theorem p_trunkBits {Z : ZZ} {t k : Nat} {f : Nat → Nat} (ht : shC t = 17) (hk : gI Z t 3 = nI k) (hk7 : k ≤ 7) (hf : ∀ j, j < k → gI Z (t + 1) j = nI (f j) ∧ f j < 16) : sX1_trunkBits t Z = some (nI (rbits f k), Z) := by
  unfold sX1_trunkBits
  rw [gd_t ht]
  exact p_trunkBits_L hk hk7 hf k 0 3000 (by omega) (by omega)
