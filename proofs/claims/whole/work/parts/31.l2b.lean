/-! the specified state N : Nat → Nat lies as the reference's array of 180 places does -/
abbrev NN : Type := Nat → Nat
def nT (N : NN) (i o : Nat) : Nat := N (8 + 5 * i + o)
def nU (N : NN) (i o : Nat) : Nat := N (88 + 3 * i + o)
def nC (N : NN) (i o : Nat) : Nat := N (118 + 12 * i + o)
/-- the first number under n that p holds of; n if there is none -/
def fnd (p : Nat → Bool) : Nat → Nat
  | 0 => 0
  | n + 1 => if fnd p n < n then fnd p n else if p n then n else n + 1
theorem fnd_none {p : Nat → Bool} {n : Nat} (h : ∀ k, k < n → p k = false) : fnd p n = n := by
  induction n with
  | zero => rfl
  | succ n ih =>
    unfold fnd
    rw [ih fun k hk => h k (by omega), if_neg (by omega), if_neg (by rw [h n (by omega)]; decide)]
theorem fnd_some {p : Nat → Bool} {n i : Nat} (hi : i < n) (h : ∀ k, k < i → p k = false) (hp : p i = true) : fnd p n = i := by
  induction n with
  | zero => omega
  | succ n ih =>
    unfold fnd
    by_cases c : i = n
    · subst c
      rw [fnd_none h, if_neg (by omega), if_pos hp]
    · rw [ih (by omega), if_pos (by omega)]
theorem fnd_le (p : Nat → Bool) (n : Nat) : fnd p n ≤ n := by
  induction n with
  | zero => exact Nat.le_refl _
  | succ n ih =>
    unfold fnd
    split
    · omega
    · split <;> omega
theorem fnd_lt {p : Nat → Bool} {n : Nat} (h : fnd p n < n) : p (fnd p n) = true ∧ ∀ k, k < fnd p n → p k = false := by
  induction n with
  | zero => omega
  | succ n ih =>
    by_cases c : fnd p n < n
    · have e : fnd p (n + 1) = fnd p n := by rw [fnd, if_pos c]
      rw [e]; exact ih c
    · have hn : fnd p n = n := by have := fnd_le p n; omega
      have hall : ∀ k, k < n → p k = false := by
        intro k hk
        cases hpk : p k with
        | false => rfl
        | true =>
          exfalso
          have : ∀ m, m ≤ n → (∃ j, j < m ∧ p j = true) → fnd p n < n := by
            intro m
            induction m with
            | zero => rintro _ ⟨j, hj, -⟩; omega
            | succ m ihm =>
              intro hm hex
              by_cases h2 : ∃ j, j < m ∧ p j = true
              · exact ihm (by omega) h2
              · obtain ⟨j, hj, hpj⟩ := hex
                have hjm : j = m := by
                  rcases Nat.lt_or_ge j m with q | q
                  · exact absurd ⟨j, q, hpj⟩ h2
                  · omega
                subst hjm
                rw [fnd_some (i := j) (by omega) (fun k hk => by
                  cases hk2 : p k with
                  | false => rfl
                  | true => exact absurd ⟨k, hk, hk2⟩ h2) hpj]
                omega
          have := this (k + 1) (by omega) ⟨k, by omega, hpk⟩
          omega
      have e : fnd p (n + 1) = if p n then n else n + 1 := by rw [fnd, if_neg c]
      cases hpn : p n with
      | true =>
        rw [e, hpn, if_pos rfl]
        exact ⟨hpn, hall⟩
      | false =>
        rw [e, hpn, if_neg (by decide)] at h
        omega
theorem fnd_ge {p : Nat → Bool} {n : Nat} (h : ¬ fnd p n < n) : ∀ k, k < n → p k = false := by
  intro k hk
  cases hp : p k with
  | false => rfl
  | true =>
    exfalso
    have hl : ∃ j, j ≤ k ∧ p j = true ∧ ∀ q, q < j → p q = false := by
      have : ∀ m, (∃ j, j < m ∧ p j = true) → ∃ j, j < m ∧ p j = true ∧ ∀ q, q < j → p q = false := by
        intro m
        induction m with
        | zero => rintro ⟨j, hj, -⟩; omega
        | succ m ih =>
          intro hex
          by_cases h2 : ∃ j, j < m ∧ p j = true
          · obtain ⟨j, a, b, c⟩ := ih h2; exact ⟨j, by omega, b, c⟩
          · obtain ⟨j, hj, hpj⟩ := hex
            refine ⟨j, hj, hpj, fun q hq => ?_⟩
            cases hq2 : p q with
            | false => rfl
            | true => exact absurd ⟨q, by omega, hq2⟩ h2
      obtain ⟨j, a, b, c⟩ := this (k + 1) ⟨k, by omega, hp⟩
      exact ⟨j, by omega, b, c⟩
    obtain ⟨j, a, b, c⟩ := hl
    rw [fnd_some (i := j) (by omega) c b] at h
    omega
def talks (N : NN) (x : Nat) : Nat := fnd (fun i => decide (nC N i 0 = x ∨ nC N i 1 = x)) (N 3)
def onC (N : NN) (i x : Nat) : Bool := decide (∃ j, j < nC N i 3 ∧ nC N i (4 + j) = x)
def usr (N : NN) (x : Nat) : Nat := fnd (fun i => onC N i x) (N 3)
def used (N : NN) (x : Nat) : Bool := decide (∃ i, i < N 3 ∧ onC N i x = true)
def free (N : NN) (x : Nat) : Bool := decide (x < N 1) && decide (nT N x 3 = 0) && !used N x
def sumf (f : Nat → Nat) : Nat → Nat
  | 0 => 0
  | n + 1 => sumf f n + f n
def cLen (N : NN) (i : Nat) : Nat := sumf (fun j => nT N (nC N i (4 + j)) 2) (nC N i 3)
/-- the block of cells at b holds N -/
def rB (N : NN) (Z : ZZ) (b : Nat) : Prop :=
  shC b = 13 ∧
  (gI Z (b + 1) 0 = nI (N 0) ∧ gI Z (b + 1) 1 = nI (N 1) ∧ gI Z b 1 = nI (N 2) ∧ gI Z b 5 = nI (N 3) ∧ gI Z b 8 = nI (N 4) ∧ gL Z b = lN (N 5)) ∧
  gI Z (b + 1) 6 = nI (msk (fun i => decide (nT N i 3 = 1)) 16) ∧
  (∀ i, i < 16 → gI Z (b + 1 + 1) i = nI (nT N i 0) ∧ gI Z (b + 1 + 2) i = nI (nT N i 1) ∧ gI Z (b + 1 + 3) i = nI (nT N i 2) ∧ gI Z (b + 1 + 4) i = nI (nT N i 4)) ∧
  (∀ i, i < 10 → gI Z (b + 6) i = nI (nU N i 0) ∧ gI Z (b + 7) i = nI (nU N i 1) ∧ gI Z (b + 8) i = nI (nU N i 2)) ∧
  (∀ i, i < N 3 → gI Z (b + 9 + 1 + 2 * i) 0 = nI (nC N i 0) ∧ gI Z (b + 9 + 1 + 2 * i) 1 = nI (nC N i 1) ∧ gI Z (b + 9 + 1 + 2 * i) 2 = nI (nC N i 2) ∧ gI Z (b + 9 + 1 + 2 * i) 3 = nI (nC N i 3) ∧ gI Z (b + 9 + 1 + 2 * i) 4 = nI (cLen N i) ∧
    ∀ j, j < nC N i 3 → gI Z (b + 9 + 1 + 2 * i + 1) j = nI (nC N i (4 + j)))
/-- what always holds of a state after W units of work (a minute at most 60 times a unit; a call started one unit) -/
def iN (N : NN) (W : Nat) : Prop :=
  (N 0 ≤ 8 ∧ N 1 ≤ 16 ∧ N 2 ≤ 10 ∧ N 3 ≤ 5 ∧ N 4 ≤ W) ∧
  (∀ i, i < N 1 → nT N i 0 < N 0 ∧ nT N i 1 < N 0 ∧ nT N i 0 ≠ nT N i 1 ∧ 1 ≤ nT N i 2 ∧ nT N i 2 ≤ 20 ∧ nT N i 3 ≤ 1 ∧ nT N i 4 ≤ 2100 * W) ∧
  (∀ i, N 1 ≤ i → i < 16 → ∀ o, o < 5 → nT N i o = 0) ∧
  (∀ i, i < N 2 → nU N i 0 < N 0 ∧ nU N i 1 ≤ 2) ∧
  (∀ i, N 2 ≤ i → i < 10 → ∀ o, o < 3 → nU N i o = 0) ∧
  (∀ i, i < N 3 → nC N i 0 < N 2 ∧ nC N i 1 < N 2 ∧ nC N i 0 ≠ nC N i 1 ∧ nC N i 2 ≤ 60 * W ∧ nC N i 3 ≤ 7 ∧ ∀ j, j < nC N i 3 → nC N i (4 + j) < N 1 ∧ nT N (nC N i (4 + j)) 3 ≤ 1) ∧
  (∀ i k, i < N 3 → k < N 3 → i ≠ k → nC N i 0 ≠ nC N k 0 ∧ nC N i 0 ≠ nC N k 1 ∧ nC N i 1 ≠ nC N k 1 ∧ ∀ x, onC N i x = true → onC N k x = false) ∧
  sumf (fun i => nU N i 2) (N 2) = N 5 ∧
  N 5 + sumf (fun i => 25 + 141 * nC N i 2) (N 3) ≤ 42325 * W
theorem elC_n {q i : Nat} (h : i < 2 ^ 31) : elC q (nI i) = q + 1 + 2 * i := by unfold elC; rw [cl_n h]
theorem shC_call {b i : Nat} (hb : shC b = 13) (hi : i < 5) : shC (b + 9 + 1 + 2 * i) = 17 := by
  have := sh_elC (sh_X6_calls hb) (vin_n hi (by decide))
  rwa [elC_n (by omega)] at this
theorem p_callIndexOf_L {N : NN} {Z : ZZ} {b W x : Nat} (hB : rB N Z b) (hI : iN N W) (hx : x < 2 ^ 31) : ∀ (d i n : Nat), i + d = N 3 → d < n → (∀ k, k < i → decide (nC N k 0 = x ∨ nC N k 1 = x) = false) → sX6_callIndexOf_L2 b (nI x) n (nI i) Z = some (if talks N x < N 3 then nI (talks N x) else -1, Z) := by
  obtain ⟨hb, ⟨-, -, -, h3, -, -⟩, -, -, -, hc⟩ := hB
  have h5 := hI.1.2.2.2.1
  have hu := hI.1.2.2.1
  intro d
  induction d with
  | zero =>
    intro i n hi hn hk
    obtain ⟨n, rfl⟩ : ∃ q, n = q + 1 := ⟨n - 1, by omega⟩
    have e : talks N x = N 3 := fnd_none (fun k hk2 => hk k (by omega))
    rw [sX6_callIndexOf_L2, h3, if_pos (nI_le (by omega) (by omega)), e, if_neg (by omega)]
  | succ d ih =>
    intro i n hi hn hk
    obtain ⟨n, rfl⟩ : ∃ q, n = q + 1 := ⟨n - 1, by omega⟩
    obtain ⟨c0, c1, -⟩ := hc i (by omega)
    obtain ⟨b0, b1, -⟩ := hI.2.2.2.2.2.1 i (by omega)
    rw [sX6_callIndexOf_L2, h3, if_neg (nI_ge (by omega) (by omega)), gd_t (vin_n (by omega) (by decide)), elC_n (by omega), p_isOf (shC_call hb (by omega)) c0 c1 (by omega) (by omega) hx, bnd_s]
    by_cases c : nC N i 0 = x ∨ nC N i 1 = x
    · have e : talks N x = i := fnd_some (by omega) hk (decide_eq_true c)
      simp only [if_pos c]
      rw [if_neg (by decide), e, if_pos (by omega)]
    · simp only [if_neg c]
      rw [if_pos trivial, nm_d, ad_n1]
      exact ih (i + 1) n (by omega) (by omega) (fun k hk2 => by
        rcases Nat.lt_or_ge k i with q | q
        · exact hk k q
        · have : k = i := by omega
          subst this; exact decide_eq_false c)
theorem p_callIndexOf {N : NN} {Z : ZZ} {b W x : Nat} (hB : rB N Z b) (hI : iN N W) (hx : x < 2 ^ 31) : sX6_callIndexOf b (nI x) Z = some (if talks N x < N 3 then nI (talks N x) else -1, Z) := by
  unfold sX6_callIndexOf
  have := hI.1.2.2.2.1
  rw [gd_t hB.1]
  exact p_callIndexOf_L hB hI hx (N 3) 0 3000 (by omega) (by omega) (fun k hk => by omega)
