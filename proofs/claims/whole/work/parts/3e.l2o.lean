/-! flows: a flow of k is at most any cut, and is the cut of a closed set -/
def sumI (g : Nat → Int) : Nat → Int
  | 0 => 0
  | n + 1 => sumI g n + g n
theorem sumI_congr {g h : Nat → Int} {n : Nat} (e : ∀ v, v < n → g v = h v) : sumI g n = sumI h n := by
  induction n with
  | zero => rfl
  | succ n ih => unfold sumI; rw [ih fun v hv => e v (by omega), e n (by omega)]
theorem sumI_zero {g : Nat → Int} {n : Nat} (e : ∀ v, v < n → g v = 0) : sumI g n = 0 := by
  induction n with
  | zero => rfl
  | succ n ih => unfold sumI; rw [ih fun v hv => e v (by omega), e n (by omega)]; rfl
theorem sumI_add (g h : Nat → Int) (n : Nat) : sumI (fun v => g v + h v) n = sumI g n + sumI h n := by
  induction n with
  | zero => rfl
  | succ n ih => unfold sumI; rw [ih]; omega
theorem sumI_one {g : Nat → Int} {n x : Nat} (hx : x < n) (h : ∀ v, v < n → v ≠ x → g v = 0) : sumI g n = g x := by
  induction n with
  | zero => omega
  | succ n ih =>
    unfold sumI
    by_cases c : x = n
    · subst c
      rw [sumI_zero fun v hv => h v (by omega) (by omega)]; omega
    · rw [ih (by omega) fun v hv hne => h v (by omega) hne, h n (by omega) (fun q => c q.symm)]; omega
theorem sumI_swap (g : Nat → Nat → Int) (m n : Nat) : sumI (fun v => sumI (fun i => g i v) m) n = sumI (fun i => sumI (fun v => g i v) n) m := by
  induction n with
  | zero =>
    have : ∀ m, sumI (fun i => sumI (fun v => g i v) 0) m = 0 := fun m => sumI_zero fun v _ => rfl
    rw [this]; rfl
  | succ n ih =>
    show sumI (fun v => sumI (fun i => g i v) m) n + sumI (fun i => g i n) m = _
    rw [ih, ← sumI_add]
    rfl
theorem sumI_le {g : Nat → Int} {h : Nat → Nat} {n : Nat} (e : ∀ v, v < n → g v ≤ (h v : Int)) : sumI g n ≤ (sumf h n : Nat) := by
  induction n with
  | zero => exact Int.le_refl _
  | succ n ih =>
    have h1 := ih fun v hv => e v (by omega)
    have h2 := e n (by omega)
    show sumI g n + g n ≤ ((sumf h n + h n : Nat) : Int)
    omega
theorem sumI_eq {g : Nat → Int} {h : Nat → Nat} {n : Nat} (e : ∀ v, v < n → g v = (h v : Int)) : sumI g n = (sumf h n : Nat) := by
  induction n with
  | zero => rfl
  | succ n ih =>
    have h1 := ih fun v hv => e v (by omega)
    have h2 := e n (by omega)
    show sumI g n + g n = ((sumf h n + h n : Nat) : Int)
    omega
/-- what trunk i takes away from switch v -/
def ctr (N : NN) (f : Nat → Int) (i v : Nat) : Int := if nT N i 0 = v then f i else if nT N i 1 = v then - f i else 0
def net (N : NN) (f : Nat → Int) (v : Nat) : Int := sumI (fun i => ctr N f i v) (N 1)
def flT (N : NN) (f : Nat → Int) (S i : Nat) : Int := (if S.testBit (nT N i 0) then f i else 0) + (if S.testBit (nT N i 1) then - f i else 0)
theorem netS {N : NN} {W S : Nat} {f : Nat → Int} (hI : iN N W) : sumI (fun v => if S.testBit v then net N f v else 0) (N 0) = sumI (flT N f S) (N 1) := by
  have e1 : sumI (fun v => if S.testBit v then net N f v else 0) (N 0) = sumI (fun v => sumI (fun i => if S.testBit v then ctr N f i v else 0) (N 1)) (N 0) := by
    apply sumI_congr
    intro v hv
    cases S.testBit v with
    | true => rfl
    | false => exact (sumI_zero fun _ _ => rfl).symm
  rw [e1, sumI_swap (fun i v => if S.testBit v then ctr N f i v else 0)]
  apply sumI_congr
  intro i hi
  obtain ⟨q0, q1, q2, -⟩ := hI.2.1 i hi
  have e2 : sumI (fun v => if S.testBit v then ctr N f i v else 0) (N 0) = sumI (fun v => (if v = nT N i 0 then (if S.testBit (nT N i 0) then f i else 0) else 0) + (if v = nT N i 1 then (if S.testBit (nT N i 1) then - f i else 0) else 0)) (N 0) := by
    apply sumI_congr
    intro v hv
    unfold ctr
    by_cases c : v = nT N i 0
    · subst c
      simp [q2]
    · have c' : ¬ nT N i 0 = v := fun q => c q.symm
      by_cases c2 : v = nT N i 1
      · subst c2
        simp [c, c']
      · have c2' : ¬ nT N i 1 = v := fun q => c2 q.symm
        simp [c, c', c2, c2']
  rw [e2, sumI_add]
  unfold flT
  rw [sumI_one q0 fun v _ h => if_neg h, sumI_one q1 fun v _ h => if_neg h, if_pos rfl, if_pos rfl]
/-- f is a flow of k from a to b over the usable trunks -/
def isF (N : NN) (p : Nat → Bool) (a b : Nat) (f : Nat → Int) (k : Nat) : Prop :=
  (∀ i, i < N 1 → (f i = 0 ∨ p i = true) ∧ -1 ≤ f i ∧ f i ≤ 1) ∧ (∀ v, v < N 0 → v ≠ a → v ≠ b → net N f v = 0) ∧ net N f a = k
theorem flow_net {N : NN} {W S a b k : Nat} {p : Nat → Bool} {f : Nat → Int} (hI : iN N W) (h : isF N p a b f k) (ha : a < N 0) (hSa : S.testBit a = true) (hSb : S.testBit b = false) : sumI (flT N f S) (N 1) = k := by
  rw [← netS hI, sumI_one ha (fun v hv hne => by
    by_cases c : v = b
    · subst c; rw [hSb]; rfl
    · rw [h.2.1 v hv hne c]; split <;> rfl), hSa, if_pos rfl]
  exact h.2.2
theorem flow_le {N : NN} {W S a b k : Nat} {p : Nat → Bool} {f : Nat → Int} (hI : iN N W) (h : isF N p a b f k) (ha : a < N 0) (hSa : S.testBit a = true) (hSb : S.testBit b = false) : k ≤ cutC N p S (N 1) := by
  have h1 := flow_net hI h ha hSa hSb
  have h2 : sumI (flT N f S) (N 1) ≤ (cutC N p S (N 1) : Nat) := sumI_le fun i hi => by
    obtain ⟨g1, g2, g3⟩ := h.1 i hi
    unfold flT cutI
    cases S.testBit (nT N i 0) <;> cases S.testBit (nT N i 1) <;> cases hp : p i <;> simp [hp] at g1 ⊢ <;> omega
  omega
theorem flow_eq {N : NN} {W S a b k : Nat} {p : Nat → Bool} {f : Nat → Int} (hI : iN N W) (h : isF N p a b f k) (ha : a < N 0) (hSa : S.testBit a = true) (hSb : S.testBit b = false)
    (hcl : ∀ i, i < N 1 → p i = true → (S.testBit (nT N i 0) = true → S.testBit (nT N i 1) = false → f i = 1) ∧ (S.testBit (nT N i 0) = false → S.testBit (nT N i 1) = true → f i = -1)) : cutC N p S (N 1) = k := by
  have h1 := flow_net hI h ha hSa hSb
  have h2 : sumI (flT N f S) (N 1) = (cutC N p S (N 1) : Nat) := sumI_eq fun i hi => by
    obtain ⟨g1, g2, g3⟩ := h.1 i hi
    have g4 := hcl i hi
    unfold flT cutI
    cases c0 : S.testBit (nT N i 0) <;> cases c1 : S.testBit (nT N i 1) <;> cases hp : p i <;> simp [hp, c0, c1] at g1 g4 ⊢ <;> omega
  omega
/-- the least cut, once a flow is met by a cut (or is 16) -/
theorem least_flow {N : NN} {W a b k : Nat} {p : Nat → Bool} {f : Nat → Int} (hI : iN N W) (h : isF N p a b f k) (ha : a < N 0) (hk : k ≤ 16) (hex : k = 16 ∨ ∃ S, S < 2 ^ N 0 ∧ S.testBit a = true ∧ S.testBit b = false ∧ cutC N p S (N 1) = k) : leastN N p a b (2 ^ N 0) = k := by
  have hge : ∀ n, k ≤ leastN N p a b n := by
    intro n
    induction n with
    | zero => exact hk
    | succ n ih =>
      unfold leastN
      split
      · rename_i c
        simp only [Bool.and_eq_true, Bool.not_eq_true'] at c
        have := flow_le hI h ha c.1 c.2
        omega
      · exact ih
  have h1 := hge (2 ^ N 0)
  have h2 := leastN_le N p a b (2 ^ N 0)
  rcases hex with q | ⟨S, s1, s2, s3, s4⟩
  · omega
  · have : ∀ n, S < n → leastN N p a b n ≤ k := by
      intro n
      induction n with
      | zero => intro hn; omega
      | succ n ih =>
        intro hn
        unfold leastN
        by_cases c : S = n
        · subst c
          rw [s2, s3]
          simp only [Bool.not_false, Bool.and_self, if_true]
          omega
        · have := ih (by omega)
          split <;> omega
    have := this _ s1
    omega
