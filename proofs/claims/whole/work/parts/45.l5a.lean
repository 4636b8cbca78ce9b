/-! the output line: its text, and how the reference writes it -/
theorem sb_nn {a b : Nat} (h : b ≤ a) : nI a - nI b = nI (a - b) := by
  have e : nI a = nI (a - b) + nI b := by rw [nI_add]; congr 1; omega
  rw [e, Int32.add_sub_cancel]
theorem bmod_i {a : Nat} (h : a < 2 ^ 31) : ((a : Int)).bmod (2 ^ 32) = a := by
  rw [Int.bmod_def]
  split <;> omega
theorem dv_nn {a b : Nat} (ha : a < 2 ^ 31) (hb : b < 2 ^ 31) : nI a / nI b = nI (a / b) := by
  apply Int32.toInt_inj.mp
  have hq : a / b < 2 ^ 31 := Nat.lt_of_le_of_lt (Nat.div_le_self _ _) ha
  rw [Int32.toInt_div, nI_toInt ha, nI_toInt hb, nI_toInt hq]
  have : (Int.tdiv (a : Int) (b : Int)) = ((a / b : Nat) : Int) := by
    rw [Int.ofNat_tdiv]
  rw [this]
  exact bmod_i hq
theorem ml_nn {a b : Nat} (h : a * b < 2 ^ 31) (ha : a < 2 ^ 31) (hb : b < 2 ^ 31) : nI a * nI b = nI (a * b) := by
  apply Int32.toInt_inj.mp
  rw [Int32.toInt_mul, nI_toInt ha, nI_toInt hb, nI_toInt h]
  have : ((a : Int) * (b : Int)) = ((a * b : Nat) : Int) := by push_cast; rfl
  rw [this]
  exact bmod_i h
def dl (v : Nat) : Nat := if v < 10 then 1 else if v < 100 then 2 else if v < 1000 then 3 else if v < 10000 then 4 else if v < 100000 then 5 else if v < 1000000 then 6 else 7
theorem dl_b (v : Nat) : 1 ≤ dl v ∧ dl v ≤ 7 := by
  unfold dl
  repeat' split
  all_goals omega
theorem dl_h {v : Nat} (h : v < 10 ^ 7) : v < 10 ^ dl v := by
  unfold dl
  repeat' split
  all_goals omega
theorem dl_l {v k : Nat} (h1 : k + 1 < dl v) : 10 ≤ v / 10 ^ k := by
  have hb := (dl_b v).2
  have : k = 0 ∨ k = 1 ∨ k = 2 ∨ k = 3 ∨ k = 4 ∨ k = 5 := by omega
  unfold dl at h1
  rcases this with h | h | h | h | h | h <;> subst h <;> (repeat' split at h1) <;> omega
theorem dl_d {v : Nat} (h : v < 10 ^ 7) : v / 10 ^ (dl v - 1) < 10 := by
  have := dl_h h
  have hb := (dl_b v).1
  rw [Nat.div_lt_iff_lt_mul (Nat.pow_pos (by omega))]
  have e : 10 * 10 ^ (dl v - 1) = 10 ^ dl v := by
    rw [Nat.mul_comm, ← Nat.pow_succ]
    congr 1
    omega
  omega
def psh (lw : LW) (c : Nat) : LW := (lw.1 + 1, fun j => if j = lw.1 then c else lw.2 j)
/-- the d lowest digits of v, the highest first -/
def pdg (lw : LW) (v d : Nat) : LW := (lw.1 + d, fun j => if lw.1 ≤ j ∧ j < lw.1 + d then 48 + v / 10 ^ (lw.1 + d - 1 - j) % 10 else lw.2 j)
def pnum (lw : LW) (v : Nat) : LW := pdg lw v (dl v)
theorem pdg_0 (lw : LW) (v : Nat) : pdg lw v 0 = lw := by
  unfold pdg
  have : (fun j => if lw.1 ≤ j ∧ j < lw.1 + 0 then 48 + v / 10 ^ (lw.1 + 0 - 1 - j) % 10 else lw.2 j) = lw.2 := by
    funext j
    rw [if_neg (by omega)]
  rw [this]; rfl
theorem pdg_s (lw : LW) (v d : Nat) : pdg (psh lw (48 + v / 10 ^ d % 10)) v d = pdg lw v (d + 1) := by
  unfold pdg psh
  dsimp only
  rw [Prod.mk.injEq]
  refine ⟨by omega, ?_⟩
  funext j
  by_cases h1 : lw.1 + 1 ≤ j ∧ j < lw.1 + 1 + d
  · rw [if_pos h1, if_pos (by omega)]
    congr 4
    omega
  · rw [if_neg h1]
    by_cases h2 : j = lw.1
    · subst h2
      rw [if_pos rfl, if_pos (by omega)]
      congr 4
      omega
    · rw [if_neg h2, if_neg (by omega)]
def onlyWr (Z Z' : ZZ) : Prop := (∀ k j, k ≠ 9 → (k = 0 → j ≠ 16) → gI Z' k j = gI Z k j) ∧ ∀ k, gL Z' k = gL Z k
theorem onlyWr_rf (Z : ZZ) : onlyWr Z Z := ⟨fun _ _ _ _ => rfl, fun _ => rfl⟩
theorem onlyWr_tr {A B C : ZZ} (h1 : onlyWr A B) (h2 : onlyWr B C) : onlyWr A C := ⟨fun k j a b => (h2.1 k j a b).trans (h1.1 k j a b), fun k => (h2.2 k).trans (h1.2 k)⟩
theorem onlyWr_16 (Z : ZZ) (x : Int32) : onlyWr Z (pI Z 0 16 x) := ⟨fun k j _ b => gI_pI_o _ _ b, fun _ => rfl⟩
theorem onlyWr_9 (Z : ZZ) (j : Nat) (x : Int32) : onlyWr Z (pI Z 9 j x) := ⟨fun k i a _ => gI_pI_o _ _ (fun q => absurd q a), fun _ => rfl⟩
theorem r_write {lw : LW} {c : Nat} {Z : ZZ} (h : oK lw Z) (hl : lw.1 < 80) (hc : c < 128) : ∃ Z', sX8_write (nI c) Z = some Z' ∧ oK (psh lw c) Z' ∧ onlyWr Z Z' := by
  obtain ⟨h1, h2, h3⟩ := h
  refine ⟨pI (pI Z 9 lw.1 (nI c)) 0 16 (nI (lw.1 + 1)), ?_, ⟨by show lw.1 + 1 ≤ 80; omega, gI_pI_s _ _ _ _, fun j hj => ?_⟩, onlyWr_tr (onlyWr_9 _ _ _) (onlyWr_16 _ _)⟩
  · unfold sX8_write
    rw [h2, gd_t (vin_n hl (by decide)), cl_n (by omega), nm_d, nm_d, gI_pI_k _ _ _ _ (by decide), h2, ad_n1]
  · have hj : j < lw.1 + 1 := hj
    rw [gI_pI_k _ _ _ _ (by decide)]
    by_cases e : j = lw.1
    · subst e
      rw [gI_pI_s]
      unfold psh
      dsimp only
      rw [if_pos rfl]
      exact ⟨rfl, hc⟩
    · rw [gI_pI_j _ _ _ _ e]
      unfold psh
      dsimp only
      rw [if_neg e]
      exact h3 j (by omega)
theorem r_num_b {v : Nat} (hv : v < 10 ^ 7) : ∀ (d n : Nat) (lw : LW) (Z : ZZ), d < 7 → d + 1 < n → lw.1 + d + 1 ≤ 80 → oK lw Z → v / 10 ^ d < 10 ∨ True → ∃ Z', sX8_writeNumber_L18 (nI v) n (nI (10 ^ d)) Z = some Z' ∧ oK (pdg lw v (d + 1)) Z' ∧ onlyWr Z Z' := by
  intro d
  induction d with
  | zero =>
    intro n lw Z _ hn hl h _
    obtain ⟨n, rfl⟩ : ∃ q, n = q + 1 + 1 := ⟨n - 2, by omega⟩
    obtain ⟨Z1, a1, a2, a3⟩ := r_write (c := 48 + v / 10 ^ 0 % 10) h (by omega) (by omega)
    refine ⟨Z1, ?_, by rw [← pdg_s, pdg_0]; exact a2, a3⟩
    have e : (48 : Int32) + (nI v / nI (10 ^ 0) - nI v / nI (10 ^ 0) / 10 * 10) = nI (48 + v / 10 ^ 0 % 10) := by
      rw [dv_nn (by omega) (by decide), show (10 : Int32) = nI 10 from rfl, dv_nn (by rw [Nat.pow_zero, Nat.div_one]; omega) (by decide), ml_nn (by omega) (by omega) (by decide), sb_nn (by omega), show (48 : Int32) = nI 48 from rfl, nI_add]
      congr 1
      omega
    rw [sX8_writeNumber_L18, if_neg (by decide), gd_t (by decide), e, a1, bnd_s, nm_d, show nI (10 ^ 0) / 10 = 0 by decide, sX8_writeNumber_L18, if_pos (by decide)]
  | succ d ih =>
    intro n lw Z hd hn hl h _
    obtain ⟨n, rfl⟩ : ∃ q, n = q + 1 := ⟨n - 1, by omega⟩
    obtain ⟨Z1, a1, a2, a3⟩ := r_write (c := 48 + v / 10 ^ (d + 1) % 10) h (by omega) (by omega)
    obtain ⟨Z2, b1, b2, b3⟩ := ih n (psh lw (48 + v / 10 ^ (d + 1) % 10)) Z1 (by omega) (by omega) (by show lw.1 + 1 + d + 1 ≤ 80; omega) a2 (Or.inr trivial)
    refine ⟨Z2, ?_, by rw [← pdg_s]; exact b2, onlyWr_tr a3 b3⟩
    have hp : 10 ^ (d + 1) < 2 ^ 31 := Nat.lt_of_le_of_lt (Nat.pow_le_pow_right (by omega) (show d + 1 ≤ 6 by omega)) (by decide)
    have hp0 : 0 < 10 ^ (d + 1) := Nat.pow_pos (by omega)
    have hq : v / 10 ^ (d + 1) < 10 ^ 7 := Nat.lt_of_le_of_lt (Nat.div_le_self _ _) hv
    have e : (48 : Int32) + (nI v / nI (10 ^ (d + 1)) - nI v / nI (10 ^ (d + 1)) / 10 * 10) = nI (48 + v / 10 ^ (d + 1) % 10) := by
      rw [dv_nn (by omega) hp]
      generalize v / 10 ^ (d + 1) = w at hq
      rw [show (10 : Int32) = nI 10 from rfl, dv_nn (by omega) (by decide), ml_nn (by omega) (by omega) (by decide), sb_nn (by omega), show (48 : Int32) = nI 48 from rfl, nI_add]
      congr 1
      omega
    rw [sX8_writeNumber_L18, if_neg (nI_nle hp0 hp), gd_t (nI_ne0 hp0 hp), e, a1, bnd_s, nm_d]
    have e2 : nI (10 ^ (d + 1)) / 10 = nI (10 ^ d) := by
      rw [show (10 : Int32) = nI 10 from rfl, dv_nn hp (by decide), Nat.pow_succ, Nat.mul_div_cancel _ (by omega)]
    rw [e2]
    exact b1
theorem r_num_a {v : Nat} (hv : v < 10 ^ 7) {lw : LW} {Z : ZZ} (hl : lw.1 + 7 ≤ 80) (h : oK lw Z) : ∀ (e k n : Nat), k + 1 + e = dl v → e < n → ∃ Z', sX8_writeNumber_L2 (nI v) n (nI (10 ^ k)) Z = some Z' ∧ oK (pnum lw v) Z' ∧ onlyWr Z Z' := by
  have hb := dl_b v
  intro e
  induction e with
  | zero =>
    intro k n hk hn
    obtain ⟨n, rfl⟩ : ∃ q, n = q + 1 := ⟨n - 1, by omega⟩
    have hp : 10 ^ k < 2 ^ 31 := Nat.lt_of_le_of_lt (Nat.pow_le_pow_right (by omega) (show k ≤ 6 by omega)) (by decide)
    have hp0 : 0 < 10 ^ k := Nat.pow_pos (by omega)
    obtain ⟨Z1, a1, a2, a3⟩ := r_num_b hv k 3000 lw Z (by omega) (by omega) (by omega) h (Or.inr trivial)
    have e : k + 1 = dl v := by omega
    have hd := dl_d hv
    rw [← e] at hd
    have hd : v / 10 ^ k < 10 := hd
    refine ⟨Z1, ?_, by unfold pnum; rw [← e]; exact a2, a3⟩
    rw [sX8_writeNumber_L2, gd_t (nI_ne0 hp0 hp), dv_nn (by omega) hp, if_pos (show nI (v / 10 ^ k) ≤ 9 from nI_le (show v / 10 ^ k ≤ 9 by omega) (by decide))]
    exact a1
  | succ e ih =>
    intro k n hk hn
    obtain ⟨n, rfl⟩ : ∃ q, n = q + 1 := ⟨n - 1, by omega⟩
    have hp : 10 ^ k < 2 ^ 31 := Nat.lt_of_le_of_lt (Nat.pow_le_pow_right (by omega) (show k ≤ 6 by omega)) (by decide)
    have hp1 : 10 ^ (k + 1) < 2 ^ 31 := Nat.lt_of_le_of_lt (Nat.pow_le_pow_right (by omega) (show k + 1 ≤ 6 by omega)) (by decide)
    have hp0 : 0 < 10 ^ k := Nat.pow_pos (by omega)
    have hg := dl_l (v := v) (k := k) (by omega)
    have hq : v / 10 ^ k < 10 ^ 7 := Nat.lt_of_le_of_lt (Nat.div_le_self _ _) hv
    obtain ⟨Z1, a1, a2, a3⟩ := ih (k + 1) n (by omega) (by omega)
    refine ⟨Z1, ?_, a2, a3⟩
    rw [sX8_writeNumber_L2, gd_t (nI_ne0 hp0 hp), dv_nn (by omega) hp, if_neg (show ¬ nI (v / 10 ^ k) ≤ 9 from nI_ge (show 9 < v / 10 ^ k by omega) (by omega)), nm_d, show (10 : Int32) = nI 10 from rfl, ml_nn (by rw [← Nat.pow_succ]; exact hp1) hp (by decide), ← Nat.pow_succ]
    exact a1
theorem r_num {v : Nat} {lw : LW} {Z : ZZ} (hv : v < 10 ^ 7) (hl : lw.1 + 7 ≤ 80) (h : oK lw Z) : ∃ Z', sX8_writeNumber (nI v) Z = some Z' ∧ oK (pnum lw v) Z' ∧ onlyWr Z Z' :=
  r_num_a hv hl h (dl v - 1) 0 3000 (by have := (dl_b v).1; omega) (by have := (dl_b v).2; omega)
