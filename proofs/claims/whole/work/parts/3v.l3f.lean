/-! copies of the reference's rows -/
theorem m_cp22_L {t0 t2 c1 c3 : Nat} {Z0 : ZZ} (hd : t0 ≠ t2 ∨ c3 + 180 ≤ c1 ∨ c1 + 180 ≤ c3) (b1 : c1 + 180 ≤ 180) (b3 : c3 + 180 ≤ 180) : ∀ (e k n : Nat) (Z : ZZ), k + e = 180 → e < n → (∀ j, j < k → gI Z t2 (c3 + j) = gI Z0 t0 (c1 + j)) → (∀ q j, (q = t2 → j < c3 ∨ c3 + k ≤ j) → gI Z q j = gI Z0 q j) → (∀ q, gL Z q = gL Z0 q) →
    ∃ Z', sX8_copy_2_2_L3 t0 (nI c1) t2 (nI c3) n (nI k) Z = some Z' ∧ (∀ j, j < 180 → gI Z' t2 (c3 + j) = gI Z0 t0 (c1 + j)) ∧ (∀ q j, (q = t2 → j < c3 ∨ c3 + 180 ≤ j) → gI Z' q j = gI Z0 q j) ∧ ∀ q, gL Z' q = gL Z0 q := by
  intro e
  induction e with
  | zero =>
    intro k n Z hk hn h1 h2 h3
    obtain ⟨n, rfl⟩ : ∃ q, n = q + 1 := ⟨n - 1, by omega⟩
    have hk2 : k = 180 := by omega
    subst hk2
    exact ⟨Z, by rw [sX8_copy_2_2_L3, if_pos (by decide)], h1, h2, h3⟩
  | succ e ih =>
    intro k n Z hk hn h1 h2 h3
    obtain ⟨n, rfl⟩ : ∃ q, n = q + 1 := ⟨n - 1, by omega⟩
    have hr : gI Z t0 (c1 + k) = gI Z0 t0 (c1 + k) := h2 _ _ (fun q => by omega)
    obtain ⟨Z', a1, a2⟩ := ih (k + 1) n (pI Z t2 (c3 + k) (gI Z0 t0 (c1 + k))) (by omega) (by omega) (fun j hj => by
      by_cases c : j = k
      · rw [c, gI_pI_s]
      · rw [gI_pI_j _ _ _ _ (by omega)]; exact h1 j (by omega)) (fun q j hq => by
      rw [gI_pI_o _ _ (fun e => by have := hq e; omega)]
      exact h2 q j (fun e => by have := hq e; omega)) h3
    refine ⟨Z', ?_, a2⟩
    rw [sX8_copy_2_2_L3, if_neg (lge (show k < 180 by omega) (by decide)), nI_add, nI_add, gd_t (vin_n (by omega) (by decide)), gd_t (vin_n (by omega) (by decide)), cl_n (by omega), cl_n (by omega), hr, nm_d, nm_d, ad_n1]
    exact a1
theorem m_cp22 {t0 t2 c1 c3 : Nat} {Z : ZZ} (h0 : shR t0 = 2) (h2 : shR t2 = 2) (hd : t0 ≠ t2 ∨ c3 + 180 ≤ c1 ∨ c1 + 180 ≤ c3) (b1 : c1 + 180 ≤ 180) (b3 : c3 + 180 ≤ 180) : ∃ Z', sX8_copy_2_2 t0 (nI c1) t2 (nI c3) Z = some Z' ∧ (∀ j, j < 180 → gI Z' t2 (c3 + j) = gI Z t0 (c1 + j)) ∧ (∀ q j, (q = t2 → j < c3 ∨ c3 + 180 ≤ j) → gI Z' q j = gI Z q j) ∧ ∀ q, gL Z' q = gL Z q := by
  obtain ⟨Z', a1, a2⟩ := m_cp22_L (Z0 := Z) hd b1 b3 180 0 3000 Z (by omega) (by omega) (fun j hj => by omega) (fun _ _ _ => rfl) (fun _ => rfl)
  refine ⟨Z', ?_, a2⟩
  unfold sX8_copy_2_2
  rw [gd_t h0, gd_t h2]
  exact a1
theorem m_cp23_L {t0 t2 c1 c3 : Nat} {Z0 : ZZ} (hd : t0 ≠ t2 ∨ c3 + 180 ≤ c1 ∨ c1 + 180 ≤ c3) (b1 : c1 + 180 ≤ 180) (b3 : c3 + 180 ≤ 1440) : ∀ (e k n : Nat) (Z : ZZ), k + e = 180 → e < n → (∀ j, j < k → gI Z t2 (c3 + j) = gI Z0 t0 (c1 + j)) → (∀ q j, (q = t2 → j < c3 ∨ c3 + k ≤ j) → gI Z q j = gI Z0 q j) → (∀ q, gL Z q = gL Z0 q) →
    ∃ Z', sX8_copy_2_3_L3 t0 (nI c1) t2 (nI c3) n (nI k) Z = some Z' ∧ (∀ j, j < 180 → gI Z' t2 (c3 + j) = gI Z0 t0 (c1 + j)) ∧ (∀ q j, (q = t2 → j < c3 ∨ c3 + 180 ≤ j) → gI Z' q j = gI Z0 q j) ∧ ∀ q, gL Z' q = gL Z0 q := by
  intro e
  induction e with
  | zero =>
    intro k n Z hk hn h1 h2 h3
    obtain ⟨n, rfl⟩ : ∃ q, n = q + 1 := ⟨n - 1, by omega⟩
    have hk2 : k = 180 := by omega
    subst hk2
    exact ⟨Z, by rw [sX8_copy_2_3_L3, if_pos (by decide)], h1, h2, h3⟩
  | succ e ih =>
    intro k n Z hk hn h1 h2 h3
    obtain ⟨n, rfl⟩ : ∃ q, n = q + 1 := ⟨n - 1, by omega⟩
    have hr : gI Z t0 (c1 + k) = gI Z0 t0 (c1 + k) := h2 _ _ (fun q => by omega)
    obtain ⟨Z', a1, a2⟩ := ih (k + 1) n (pI Z t2 (c3 + k) (gI Z0 t0 (c1 + k))) (by omega) (by omega) (fun j hj => by
      by_cases c : j = k
      · rw [c, gI_pI_s]
      · rw [gI_pI_j _ _ _ _ (by omega)]; exact h1 j (by omega)) (fun q j hq => by
      rw [gI_pI_o _ _ (fun e => by have := hq e; omega)]
      exact h2 q j (fun e => by have := hq e; omega)) h3
    refine ⟨Z', ?_, a2⟩
    rw [sX8_copy_2_3_L3, if_neg (lge (show k < 180 by omega) (by decide)), nI_add, nI_add, gd_t (vin_n (by omega) (by decide)), gd_t (vin_n (by omega) (by decide)), cl_n (by omega), cl_n (by omega), hr, nm_d, nm_d, ad_n1]
    exact a1
theorem m_cp23 {t0 t2 c1 c3 : Nat} {Z : ZZ} (h0 : shR t0 = 2) (h2 : shR t2 = 3) (hd : t0 ≠ t2 ∨ c3 + 180 ≤ c1 ∨ c1 + 180 ≤ c3) (b1 : c1 + 180 ≤ 180) (b3 : c3 + 180 ≤ 1440) : ∃ Z', sX8_copy_2_3 t0 (nI c1) t2 (nI c3) Z = some Z' ∧ (∀ j, j < 180 → gI Z' t2 (c3 + j) = gI Z t0 (c1 + j)) ∧ (∀ q j, (q = t2 → j < c3 ∨ c3 + 180 ≤ j) → gI Z' q j = gI Z q j) ∧ ∀ q, gL Z' q = gL Z q := by
  obtain ⟨Z', a1, a2⟩ := m_cp23_L (Z0 := Z) hd b1 b3 180 0 3000 Z (by omega) (by omega) (fun j hj => by omega) (fun _ _ _ => rfl) (fun _ => rfl)
  refine ⟨Z', ?_, a2⟩
  unfold sX8_copy_2_3
  rw [gd_t h0, gd_t h2]
  exact a1
theorem m_cp33_L {t0 t2 c1 c3 : Nat} {Z0 : ZZ} (hd : t0 ≠ t2 ∨ c3 + 180 ≤ c1 ∨ c1 + 180 ≤ c3) (b1 : c1 + 180 ≤ 1440) (b3 : c3 + 180 ≤ 1440) : ∀ (e k n : Nat) (Z : ZZ), k + e = 180 → e < n → (∀ j, j < k → gI Z t2 (c3 + j) = gI Z0 t0 (c1 + j)) → (∀ q j, (q = t2 → j < c3 ∨ c3 + k ≤ j) → gI Z q j = gI Z0 q j) → (∀ q, gL Z q = gL Z0 q) →
    ∃ Z', sX8_copy_3_3_L3 t0 (nI c1) t2 (nI c3) n (nI k) Z = some Z' ∧ (∀ j, j < 180 → gI Z' t2 (c3 + j) = gI Z0 t0 (c1 + j)) ∧ (∀ q j, (q = t2 → j < c3 ∨ c3 + 180 ≤ j) → gI Z' q j = gI Z0 q j) ∧ ∀ q, gL Z' q = gL Z0 q := by
  intro e
  induction e with
  | zero =>
    intro k n Z hk hn h1 h2 h3
    obtain ⟨n, rfl⟩ : ∃ q, n = q + 1 := ⟨n - 1, by omega⟩
    have hk2 : k = 180 := by omega
    subst hk2
    exact ⟨Z, by rw [sX8_copy_3_3_L3, if_pos (by decide)], h1, h2, h3⟩
  | succ e ih =>
    intro k n Z hk hn h1 h2 h3
    obtain ⟨n, rfl⟩ : ∃ q, n = q + 1 := ⟨n - 1, by omega⟩
    have hr : gI Z t0 (c1 + k) = gI Z0 t0 (c1 + k) := h2 _ _ (fun q => by omega)
    obtain ⟨Z', a1, a2⟩ := ih (k + 1) n (pI Z t2 (c3 + k) (gI Z0 t0 (c1 + k))) (by omega) (by omega) (fun j hj => by
      by_cases c : j = k
      · rw [c, gI_pI_s]
      · rw [gI_pI_j _ _ _ _ (by omega)]; exact h1 j (by omega)) (fun q j hq => by
      rw [gI_pI_o _ _ (fun e => by have := hq e; omega)]
      exact h2 q j (fun e => by have := hq e; omega)) h3
    refine ⟨Z', ?_, a2⟩
    rw [sX8_copy_3_3_L3, if_neg (lge (show k < 180 by omega) (by decide)), nI_add, nI_add, gd_t (vin_n (by omega) (by decide)), gd_t (vin_n (by omega) (by decide)), cl_n (by omega), cl_n (by omega), hr, nm_d, nm_d, ad_n1]
    exact a1
theorem m_cp33 {t0 t2 c1 c3 : Nat} {Z : ZZ} (h0 : shR t0 = 3) (h2 : shR t2 = 3) (hd : t0 ≠ t2 ∨ c3 + 180 ≤ c1 ∨ c1 + 180 ≤ c3) (b1 : c1 + 180 ≤ 1440) (b3 : c3 + 180 ≤ 1440) : ∃ Z', sX8_copy_3_3 t0 (nI c1) t2 (nI c3) Z = some Z' ∧ (∀ j, j < 180 → gI Z' t2 (c3 + j) = gI Z t0 (c1 + j)) ∧ (∀ q j, (q = t2 → j < c3 ∨ c3 + 180 ≤ j) → gI Z' q j = gI Z q j) ∧ ∀ q, gL Z' q = gL Z q := by
  obtain ⟨Z', a1, a2⟩ := m_cp33_L (Z0 := Z) hd b1 b3 180 0 3000 Z (by omega) (by omega) (fun j hj => by omega) (fun _ _ _ => rfl) (fun _ => rfl)
  refine ⟨Z', ?_, a2⟩
  unfold sX8_copy_3_3
  rw [gd_t h0, gd_t h2]
  exact a1
theorem m_cp32_L {t0 t2 c1 c3 : Nat} {Z0 : ZZ} (hd : t0 ≠ t2 ∨ c3 + 180 ≤ c1 ∨ c1 + 180 ≤ c3) (b1 : c1 + 180 ≤ 1440) (b3 : c3 + 180 ≤ 180) : ∀ (e k n : Nat) (Z : ZZ), k + e = 180 → e < n → (∀ j, j < k → gI Z t2 (c3 + j) = gI Z0 t0 (c1 + j)) → (∀ q j, (q = t2 → j < c3 ∨ c3 + k ≤ j) → gI Z q j = gI Z0 q j) → (∀ q, gL Z q = gL Z0 q) →
    ∃ Z', sX8_copy_3_2_L3 t0 (nI c1) t2 (nI c3) n (nI k) Z = some Z' ∧ (∀ j, j < 180 → gI Z' t2 (c3 + j) = gI Z0 t0 (c1 + j)) ∧ (∀ q j, (q = t2 → j < c3 ∨ c3 + 180 ≤ j) → gI Z' q j = gI Z0 q j) ∧ ∀ q, gL Z' q = gL Z0 q := by
  intro e
  induction e with
  | zero =>
    intro k n Z hk hn h1 h2 h3
    obtain ⟨n, rfl⟩ : ∃ q, n = q + 1 := ⟨n - 1, by omega⟩
    have hk2 : k = 180 := by omega
    subst hk2
    exact ⟨Z, by rw [sX8_copy_3_2_L3, if_pos (by decide)], h1, h2, h3⟩
  | succ e ih =>
    intro k n Z hk hn h1 h2 h3
    obtain ⟨n, rfl⟩ : ∃ q, n = q + 1 := ⟨n - 1, by omega⟩
    have hr : gI Z t0 (c1 + k) = gI Z0 t0 (c1 + k) := h2 _ _ (fun q => by omega)
    obtain ⟨Z', a1, a2⟩ := ih (k + 1) n (pI Z t2 (c3 + k) (gI Z0 t0 (c1 + k))) (by omega) (by omega) (fun j hj => by
      by_cases c : j = k
      · rw [c, gI_pI_s]
      · rw [gI_pI_j _ _ _ _ (by omega)]; exact h1 j (by omega)) (fun q j hq => by
      rw [gI_pI_o _ _ (fun e => by have := hq e; omega)]
      exact h2 q j (fun e => by have := hq e; omega)) h3
    refine ⟨Z', ?_, a2⟩
    rw [sX8_copy_3_2_L3, if_neg (lge (show k < 180 by omega) (by decide)), nI_add, nI_add, gd_t (vin_n (by omega) (by decide)), gd_t (vin_n (by omega) (by decide)), cl_n (by omega), cl_n (by omega), hr, nm_d, nm_d, ad_n1]
    exact a1
theorem m_cp32 {t0 t2 c1 c3 : Nat} {Z : ZZ} (h0 : shR t0 = 3) (h2 : shR t2 = 2) (hd : t0 ≠ t2 ∨ c3 + 180 ≤ c1 ∨ c1 + 180 ≤ c3) (b1 : c1 + 180 ≤ 1440) (b3 : c3 + 180 ≤ 180) : ∃ Z', sX8_copy_3_2 t0 (nI c1) t2 (nI c3) Z = some Z' ∧ (∀ j, j < 180 → gI Z' t2 (c3 + j) = gI Z t0 (c1 + j)) ∧ (∀ q j, (q = t2 → j < c3 ∨ c3 + 180 ≤ j) → gI Z' q j = gI Z q j) ∧ ∀ q, gL Z' q = gL Z q := by
  obtain ⟨Z', a1, a2⟩ := m_cp32_L (Z0 := Z) hd b1 b3 180 0 3000 Z (by omega) (by omega) (fun j hj => by omega) (fun _ _ _ => rfl) (fun _ => rfl)
  refine ⟨Z', ?_, a2⟩
  unfold sX8_copy_3_2
  rw [gd_t h0, gd_t h2]
  exact a1
/-! the reference: begin, commit -/
theorem m_begin {N : NN} {Z : ZZ} (hA : rA N Z 1) : ∃ Z', sX8_begin Z = some Z' ∧ rA N Z' 2 ∧ gI Z' 0 8 = nI 0 ∧ (∀ k j, k ≠ 2 → (k = 0 → j ≠ 8) → gI Z' k j = gI Z k j) ∧ ∀ k, gL Z' k = gL Z k := by
  obtain ⟨Z', a1, a2, a3, a4⟩ := m_cp22 (t0 := 1) (t2 := 2) (c1 := 0) (c3 := 0) (Z := pI Z 0 8 0) (by decide) (by decide) (by omega) (by omega) (by omega)
  refine ⟨Z', ?_, fun j hj => ?_, ?_, fun k j h1 h2 => ?_, a4⟩
  · unfold sX8_begin
    rw [nm_d, show sX8_copy_2_2 1 0 2 0 (pI Z 0 8 0) = some Z' from a1, bnd_s]
  · have := a2 j hj
    rw [Nat.zero_add, gI_pI_k _ _ _ _ (by decide)] at this
    rw [this]; exact hA j hj
  · rw [a3 _ _ (by omega), gI_pI_s]; rfl
  · rw [a3 _ _ (fun q => absurd q h1), gI_pI_o _ _ h2]
def hKr (Hs : Nat → NN) (n : Nat) (Z : ZZ) : Prop := gI Z 0 9 = nI n ∧ ∀ j, j < n → ∀ q, q < 180 → gI Z 4 (180 * j + q) = nI (Hs j q)
def puH (Hs : Nat → NN) (n : Nat) (N : NN) : Nat → NN := fun j => if n < 8 then (if j = n then N else Hs j) else (if j = 7 then N else Hs (j + 1))
def puN (n : Nat) : Nat := if n < 8 then n + 1 else 8
theorem m_c56 {Hs : Nat → NN} {n : Nat} {N : NN} {Z : ZZ} {x : Int32} (hn : n < 8) (hH : hKr Hs n Z) (hA : rA N Z 2) : ∃ Z', sX8_commit_B56 x Z = some (x, Z') ∧ hKr (fun j => if j = n then N else Hs j) (n + 1) Z' ∧ (∀ k j, k ≠ 4 → (k = 0 → j ≠ 9) → gI Z' k j = gI Z k j) ∧ ∀ k, gL Z' k = gL Z k := by
  obtain ⟨h9, hj⟩ := hH
  obtain ⟨Z1, a1, a2, a3, a4⟩ := m_cp23 (t0 := 2) (t2 := 4) (c1 := 0) (c3 := 180 * n) (Z := Z) (by decide) (by decide) (by omega) (by omega) (by omega)
  have e9 : gI Z1 0 9 = nI n := by rw [a3 _ _ (by omega)]; exact h9
  refine ⟨pI Z1 0 9 (nI (n + 1)), ?_, ⟨gI_pI_s _ _ _ _, fun j h q hq => ?_⟩, fun k j h1 h2 => ?_, a4⟩
  · unfold sX8_commit_B56
    rw [h9, show (180 : Int32) * nI n = nI (180 * n) from pk_mul 180 n, show sX8_copy_2_3 2 0 4 (nI (180 * n)) Z = some Z1 from a1, bnd_s, e9, ad_n1, nm_d]
  · rw [gI_pI_k _ _ _ _ (by decide)]
    dsimp only
    by_cases c : j = n
    · rw [if_pos c, c, a2 q hq, Nat.zero_add]; exact hA q hq
    · rw [if_neg c, a3 _ _ (by omega)]; exact hj j (by omega) q hq
  · rw [gI_pI_o _ _ h2, a3 _ _ (fun q => absurd q h1)]
theorem m_c_L {Hs : Nat → NN} {x : Int32} : ∀ (e k n : Nat) (Z : ZZ), k + e = 8 → e < n → 1 ≤ k → (∀ j, j + 1 < k → ∀ q, q < 180 → gI Z 4 (180 * j + q) = nI (Hs (j + 1) q)) → (∀ j, k ≤ j + 1 → j < 8 → ∀ q, q < 180 → gI Z 4 (180 * j + q) = nI (Hs j q)) →
    ∃ Z', sX8_commit_L11 x n (nI k) Z = sX8_commit_B46 x Z' ∧ (∀ j, j < 7 → ∀ q, q < 180 → gI Z' 4 (180 * j + q) = nI (Hs (j + 1) q)) ∧ (∀ k j, k ≠ 4 → gI Z' k j = gI Z k j) ∧ ∀ k, gL Z' k = gL Z k := by
  intro e
  induction e with
  | zero =>
    intro k n Z hk hn h1 hlo hhi
    obtain ⟨n, rfl⟩ : ∃ q, n = q + 1 := ⟨n - 1, by omega⟩
    have hk2 : k = 8 := by omega
    subst hk2
    exact ⟨Z, by rw [sX8_commit_L11, if_pos (by decide)], fun j hj => hlo j (by omega), fun _ _ _ => rfl, fun _ => rfl⟩
  | succ e ih =>
    intro k n Z hk hn h1 hlo hhi
    obtain ⟨n, rfl⟩ : ∃ q, n = q + 1 := ⟨n - 1, by omega⟩
    obtain ⟨Z1, a1, a2, a3, a4⟩ := m_cp33 (t0 := 4) (t2 := 4) (c1 := 180 * k) (c3 := 180 * (k - 1)) (Z := Z) (by decide) (by decide) (by omega) (by omega) (by omega)
    obtain ⟨Z', b1, b2, b3, b4⟩ := ih (k + 1) n Z1 (by omega) (by omega) (by omega) (fun j hj q hq => by
      by_cases c : j = k - 1
      · rw [c, a2 q hq, show k - 1 + 1 = k by omega]; exact hhi k (by omega) (by omega) q hq
      · rw [a3 _ _ (by omega)]; exact hlo j (by omega) q hq) (fun j j1 j2 q hq => by
      rw [a3 _ _ (by omega)]; exact hhi j (by omega) j2 q hq)
    refine ⟨Z', ?_, b2, fun q j h => by rw [b3 q j h, a3 _ _ (fun e => absurd e h)], fun q => (b4 q).trans (a4 q)⟩
    rw [sX8_commit_L11, if_neg (lge (show k < 8 by omega) (by decide)), show nI k - 1 = nI (k - 1) from pk_sub (b := 1) h1, show (180 : Int32) * nI k = nI (180 * k) from pk_mul 180 k, show (180 : Int32) * nI (k - 1) = nI (180 * (k - 1)) from pk_mul 180 (k - 1), a1, bnd_s, nm_d, ad_n1]
    exact b1
theorem m_commit {Hs : Nat → NN} {n : Nat} {N : NN} {Z : ZZ} {x : Int32} (hn : n ≤ 8) (hH : hKr Hs n Z) (hA : rA N Z 2) : ∃ Z', sX8_commit x Z = some (x, Z') ∧ hKr (puH Hs n N) (puN n) Z' ∧ (∀ k j, k ≠ 4 → (k = 0 → j ≠ 9) → gI Z' k j = gI Z k j) ∧ ∀ k, gL Z' k = gL Z k := by
  by_cases c : n < 8
  · obtain ⟨Z', a1, a2, a3⟩ := m_c56 (x := x) c hH hA
    refine ⟨Z', ?_, ?_, a3⟩
    · unfold sX8_commit
      rw [hH.1]
      simp only [eq_nl (show n < 2 ^ 31 by omega) (show 8 < 2 ^ 31 by decide)]
      rw [if_neg (by omega)]; exact a1
    · unfold puH puN
      simp only [if_pos c]; exact a2
  · have h8 : n = 8 := by omega
    subst h8
    obtain ⟨h9, hj⟩ := hH
    obtain ⟨Z1, b1, b2, b3, b4⟩ := m_c_L (Hs := Hs) (x := x) 7 1 3000 Z (by omega) (by omega) (by omega) (fun j hj => by omega) (fun j _ h2 => hj j h2)
    obtain ⟨Z', a1, a2, a3, a4⟩ := m_c56 (x := x) (N := N) (n := 7) (Hs := fun j => Hs (j + 1)) (Z := pI Z1 0 9 (nI 7)) (by decide) ⟨gI_pI_s _ _ _ _, fun j hj q hq => by rw [gI_pI_k _ _ _ _ (by decide)]; exact b2 j hj q hq⟩ (fun j hj => by rw [gI_pI_k _ _ _ _ (by decide), b3 _ _ (by decide)]; exact hA j hj)
    refine ⟨Z', ?_, ?_, fun k j h1 h2 => by rw [a3 k j h1 h2, gI_pI_o _ _ h2, b3 k j h1], fun k => (a4 k).trans (b4 k)⟩
    · unfold sX8_commit
      rw [h9, if_pos (by decide)]
      refine Eq.trans (show sX8_commit_L11 x 3000 1 Z = _ from b1) ?_
      unfold sX8_commit_B46
      rw [b3 _ _ (by decide), h9, show nI 8 - 1 = nI 7 by decide, nm_d]
      exact a1
    · unfold puH puN
      simp only [if_neg c]; exact a2
/-! the class: copies of states; the ring -/
theorem sh13 {b : Nat} (h : shC b = 13) : ∃ j, j < 11 ∧ b = 19 + 20 * j := by
  have h1 : ∀ k, k < 239 → shC k = 13 → 19 ≤ k ∧ (k - 19) % 20 = 0 := by decide +kernel
  have h2 := shC_lt h (by decide)
  obtain ⟨a, c⟩ := h1 b h2 h
  exact ⟨(b - 19) / 20, by omega, by omega⟩
def oB (b : Nat) (Z Z' : ZZ) : Prop := (∀ k j, (k < b ∨ b + 19 < k) → gI Z' k j = gI Z k j) ∧ ∀ k, k ≠ b → gL Z' k = gL Z k
theorem oB_tr {b : Nat} {A B C : ZZ} (h1 : oB b A B) (h2 : oB b B C) : oB b A C := ⟨fun k j h => (h2.1 k j h).trans (h1.1 k j h), fun k h => (h2.2 k h).trans (h1.2 k h)⟩
theorem p_nCopy {Z : ZZ} {t0 t1 : Nat} (h0 : shC t0 = 14) (h1 : shC t1 = 14) (hd : t1 + 4 < t0 ∨ t0 + 4 < t1) : ∃ Z', sX3_copyFrom t0 t1 Z = some Z' ∧ (∀ j, (j = 0 ∨ j = 1 ∨ j = 6) → gI Z' t0 j = gI Z t1 j) ∧ (∀ o i, 1 ≤ o → o ≤ 4 → i < 16 → gI Z' (t0 + o) i = gI Z (t1 + o) i) ∧ (∀ k j, (k < t0 ∨ t0 + 4 < k) → gI Z' k j = gI Z k j) ∧ ∀ k, gL Z' k = gL Z k := by
  have hne : t1 ≠ t0 := by omega
  refine ⟨pC (pC (pC (pC (pI (pI (pI Z t0 0 (gI Z t1 0)) t0 1 (gI Z t1 1)) t0 6 (gI Z t1 6)) (t1 + 1) 0 (t0 + 1) 0 (imin 16 16)) (t1 + 2) 0 (t0 + 2) 0 (imin 16 16)) (t1 + 3) 0 (t0 + 3) 0 (imin 16 16)) (t1 + 4) 0 (t0 + 4) 0 (imin 16 16), ?_, fun j hj => ?_, fun o i o1 o2 hi => ?_, fun k j hk => ?_, fun _ => rfl⟩
  · unfold sX3_copyFrom sX7_copyRow_12_12
    simp only [nm_d, gI_pI_k _ _ _ _ hne]
    rw [gd_t h0, gd_t h1, gd_t (sh_X3_ones h1), gd_t (sh_X3_ones h0), gd_t (by decide), bnd_s, gd_t (sh_X3_others h1), gd_t (sh_X3_others h0), gd_t (by decide), bnd_s, gd_t (sh_X3_lengths h1), gd_t (sh_X3_lengths h0), gd_t (by decide), bnd_s, gd_t (sh_X3_carried h1), gd_t (sh_X3_carried h0), gd_t (by decide), bnd_s]
  · rw [gI_pC im16, if_neg (by omega), gI_pC im16, if_neg (by omega), gI_pC im16, if_neg (by omega), gI_pC im16, if_neg (by omega)]
    rcases hj with h | h | h <;> subst h
    · rw [gI_pI_j _ _ _ _ (by decide), gI_pI_j _ _ _ _ (by decide), gI_pI_s]
    · rw [gI_pI_j _ _ _ _ (by decide), gI_pI_s]
    · rw [gI_pI_s]
  · have hout : ∀ k i, (k < t0 ∨ t0 + 4 < k) → ∀ Z2, (∀ k i, (k < t0 ∨ t0 + 4 < k) → gI Z2 k i = gI Z k i) → ∀ a, gI (pC Z2 (t1 + a) 0 (t0 + a) 0 (imin 16 16)) k i = gI (pC Z2 (t1 + a) 0 (t0 + a) 0 (imin 16 16)) k i := fun _ _ _ _ _ _ => rfl
    have hb : ∀ k i, (k < t0 ∨ t0 + 4 < k) → gI (pI (pI (pI Z t0 0 (gI Z t1 0)) t0 1 (gI Z t1 1)) t0 6 (gI Z t1 6)) k i = gI Z k i := fun k i hk => by
      rw [gI_pI_k _ _ _ _ (by omega), gI_pI_k _ _ _ _ (by omega), gI_pI_k _ _ _ _ (by omega)]
    have ho : o = 1 ∨ o = 2 ∨ o = 3 ∨ o = 4 := by omega
    rcases ho with h | h | h | h <;> subst h
    · rw [gI_pC im16, if_neg (by omega), gI_pC im16, if_neg (by omega), gI_pC im16, if_neg (by omega), gI_pC im16, if_pos ⟨rfl, hi⟩, hb _ _ (by omega)]
    · rw [gI_pC im16, if_neg (by omega), gI_pC im16, if_neg (by omega), gI_pC im16, if_pos ⟨rfl, hi⟩, gI_pC im16, if_neg (by omega), hb _ _ (by omega)]
    · rw [gI_pC im16, if_neg (by omega), gI_pC im16, if_pos ⟨rfl, hi⟩, gI_pC im16, if_neg (by omega), gI_pC im16, if_neg (by omega), hb _ _ (by omega)]
    · rw [gI_pC im16, if_pos ⟨rfl, hi⟩, gI_pC im16, if_neg (by omega), gI_pC im16, if_neg (by omega), gI_pC im16, if_neg (by omega), hb _ _ (by omega)]
  · rw [gI_pC im16, if_neg (by omega), gI_pC im16, if_neg (by omega), gI_pC im16, if_neg (by omega), gI_pC im16, if_neg (by omega), gI_pI_k _ _ _ _ (by omega), gI_pI_k _ _ _ _ (by omega), gI_pI_k _ _ _ _ (by omega)]
theorem p_copy_L {N : NN} {b0 b1 : Nat} (h0 : shC b0 = 13) (h1 : shC b1 = 13) (hd : b1 + 19 < b0 ∨ b0 + 19 < b1) (h5 : N 3 ≤ 5) (h7 : ∀ i, i < N 3 → nC N i 3 ≤ 7) : ∀ (e k n : Nat) (Z : ZZ), k + e = 5 → e < n → (∀ i, i < N 3 → cA N Z (b1 + 9 + 1 + 2 * i) i) → (∀ i, i < k → i < N 3 → cA N Z (b0 + 9 + 1 + 2 * i) i) →
    ∃ Z', sX6_copyFrom_L62 b0 b1 n (nI k) Z = sX6_copyFrom_B88 b0 b1 Z' ∧ (∀ i, i < 5 → i < N 3 → cA N Z' (b0 + 9 + 1 + 2 * i) i) ∧ (∀ k j, (k < b0 + 10 ∨ b0 + 19 < k) → gI Z' k j = gI Z k j) ∧ ∀ k, gL Z' k = gL Z k := by
  intro e
  induction e with
  | zero =>
    intro k n Z hk hn hs hlo
    obtain ⟨n, rfl⟩ : ∃ q, n = q + 1 := ⟨n - 1, by omega⟩
    have hk2 : k = 5 := by omega
    subst hk2
    exact ⟨Z, by rw [sX6_copyFrom_L62, if_pos (by decide)], hlo, fun _ _ _ => rfl, fun _ => rfl⟩
  | succ e ih =>
    intro k n Z hk hn hs hlo
    obtain ⟨n, rfl⟩ : ∃ q, n = q + 1 := ⟨n - 1, by omega⟩
    obtain ⟨Z1, c1, cc, ck, cl⟩ := p_cCopy (Z := Z) (t0 := b0 + 9 + 1 + 2 * k) (t1 := b1 + 9 + 1 + 2 * k) (shC_call h0 (by omega)) (shC_call h1 (by omega)) (by omega)
    have mv : ∀ t q, t ≠ b0 + 9 + 1 + 2 * k → t ≠ b0 + 9 + 1 + 2 * k + 1 → t + 1 ≠ b0 + 9 + 1 + 2 * k → cA N Z t q → cA N Z1 t q := fun t q n1 n2 n3 hA => by
      obtain ⟨b0, b1, b2, b3, b4, b5⟩ := hA
      refine ⟨?_, ?_, ?_, ?_, ?_, fun x hx => ?_⟩
      · rw [ck _ _ n1 n2]; exact b0
      · rw [ck _ _ n1 n2]; exact b1
      · rw [ck _ _ n1 n2]; exact b2
      · rw [ck _ _ n1 n2]; exact b3
      · rw [ck _ _ n1 n2]; exact b4
      · rw [ck _ _ n3 (by omega)]; exact b5 x hx
    obtain ⟨Z', a1, a2, a3, a4⟩ := ih (k + 1) n Z1 (by omega) (by omega) (fun i hi => mv _ i (by omega) (by omega) (by omega) (hs i hi)) (fun i hi hi3 => by
      by_cases q : i = k
      · rw [q]; rw [q] at hi3; exact cc N k (hs k hi3) (h7 k hi3)
      · exact mv _ i (by omega) (by omega) (by omega) (hlo i (by omega) hi3))
    refine ⟨Z', ?_, a2, fun q j hq => by rw [a3 q j hq]; exact ck q j (by omega) (by omega), fun q => (a4 q).trans (cl q)⟩
    rw [sX6_copyFrom_L62, if_neg (lge (show k < 5 by omega) (by decide)), gd_t (vin_n (by omega) (by decide)), gd_t (vin_n (by omega) (by decide)), elC_n (by omega), elC_n (by omega), c1, bnd_s, nm_d, ad_n1]
    exact a1
theorem p_copy {N : NN} {Z : ZZ} {W b0 b1 : Nat} (h0 : shC b0 = 13) (hne : b0 ≠ b1) (hB : rB N Z b1) (hI : iN N W) : ∃ Z', sX6_copyFrom b0 b1 Z = some Z' ∧ rB N Z' b0 ∧ oB b0 Z Z' := by
  obtain ⟨h1, ⟨a0, a1, a2, a3, a4, a5⟩, am, aT, aU, aC⟩ := hB
  have h5 := hI.1.2.2.2.1
  have hd : b1 + 19 < b0 ∨ b0 + 19 < b1 := by
    obtain ⟨j0, _, e0⟩ := sh13 h0
    obtain ⟨j1, _, e1⟩ := sh13 h1
    omega
  obtain ⟨Z1, n1, n2, n3, n4, n5⟩ := p_nCopy (Z := Z) (t0 := b0 + 1) (t1 := b1 + 1) (sh_X6_network h0) (sh_X6_network h1) (by omega)
  generalize hZ2 : pC (pC (pC (pI Z1 b0 1 (gI Z b1 1)) (b1 + 6) 0 (b0 + 6) 0 (imin 10 10)) (b1 + 7) 0 (b0 + 7) 0 (imin 10 10)) (b1 + 8) 0 (b0 + 8) 0 (imin 10 10) = Z2
  have m1 : ∀ k j, (k < b0 ∨ b0 + 19 < k) → gI Z2 k j = gI Z k j := fun k j hk => by
    rw [← hZ2, gI_pC im10, if_neg (by omega), gI_pC im10, if_neg (by omega), gI_pC im10, if_neg (by omega), gI_pI_k _ _ _ _ (by omega), n4 _ _ (by omega)]
  have m2 : ∀ k j, k ≠ b0 → k ≠ b0 + 6 → k ≠ b0 + 7 → k ≠ b0 + 8 → gI Z2 k j = gI Z1 k j := fun k j q0 q6 q7 q8 => by
    rw [← hZ2, gI_pC im10, if_neg (by omega), gI_pC im10, if_neg (by omega), gI_pC im10, if_neg (by omega), gI_pI_k _ _ _ _ q0]
  have mb : ∀ j, gI Z2 b0 j = if j = 1 then gI Z b1 1 else gI Z1 b0 j := fun j => by
    rw [← hZ2, gI_pC im10, if_neg (by omega), gI_pC im10, if_neg (by omega), gI_pC im10, if_neg (by omega)]
    by_cases c : j = 1
    · rw [c, gI_pI_s, if_pos rfl]
    · rw [gI_pI_j _ _ _ _ c, if_neg c]
  have m6 : ∀ i, i < 10 → gI Z2 (b0 + 6) i = gI Z (b1 + 6) i := fun i hi => by
    rw [← hZ2, gI_pC im10, if_neg (by omega), gI_pC im10, if_neg (by omega), gI_pC im10, if_pos ⟨rfl, hi⟩, gI_pI_k _ _ _ _ (by omega), n4 _ _ (by omega)]
  have m7 : ∀ i, i < 10 → gI Z2 (b0 + 7) i = gI Z (b1 + 7) i := fun i hi => by
    rw [← hZ2, gI_pC im10, if_neg (by omega), gI_pC im10, if_pos ⟨rfl, hi⟩, gI_pC im10, if_neg (by omega), gI_pI_k _ _ _ _ (by omega), n4 _ _ (by omega)]
  have m8 : ∀ i, i < 10 → gI Z2 (b0 + 8) i = gI Z (b1 + 8) i := fun i hi => by
    rw [← hZ2, gI_pC im10, if_pos ⟨rfl, hi⟩, gI_pC im10, if_neg (by omega), gI_pC im10, if_neg (by omega), gI_pI_k _ _ _ _ (by omega), n4 _ _ (by omega)]
  have mL : ∀ k, gL Z2 k = gL Z k := fun k => by rw [← hZ2]; exact n5 k
  obtain ⟨Z4, l1, l2, l3, l4⟩ := p_copy_L (N := N) (b0 := b0) (b1 := b1) h0 h1 hd h5 (fun i hi => ((wN_of hI).2.2 i hi).1) 5 0 3000 (pI Z2 b0 5 (gI Z b1 5)) (by omega) (by omega) (fun i hi => by
    obtain ⟨q0, q1, q2, q3, q4, q5⟩ := aC i hi
    have hx : ∀ k j, (k < b0 ∨ b0 + 19 < k) → gI (pI Z2 b0 5 (gI Z b1 5)) k j = gI Z k j := fun k j hk => by
      rw [gI_pI_k _ _ _ _ (by omega)]; exact m1 k j hk
    refine ⟨?_, ?_, ?_, ?_, ?_, fun j hj => ?_⟩
    · rw [hx _ _ (by omega)]; exact q0
    · rw [hx _ _ (by omega)]; exact q1
    · rw [hx _ _ (by omega)]; exact q2
    · rw [hx _ _ (by omega)]; exact q3
    · rw [hx _ _ (by omega)]; exact q4
    · rw [hx _ _ (by omega)]; exact q5 j hj) (fun i hi => by omega)
  have hb : ∀ j, j ≠ 8 → gI (pI (pL Z4 b0 (gL Z b1)) b0 8 (gI Z b1 8)) b0 j = if j = 5 then gI Z b1 5 else if j = 1 then gI Z b1 1 else gI Z1 b0 j := fun j hj => by
    rw [gI_pI_j _ _ _ _ hj, gI_pL, l3 _ _ (by omega)]
    by_cases c : j = 5
    · rw [c, gI_pI_s, if_pos rfl]
    · rw [gI_pI_j _ _ _ _ c, mb, if_neg c]
  have hk : ∀ k j, k ≠ b0 → (k < b0 + 10 ∨ b0 + 19 < k) → gI (pI (pL Z4 b0 (gL Z b1)) b0 8 (gI Z b1 8)) k j = gI Z2 k j := fun k j q1 q2 => by
    rw [gI_pI_k _ _ _ _ q1, gI_pL, l3 _ _ q2, gI_pI_k _ _ _ _ q1]
  have hk3 : ∀ k j, k ≠ b0 → gI (pI (pL Z4 b0 (gL Z b1)) b0 8 (gI Z b1 8)) k j = gI Z4 k j := fun k j q1 => by
    rw [gI_pI_k _ _ _ _ q1, gI_pL]
  refine ⟨pI (pL Z4 b0 (gL Z b1)) b0 8 (gI Z b1 8), ?_, ⟨h0, ⟨?_, ?_, ?_, ?_, ?_, ?_⟩, ?_, fun i hi => ?_, fun i hi => ?_, fun i hi => ?_⟩, ⟨fun k j q => by rw [hk _ _ (by omega) (by omega)]; exact m1 k j q, fun k q => by rw [gL_pI, gL_pL, if_neg q, l4, gL_pI]; exact mL k⟩⟩
  · unfold sX6_copyFrom sX7_copyRow_15_15
    rw [gd_t h0, gd_t h1, n1, bnd_s, n4 b1 1 (by omega), nm_d, gd_t (sh_X6_homes h1), gd_t (sh_X6_homes h0), gd_t (by decide), nm_d, bnd_s, gd_t (sh_X6_tariffs h1), gd_t (sh_X6_tariffs h0), gd_t (by decide), nm_d, bnd_s, gd_t (sh_X6_bills h1), gd_t (sh_X6_bills h0), gd_t (by decide), nm_d, bnd_s, hZ2, m1 b1 5 (by omega), nm_d]
    refine Eq.trans (show sX6_copyFrom_L62 b0 b1 3000 0 (pI Z2 b0 5 (gI Z b1 5)) = _ from l1) ?_
    have e1 : gL Z4 b1 = gL Z b1 := by rw [l4, gL_pI]; exact mL b1
    have e2 : gI Z4 b1 8 = gI Z b1 8 := by rw [l3 _ _ (by omega), gI_pI_k _ _ _ _ (by omega)]; exact m1 b1 8 (by omega)
    unfold sX6_copyFrom_B88
    rw [e1, nm_d, gI_pL, e2, nm_d]
  · rw [hk _ _ (by omega) (by omega), m2 _ _ (by omega) (by omega) (by omega) (by omega), n2 _ (by omega)]; exact a0
  · rw [hk _ _ (by omega) (by omega), m2 _ _ (by omega) (by omega) (by omega) (by omega), n2 _ (by omega)]; exact a1
  · rw [hb _ (by decide), if_neg (by decide), if_pos rfl]; exact a2
  · rw [hb _ (by decide), if_pos rfl]; exact a3
  · rw [gI_pI_s]; exact a4
  · rw [gL_pI, gL_pL, if_pos rfl]; exact a5
  · rw [hk _ _ (by omega) (by omega), m2 _ _ (by omega) (by omega) (by omega) (by omega), n2 _ (by omega)]; exact am
  · rw [hk _ _ (by omega) (by omega), hk _ _ (by omega) (by omega), hk _ _ (by omega) (by omega), hk _ _ (by omega) (by omega), m2 _ _ (by omega) (by omega) (by omega) (by omega), m2 _ _ (by omega) (by omega) (by omega) (by omega), m2 _ _ (by omega) (by omega) (by omega) (by omega), m2 _ _ (by omega) (by omega) (by omega) (by omega), n3 1 i (by decide) (by decide) hi, n3 2 i (by decide) (by decide) hi, n3 3 i (by decide) (by decide) hi, n3 4 i (by decide) (by decide) hi]; exact aT i hi
  · rw [hk _ _ (by omega) (by omega), hk _ _ (by omega) (by omega), hk _ _ (by omega) (by omega), m6 i hi, m7 i hi, m8 i hi]; exact aU i hi
  · obtain ⟨q0, q1, q2, q3, q4, q5⟩ := l2 i (by omega) hi
    refine ⟨?_, ?_, ?_, ?_, ?_, fun j hj => ?_⟩
    · rw [hk3 _ _ (by omega)]; exact q0
    · rw [hk3 _ _ (by omega)]; exact q1
    · rw [hk3 _ _ (by omega)]; exact q2
    · rw [hk3 _ _ (by omega)]; exact q3
    · rw [hk3 _ _ (by omega)]; exact q4
    · rw [hk3 _ _ (by omega)]; exact q5 j hj
def hKc (Hs : Nat → NN) (n : Nat) (Z : ZZ) : Prop := n ≤ 8 ∧ gI Z 1 0 = nI n ∧ ∃ x, x < 8 ∧ gI Z 1 1 = nI x ∧ ∀ j, j < n → rB (Hs j) Z (79 + 20 * ((x + 8 - n + j) % 8))
def hKi (Hs : Nat → NN) (n W : Nat) : Prop := ∀ j, j < n → iN (Hs j) W ∧ uN (Hs j)
theorem sh79 {j : Nat} (h : j < 8) : shC (79 + 20 * j) = 13 := (by decide +kernel : ∀ j, j < 8 → shC (79 + 20 * j) = 13) j h
/-- what the ring's keeping touches -/
def onlyY (Z Z' : ZZ) : Prop := (∀ k j, k ≠ 1 → k < 79 → gI Z' k j = gI Z k j) ∧ ∀ k, k < 79 → gL Z' k = gL Z k
theorem c_keep {Hs : Nat → NN} {n W b : Nat} {N : NN} {Z : ZZ} (hH : hKc Hs n Z) (hHi : hKi Hs n W) (hb : b < 79) (hB : rB N Z b) (hI : iN N W) : ∃ Z', sX2_keep b Z = some Z' ∧ hKc (puH Hs n N) (puN n) Z' ∧ onlyY Z Z' := by
  obtain ⟨hn, h0, x, hx, h1, hr⟩ := hH
  obtain ⟨Z1, c1, c2, c3⟩ := p_copy (b0 := 79 + 20 * x) (sh79 hx) (by omega) hB hI
  have e11 : gI Z1 1 1 = nI x := by rw [c3.1 _ _ (by omega)]; exact h1
  have e10 : gI Z1 1 0 = nI n := by rw [c3.1 _ _ (by omega)]; exact h0
  have hpn : imin (nI n + 1) 8 = nI (puN n) := by
    have : ∀ n, n ≤ 8 → imin (nI n + 1) 8 = nI (puN n) := by decide +kernel
    exact this n hn
  refine ⟨pI (pI Z1 1 1 (nI ((x + 1) % 8))) 1 0 (nI (puN n)), ?_, ⟨?_, gI_pI_s _ _ _ _, (x + 1) % 8, by omega, by rw [gI_pI_j _ _ _ _ (by decide), gI_pI_s], fun j hj => ?_⟩, ⟨fun k j k1 k2 => by rw [gI_pI_k _ _ _ _ k1, gI_pI_k _ _ _ _ k1]; exact c3.1 k j (by omega), fun k hk => c3.2 k (by omega)⟩⟩
  · unfold sX2_keep
    rw [gd_t hB.1, h1, gd_t (vin_n hx (by decide)), show elH 2 (nI x) = 79 + 20 * x by unfold elH; rw [cl_n (by omega)], c1, bnd_s, e11, ad_n1]
    by_cases c : x + 1 < 8
    · rw [if_neg (lge c (by decide))]
      unfold sX2_keep_B35
      rw [nm_d, gI_pI_j _ _ _ _ (by decide), e10, hpn, nm_d, Nat.mod_eq_of_lt c]
    · rw [if_pos (lle (show 8 ≤ x + 1 by omega) (by omega))]
      unfold sX2_keep_B35
      rw [nm_d, gI_pI_j _ _ _ _ (by decide), e10, hpn, nm_d, show (x + 1) % 8 = 0 by omega]
      rfl
  · unfold puN; split <;> omega
  · have hq : ∀ M b2, b2 ≠ 79 + 20 * x → M 3 ≤ 5 → rB M Z b2 → rB M (pI (pI Z1 1 1 (nI ((x + 1) % 8))) 1 0 (nI (puN n))) b2 := fun M b2 hne h5 h => by
      obtain ⟨j2, _, e2⟩ := sh13 h.1
      exact rB_keep h h5 (fun k j k1 k2 => by rw [gI_pI_k _ _ _ _ (by omega), gI_pI_k _ _ _ _ (by omega)]; exact c3.1 k j (by omega)) (c3.2 b2 hne)
    have hnew : rB N (pI (pI Z1 1 1 (nI ((x + 1) % 8))) 1 0 (nI (puN n))) (79 + 20 * x) := rB_keep c2 hI.1.2.2.2.1 (fun k j k1 k2 => by rw [gI_pI_k _ _ _ _ (by omega), gI_pI_k _ _ _ _ (by omega)]) rfl
    by_cases c : n < 8
    · have ep : puN n = n + 1 := if_pos c
      rw [ep] at hj ⊢
      have ei : ((x + 1) % 8 + 8 - (n + 1) + j) % 8 = (x + 8 - n + j) % 8 := by omega
      rw [ep] at hq hnew
      rw [ei]
      unfold puH
      rw [if_pos c]
      by_cases cj : j = n
      · rw [if_pos cj, show (x + 8 - n + j) % 8 = x by omega]; exact hnew
      · rw [if_neg cj]
        exact hq _ _ (by omega) (hHi j (by omega)).1.1.2.2.2.1 (hr j (by omega))
    · have ep : puN n = 8 := if_neg c
      have hn8 : n = 8 := by omega
      rw [ep] at hj ⊢
      rw [ep] at hq hnew
      unfold puH
      rw [if_neg c]
      by_cases cj : j = 7
      · rw [if_pos cj, show ((x + 1) % 8 + 8 - 8 + j) % 8 = x by omega]; exact hnew
      · rw [if_neg cj]
        have := hr (j + 1) (by omega)
        rw [show ((x + 1) % 8 + 8 - 8 + j) % 8 = (x + 8 - n + (j + 1)) % 8 by omega]
        exact hq _ _ (by omega) (hHi (j + 1) (by omega)).1.1.2.2.2.1 this
theorem hKi_pu {Hs : Nat → NN} {n W : Nat} {N : NN} (hn : n ≤ 8) (hHi : hKi Hs n W) (hI : iN N W) (hu : uN N) : hKi (puH Hs n N) (puN n) W := by
  intro j hj
  unfold puH
  by_cases c : n < 8
  · have ep : puN n = n + 1 := if_pos c
    rw [if_pos c]
    by_cases cj : j = n
    · rw [if_pos cj]; exact ⟨hI, hu⟩
    · rw [if_neg cj]; exact hHi j (by omega)
  · have ep : puN n = 8 := if_neg c
    rw [if_neg c]
    by_cases cj : j = 7
    · rw [if_pos cj]; exact ⟨hI, hu⟩
    · rw [if_neg cj]; exact hHi (j + 1) (by omega)
theorem hKi_mono {Hs : Nat → NN} {n W W' : Nat} (h : hKi Hs n W) (hw : W ≤ W') : hKi Hs n W' := fun j hj => ⟨iN_mono (h j hj).1 hw, (h j hj).2⟩
theorem puN_le {n : Nat} : puN n ≤ 8 := by unfold puN; split <;> omega
