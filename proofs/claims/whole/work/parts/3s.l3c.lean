/-! blocked calls -/
def bK (Zc Zr : ZZ) : Prop := ∃ n, n ≤ 8 ∧ gI Zc 3 0 = nI n ∧ gI Zr 0 12 = nI n ∧ ∀ j, j < n → gI Zr 5 (3 * j) = gI Zc 4 j ∧ gI Zr 5 (3 * j + 1) = gI Zc 5 j ∧ gI Zr 5 (3 * j + 2) = gI Zc 6 j ∧ (gI Zc 6 j = 98 ∨ gI Zc 6 j = 114)
def onlyK (Z Z' : ZZ) : Prop := (∀ k j, (k < 3 ∨ 6 < k) → gI Z' k j = gI Z k j) ∧ ∀ k, gL Z' k = gL Z k
theorem onlyK_rf (Z : ZZ) : onlyK Z Z := ⟨fun _ _ _ => rfl, fun _ => rfl⟩
theorem onlyK_tr {A B C : ZZ} (h1 : onlyK A B) (h2 : onlyK B C) : onlyK A C := ⟨fun k j h => (h2.1 k j h).trans (h1.1 k j h), fun k => (h2.2 k).trans (h1.2 k)⟩
theorem onlyK_pI {A B : ZZ} {q j : Nat} {x : Int32} (h : onlyK A B) (hq : 3 ≤ q ∧ q ≤ 6) : onlyK A (pI B q j x) := ⟨fun k i hk => by rw [gI_pI_k _ _ _ _ (by omega)]; exact h.1 k i hk, h.2⟩
def onlyQ (Z Z' : ZZ) : Prop := (∀ k j, k ≠ 5 → (k = 0 → j ≠ 12) → gI Z' k j = gI Z k j) ∧ ∀ k, gL Z' k = gL Z k
theorem onlyQ_rf (Z : ZZ) : onlyQ Z Z := ⟨fun _ _ _ _ => rfl, fun _ => rfl⟩
theorem onlyQ_tr {A B C : ZZ} (h1 : onlyQ A B) (h2 : onlyQ B C) : onlyQ A C := ⟨fun k j h h' => (h2.1 k j h h').trans (h1.1 k j h h'), fun k => (h2.2 k).trans (h1.2 k)⟩
theorem onlyQ_5 {A B : ZZ} {j : Nat} {x : Int32} (h : onlyQ A B) : onlyQ A (pI B 5 j x) := ⟨fun k i hk hk2 => by rw [gI_pI_k _ _ _ _ hk]; exact h.1 k i hk hk2, h.2⟩
theorem onlyQ_12 {A B : ZZ} {x : Int32} (h : onlyQ A B) : onlyQ A (pI B 0 12 x) := ⟨fun k i hk hk2 => by rw [gI_pI_o _ _ hk2]; exact h.1 k i hk hk2, h.2⟩
theorem nar_br {x : Int32} (h : x = 98 ∨ x = 114) : vp_nar .char x = x := by
  rcases h with h | h <;> subst h <;> decide
theorem c_drop_L {f4 f5 f6 : Nat → Int32} (h6 : ∀ j, j < 8 → f6 j = 98 ∨ f6 j = 114) : ∀ (e k n : Nat) (Z : ZZ), k + e = 7 → e < n → gI Z 3 0 = nI 7 → (∀ j, j < k → gI Z 4 j = f4 (j + 1) ∧ gI Z 5 j = f5 (j + 1) ∧ gI Z 6 j = f6 (j + 1)) → (∀ j, k ≤ j → j < 8 → gI Z 4 j = f4 j ∧ gI Z 5 j = f5 j ∧ gI Z 6 j = f6 j) →
    ∃ Z', sX0_dropOldest_L8 n (nI k) Z = some Z' ∧ gI Z' 3 0 = nI 7 ∧ (∀ j, j < 7 → gI Z' 4 j = f4 (j + 1) ∧ gI Z' 5 j = f5 (j + 1) ∧ gI Z' 6 j = f6 (j + 1)) ∧ onlyK Z Z' := by
  intro e
  induction e with
  | zero =>
    intro k n Z hk hn h3 hlo hhi
    obtain ⟨n, rfl⟩ : ∃ q, n = q + 1 := ⟨n - 1, by omega⟩
    refine ⟨Z, ?_, h3, fun j hj => hlo j (by omega), onlyK_rf Z⟩
    rw [sX0_dropOldest_L8, h3, if_pos (nI_le (by omega) (by omega))]
  | succ e ih =>
    intro k n Z hk hn h3 hlo hhi
    obtain ⟨n, rfl⟩ : ∃ q, n = q + 1 := ⟨n - 1, by omega⟩
    obtain ⟨q4, q5, q6⟩ := hhi (k + 1) (by omega) (by omega)
    have e6 : vp_nar .char (f6 (k + 1)) = f6 (k + 1) := nar_br (h6 _ (by omega))
    obtain ⟨Z', a1, a2, a3, a4⟩ := ih (k + 1) n (pI (pI (pI Z 4 k (f4 (k + 1))) 5 k (f5 (k + 1))) 6 k (f6 (k + 1))) (by omega) (by omega) (by rw [gI_pI_k _ _ _ _ (by decide), gI_pI_k _ _ _ _ (by decide), gI_pI_k _ _ _ _ (by decide)]; exact h3) (fun j hj => by
      by_cases c : j = k
      · subst c
        refine ⟨?_, ?_, ?_⟩
        · rw [gI_pI_k _ _ _ _ (by decide), gI_pI_k _ _ _ _ (by decide), gI_pI_s]
        · rw [gI_pI_k _ _ _ _ (by decide), gI_pI_s]
        · rw [gI_pI_s]
      · obtain ⟨l4, l5, l6⟩ := hlo j (by omega)
        refine ⟨?_, ?_, ?_⟩
        · rw [gI_pI_k _ _ _ _ (by decide), gI_pI_k _ _ _ _ (by decide), gI_pI_j _ _ _ _ c]; exact l4
        · rw [gI_pI_k _ _ _ _ (by decide), gI_pI_j _ _ _ _ c, gI_pI_k _ _ _ _ (by decide)]; exact l5
        · rw [gI_pI_j _ _ _ _ c, gI_pI_k _ _ _ _ (by decide), gI_pI_k _ _ _ _ (by decide)]; exact l6) (fun j j1 j2 => by
      have c : j ≠ k := by omega
      obtain ⟨l4, l5, l6⟩ := hhi j (by omega) j2
      refine ⟨?_, ?_, ?_⟩
      · rw [gI_pI_k _ _ _ _ (by decide), gI_pI_k _ _ _ _ (by decide), gI_pI_j _ _ _ _ c]; exact l4
      · rw [gI_pI_k _ _ _ _ (by decide), gI_pI_j _ _ _ _ c, gI_pI_k _ _ _ _ (by decide)]; exact l5
      · rw [gI_pI_j _ _ _ _ c, gI_pI_k _ _ _ _ (by decide), gI_pI_k _ _ _ _ (by decide)]; exact l6)
    refine ⟨Z', ?_, a2, a3, onlyK_tr (onlyK_pI (onlyK_pI (onlyK_pI (onlyK_rf Z) (by decide)) (by decide)) (by decide)) a4⟩
    rw [sX0_dropOldest_L8, h3, if_neg (nI_ge (by omega) (by omega)), ad_n1, gd_t (vin_n (by omega) (by decide)), gd_t (vin_n (by omega) (by decide)), cl_n (by omega), cl_n (by omega), q4, nm_d, gd_t (vin_n (by omega) (by decide)), gd_t (vin_n (by omega) (by decide)), gI_pI_k _ _ _ _ (by decide), q5, nm_d, gd_t (vin_n (by omega) (by decide)), gd_t (vin_n (by omega) (by decide)), gI_pI_k _ _ _ _ (by decide), gI_pI_k _ _ _ _ (by decide), q6, e6, nm_d, nm_d]
    exact a1
theorem m_drop_L {f : Nat → Int32} {x1 x2 x3 : Int32} : ∀ (e k n : Nat) (Z : ZZ), k + e = 21 → e < n → gI Z 0 12 = nI 7 → (∀ j, j < k → gI Z 5 j = f (j + 3)) → (∀ j, k ≤ j → j < 24 → gI Z 5 j = f j) →
    ∃ Z', sX8_blocks_L28 x1 x2 x3 n (nI k) Z = sX8_blocks_B61 x1 x2 x3 Z' ∧ gI Z' 0 12 = nI 7 ∧ (∀ j, j < 21 → gI Z' 5 j = f (j + 3)) ∧ onlyQ Z Z' := by
  have e21 : (3 : Int32) * nI 7 = nI 21 := by decide
  intro e
  induction e with
  | zero =>
    intro k n Z hk hn h3 hlo hhi
    obtain ⟨n, rfl⟩ : ∃ q, n = q + 1 := ⟨n - 1, by omega⟩
    refine ⟨Z, ?_, h3, fun j hj => hlo j (by omega), onlyQ_rf Z⟩
    rw [sX8_blocks_L28, h3, e21, if_pos (nI_le (by omega) (by omega))]
  | succ e ih =>
    intro k n Z hk hn h3 hlo hhi
    obtain ⟨n, rfl⟩ : ∃ q, n = q + 1 := ⟨n - 1, by omega⟩
    obtain ⟨Z', a1, a2, a3, a4⟩ := ih (k + 1) n (pI Z 5 k (f (k + 3))) (by omega) (by omega) (by rw [gI_pI_k _ _ _ _ (by decide)]; exact h3) (fun j hj => by
      by_cases c : j = k
      · rw [c, gI_pI_s]
      · rw [gI_pI_j _ _ _ _ c]; exact hlo j (by omega)) (fun j j1 j2 => by rw [gI_pI_j _ _ _ _ (by omega)]; exact hhi j (by omega) j2)
    refine ⟨Z', ?_, a2, a3, onlyQ_tr (onlyQ_5 (onlyQ_rf Z)) a4⟩
    rw [sX8_blocks_L28, h3, e21, if_neg (nI_ge (by omega) (by omega)), show nI k + 3 = nI (k + 3) from nI_add k 3, gd_t (vin_n (by omega) (by decide)), gd_t (vin_n (by omega) (by decide)), cl_n (by omega), cl_n (by omega), hhi _ (by omega) (by omega), nm_d, nm_d, ad_n1]
    exact a1
theorem x_in {Zc Zr : ZZ} {n q : Nat} {a b : Int32} (hn : n < 8) (hq : q = 3 ∨ q = 4) (hc : gI Zc 3 0 = nI n) (hr : gI Zr 0 12 = nI n) (hj : ∀ j, j < n → gI Zr 5 (3 * j) = gI Zc 4 j ∧ gI Zr 5 (3 * j + 1) = gI Zc 5 j ∧ gI Zr 5 (3 * j + 2) = gI Zc 6 j ∧ (gI Zc 6 j = 98 ∨ gI Zc 6 j = 114)) :
    ∃ Zc' Zr', sX0_enter_B13 a b (if q = 3 then 98 else 114) Zc = some Zc' ∧ sX8_blocks_B61 a b (nI q) Zr = some Zr' ∧ bK Zc' Zr' ∧ onlyK Zc Zc' ∧ onlyQ Zr Zr' := by
  have hx : (if q = 3 then (98 : Int32) else 114) = 98 ∨ (if q = 3 then (98 : Int32) else 114) = 114 := by
    split
    · exact Or.inl rfl
    · exact Or.inr rfl
  have v0 : (3 : Int32) * nI n = nI (3 * n) := by rw [show (3 : Int32) = nI 3 from rfl, pk_mul]
  have v1 : nI (3 * n) + 1 = nI (3 * n + 1) := nI_add _ 1
  have v2 : nI (3 * n) + 2 = nI (3 * n + 2) := nI_add _ 2
  generalize hw : (if q = 3 then (98 : Int32) else 114) = w at hx
  refine ⟨pI (pI (pI (pI Zc 4 n a) 5 n b) 6 n w) 3 0 (nI (n + 1)), pI (pI (pI (pI Zr 5 (3 * n) a) 5 (3 * n + 1) b) 5 (3 * n + 2) w) 0 12 (nI (n + 1)), ?_, ?_, ⟨n + 1, by omega, gI_pI_s _ _ _ _, gI_pI_s _ _ _ _, fun j h => ?_⟩, onlyK_pI (onlyK_pI (onlyK_pI (onlyK_pI (onlyK_rf Zc) (by decide)) (by decide)) (by decide)) (by decide), onlyQ_12 (onlyQ_5 (onlyQ_5 (onlyQ_5 (onlyQ_rf Zr))))⟩
  · unfold sX0_enter_B13
    rw [hc, gd_t (vin_n (by omega) (by decide)), nm_d, gI_pI_k _ _ _ _ (by decide), hc, gd_t (vin_n (by omega) (by decide)), nm_d, gI_pI_k _ _ _ _ (by decide), gI_pI_k _ _ _ _ (by decide), hc, gd_t (vin_n (by omega) (by decide)), nar_br hx, nm_d, gI_pI_k _ _ _ _ (by decide), gI_pI_k _ _ _ _ (by decide), gI_pI_k _ _ _ _ (by decide), hc, ad_n1, nm_d, cl_n (by omega)]
  · unfold sX8_blocks_B61
    rw [hr, v0, gd_t (vin_n (by omega) (by decide)), nm_d, gI_pI_k _ _ _ _ (by decide), hr, v0, v1, gd_t (vin_n (by omega) (by decide)), nm_d, gI_pI_k _ _ _ _ (by decide), gI_pI_k _ _ _ _ (by decide), hr, v0, v2, cl_n (by omega), cl_n (by omega), cl_n (by omega)]
    rcases hq with h | h
    · subst h
      rw [if_pos rfl] at hw
      subst hw
      rw [if_pos (by decide), gd_t (vin_n (by omega) (by decide)), nm_d, gI_pI_k _ _ _ _ (by decide), gI_pI_k _ _ _ _ (by decide), gI_pI_k _ _ _ _ (by decide), hr, ad_n1, nm_d]
    · subst h
      rw [if_neg (by decide)] at hw
      subst hw
      rw [if_neg (by decide), gd_t (vin_n (by omega) (by decide)), nm_d, gI_pI_k _ _ _ _ (by decide), gI_pI_k _ _ _ _ (by decide), gI_pI_k _ _ _ _ (by decide), hr, ad_n1, nm_d]
  · by_cases c : j = n
    · subst c
      refine ⟨?_, ?_, ?_, ?_⟩
      · simp [gI_pI]
      · simp [gI_pI]
      · simp [gI_pI]
      · simpa [gI_pI] using hx
    · obtain ⟨l4, l5, l6, l7⟩ := hj j (by omega)
      have n0 : 3 * j ≠ 3 * n := by omega
      have n1 : 3 * j ≠ 3 * n + 1 := by omega
      have n2 : 3 * j ≠ 3 * n + 2 := by omega
      have n3 : 3 * j + 1 ≠ 3 * n := by omega
      have n4 : 3 * j + 1 ≠ 3 * n + 2 := by omega
      have n5 : 3 * j + 2 ≠ 3 * n := by omega
      have n6 : 3 * j + 2 ≠ 3 * n + 1 := by omega
      have n7 : 3 * j + 1 ≠ 3 * n + 1 := by omega
      have n8 : 3 * j + 2 ≠ 3 * n + 2 := by omega
      refine ⟨?_, ?_, ?_, ?_⟩
      · rw [gI_pI_k _ _ _ _ (by decide), gI_pI_j _ _ _ _ n2, gI_pI_j _ _ _ _ n1, gI_pI_j _ _ _ _ n0, l4, gI_pI_k _ _ _ _ (by decide), gI_pI_k _ _ _ _ (by decide), gI_pI_k _ _ _ _ (by decide), gI_pI_j _ _ _ _ c]
      · rw [gI_pI_k _ _ _ _ (by decide), gI_pI_j _ _ _ _ n4, gI_pI_j _ _ _ _ n7, gI_pI_j _ _ _ _ n3, l5, gI_pI_k _ _ _ _ (by decide), gI_pI_k _ _ _ _ (by decide), gI_pI_j _ _ _ _ c, gI_pI_k _ _ _ _ (by decide)]
      · rw [gI_pI_k _ _ _ _ (by decide), gI_pI_j _ _ _ _ n8, gI_pI_j _ _ _ _ n6, gI_pI_j _ _ _ _ n5, l6, gI_pI_k _ _ _ _ (by decide), gI_pI_j _ _ _ _ c, gI_pI_k _ _ _ _ (by decide), gI_pI_k _ _ _ _ (by decide)]
      · rw [gI_pI_k _ _ _ _ (by decide), gI_pI_j _ _ _ _ c, gI_pI_k _ _ _ _ (by decide), gI_pI_k _ _ _ _ (by decide)]; exact l7
theorem x_block {Zc Zr : ZZ} {q : Nat} {a b : Int32} (hK : bK Zc Zr) (hq : q = 3 ∨ q = 4) : ∃ Zc' Zr', sX0_enter a b (if q = 3 then 98 else 114) Zc = some Zc' ∧ sX8_blocks a b (nI q) Zr = some Zr' ∧ bK Zc' Zr' ∧ onlyK Zc Zc' ∧ onlyQ Zr Zr' := by
  obtain ⟨n, hn, hc, hr, hj⟩ := hK
  have hq3 : (3 : Int32) ≤ nI q := by rcases hq with h | h <;> subst h <;> decide
  by_cases c : n < 8
  · obtain ⟨Zc', Zr', a1, a2, a3, a4, a5⟩ := x_in (a := a) (b := b) c hq hc hr hj
    refine ⟨Zc', Zr', ?_, ?_, a3, a4, a5⟩
    · unfold sX0_enter
      rw [hc, if_pos (ltl c (by decide))]; exact a1
    · unfold sX8_blocks
      rw [if_pos hq3, hr]
      simp only [eq_nl (show n < 2 ^ 31 by omega) (show 8 < 2 ^ 31 by decide)]
      rw [if_neg (by omega)]; exact a2
  · have h8 : n = 8 := by omega
    subst h8
    obtain ⟨Z1, b1, b2, b3, b4⟩ := c_drop_L (f4 := fun j => gI Zc 4 j) (f5 := fun j => gI Zc 5 j) (f6 := fun j => gI Zc 6 j) (fun j h => (hj j h).2.2.2) 7 0 3000 (pI Zc 3 0 7) (by omega) (by omega) (by rw [gI_pI_s]; rfl) (fun j h => by omega) (fun j _ h => by
      refine ⟨?_, ?_, ?_⟩ <;> rw [gI_pI_k _ _ _ _ (by decide)])
    obtain ⟨Z2, d1, d2, d3, d4⟩ := m_drop_L (f := fun j => gI Zr 5 j) (x1 := a) (x2 := b) (x3 := nI q) 21 0 3000 (pI Zr 0 12 (nI 7)) (by omega) (by omega) (gI_pI_s _ _ _ _) (fun j h => by omega) (fun j _ h => by rw [gI_pI_k _ _ _ _ (by decide)])
    obtain ⟨Zc', Zr', a1, a2, a3, a4, a5⟩ := x_in (n := 7) (a := a) (b := b) (by decide) hq b2 d2 (fun j h => by
      obtain ⟨l4, l5, l6⟩ := b3 j h
      obtain ⟨m4, m5, m6, m7⟩ := hj (j + 1) (by omega)
      rw [l4, l5, l6, d3 _ (by omega), d3 _ (by omega), d3 _ (by omega)]
      exact ⟨m4, m5, m6, m7⟩)
    refine ⟨Zc', Zr', ?_, ?_, a3, onlyK_tr (onlyK_tr (onlyK_pI (onlyK_rf Zc) (by decide)) b4) a4, onlyQ_tr (onlyQ_tr (onlyQ_12 (onlyQ_rf Zr)) d4) a5⟩
    · unfold sX0_enter sX0_dropOldest
      rw [hc, if_neg (by decide), nm_d, show sX0_dropOldest_L8 3000 0 (pI Zc 3 0 7) = some Z1 from b1, bnd_s]; exact a1
    · unfold sX8_blocks
      rw [if_pos hq3, hr, if_pos (by decide), show nI 8 - 1 = nI 7 by decide, nm_d]
      exact d1.trans a2
/-! which numbers there are -/
def viB (x : Int32) (n : Nat) : Bool := !(decide (x < 0)) && !(decide (nI n ≤ x))
theorem viB_t {x : Int32} {n : Nat} (hn : n < 2 ^ 31) (h : viB x n = true) : ∃ j, j < n ∧ x = nI j := by
  unfold viB at h
  simp only [Bool.and_eq_true, Bool.not_eq_true', decide_eq_false_iff_not] at h
  rcases pk_ix x hn with c | c | c
  · exact absurd c h.1
  · exact absurd c h.2
  · exact c
theorem viB_n {j n : Nat} (hj : j < n) (hn : n < 2 ^ 31) : viB (nI j) n = true := by
  unfold viB
  rw [decide_eq_false (nI_pos (by omega)), decide_eq_false (nI_ge hj hn)]; rfl
theorem p_has {x : Int32} {n : Nat} {Z : ZZ} : (if x < 0 then some ((0 : Int32), Z) else (if nI n ≤ x then some (0, Z) else some (1, Z))) = some (if viB x n then 1 else 0, Z) := by
  unfold viB
  by_cases c : x < 0
  · rw [if_pos c, decide_eq_true c]; rfl
  · rw [if_neg c, decide_eq_false c]
    by_cases c2 : nI n ≤ x
    · rw [if_pos c2, decide_eq_true c2]; rfl
    · rw [if_neg c2, decide_eq_false c2]; rfl
theorem p_hSw {x : Int32} {n t : Nat} {Z : ZZ} (ht : shC t = 14) (h : gI Z t 0 = nI n) : sX3_hasSwitch t x Z = some (if viB x n then 1 else 0, Z) := by
  unfold sX3_hasSwitch
  rw [gd_t ht, h]; exact p_has
theorem p_hTr {x : Int32} {n t : Nat} {Z : ZZ} (ht : shC t = 14) (h : gI Z t 1 = nI n) : sX3_hasTrunk t x Z = some (if viB x n then 1 else 0, Z) := by
  unfold sX3_hasTrunk
  rw [gd_t ht, h]; exact p_has
theorem p_hSu {x : Int32} {n t : Nat} {Z : ZZ} (ht : shC t = 13) (h : gI Z t 1 = nI n) : sX6_hasSubscriber t x Z = some (if viB x n then 1 else 0, Z) := by
  unfold sX6_hasSubscriber
  rw [gd_t ht, h]; exact p_has
theorem pred_lt {x : Int32} {n : Nat} (hn : n < 2 ^ 31) (h : ¬ x < 0) : (nI n - 1 < x) = (nI n ≤ x) := by
  obtain ⟨j, j1, rfl⟩ := nI_of h
  by_cases c : n = 0
  · subst c
    have : nI 0 - 1 < nI j := by
      rw [Int32.lt_iff_toInt_lt, nI_toInt j1, show (nI 0 - 1).toInt = -1 by decide]; omega
    exact propext ⟨fun _ => nI_le (by omega) j1, fun _ => this⟩
  · rw [show nI n - 1 = nI (n - 1) from pk_sub (b := 1) (by omega), lt_nn (by omega) j1, le_nn hn j1]
    exact propext ⟨fun _ => by omega, fun _ => by omega⟩
theorem p_in0 {x : Int32} {n : Nat} {Z : ZZ} (hn : n < 2 ^ 31) : sX8_in x 0 (nI n - 1) Z = some (if viB x n then 1 else 0, Z) := by
  rw [← p_has]
  unfold sX8_in
  by_cases c : x < 0
  · rw [if_pos c, if_pos c]
  · rw [if_neg c, if_neg c]
    simp only [pred_lt hn c]
theorem bq_if (b : Bool) : bq (if b then 1 else 0) = true := by cases b <;> decide
theorem m_isSw {x : Int32} {N : NN} {Z : ZZ} (hA : rA N Z 1) (hn : N 0 < 2 ^ 31) : sX8_isSwitch x Z = some (if viB x (N 0) then 1 else 0, Z) := by
  unfold sX8_isSwitch
  rw [gd_t (by decide), g0 hA, p_in0 hn, bnd_s, gd_t (bq_if _)]
theorem m_isTr {x : Int32} {N : NN} {Z : ZZ} (hA : rA N Z 1) (hn : N 1 < 2 ^ 31) : sX8_isTrunk x Z = some (if viB x (N 1) then 1 else 0, Z) := by
  unfold sX8_isTrunk
  rw [gd_t (by decide), g1 hA, p_in0 hn, bnd_s, gd_t (bq_if _)]
theorem m_isUs {x : Int32} {N : NN} {Z : ZZ} (hA : rA N Z 1) (hn : N 2 < 2 ^ 31) : sX8_isUser x Z = some (if viB x (N 2) then 1 else 0, Z) := by
  unfold sX8_isUser
  rw [gd_t (by decide), g2 hA, p_in0 hn, bnd_s, gd_t (bq_if _)]
/-! the reference's call of a subscriber; homes -/
theorem m_callOf_L {N : NN} {Z : ZZ} {W x : Nat} (hA : rA N Z 1) (hI : iN N W) (hx : x < 2 ^ 31) : ∀ (e i n : Nat), i + e = N 3 → e < n → (∀ k, k < i → decide (nC N k 0 = x ∨ nC N k 1 = x) = false) → sX8_callOf_L2 (nI x) n (nI i) Z = some (if talks N x < N 3 then nI (talks N x) else -1, Z) := by
  have h5 := hI.1.2.2.2.1
  have hu := hI.1.2.2.1
  intro e
  induction e with
  | zero =>
    intro i n hi hn hk
    obtain ⟨n, rfl⟩ : ∃ q, n = q + 1 := ⟨n - 1, by omega⟩
    have e : talks N x = N 3 := fnd_none (fun k hk2 => hk k (by omega))
    rw [sX8_callOf_L2, gd_t (by decide), g3 hA, if_pos (nI_le (by omega) (by omega)), e, if_neg (by omega)]
  | succ e ih =>
    intro i n hi hn hk
    obtain ⟨n, rfl⟩ : ∃ q, n = q + 1 := ⟨n - 1, by omega⟩
    obtain ⟨b0, b1, -⟩ := hI.2.2.2.2.2.1 i (by omega)
    rw [sX8_callOf_L2, gd_t (by decide), g3 hA, if_neg (nI_ge (by omega) (by omega)), p_c_x (x := 0) hA (o := 0) (by omega) rfl, bnd_s]
    simp only [eq_nn (show nC N i 0 < 2 ^ 31 by omega) hx]
    by_cases c : nC N i 0 = x
    · have e : talks N x = i := fnd_some (by omega) hk (decide_eq_true (Or.inl c))
      rw [if_pos c, e, if_pos (by omega)]
    · rw [if_neg c, p_c_x (x := 1) hA (o := 1) (by omega) rfl, bnd_s]
      simp only [eq_nn (show nC N i 1 < 2 ^ 31 by omega) hx]
      by_cases c2 : nC N i 1 = x
      · have e : talks N x = i := fnd_some (by omega) hk (decide_eq_true (Or.inr c2))
        rw [if_pos c2, e, if_pos (by omega)]
      · rw [if_neg c2, nm_d, ad_n1]
        exact ih (i + 1) n (by omega) (by omega) (fun k hk2 => by
          by_cases q : k = i
          · subst q; exact decide_eq_false (fun q => q.elim c c2)
          · exact hk k (by omega))
theorem m_callOf {N : NN} {Z : ZZ} {W x : Nat} (hA : rA N Z 1) (hI : iN N W) (hx : x < 2 ^ 31) : sX8_callOf (nI x) Z = some (if talks N x < N 3 then nI (talks N x) else -1, Z) :=
  m_callOf_L hA hI hx (N 3) 0 3000 (by omega) (by have := hI.1.2.2.2.1; omega) (fun k hk => by omega)
theorem c_home {N : NN} {Z : ZZ} {W u : Nat} (hB : rB N Z 19) (hI : iN N W) (hu : u < N 2) : sX6_homeOf 19 (nI u) Z = some (nI (nU N u 0), Z) := by
  obtain ⟨⟨a0, a1, a2, a3, a4, a5⟩, am, aT, aU, aC⟩ := rB19.1 hB
  have h10 := hI.1.2.2.1
  unfold sX6_homeOf
  rw [gd_t (by decide), p_hasSub (by decide) a2 h10 (by omega), bnd_s, if_pos hu]
  dsimp only
  rw [if_neg (by decide), gd_t (vin_n (by omega) (by decide)), cl_n (by omega)]
  show some (gI Z 25 u, Z) = _
  rw [(aU u (by omega)).1]
theorem quiet {N : NN} {x : Nat} (h : ¬ talks N x < N 3) : ∀ k, k < N 3 → nC N k 0 ≠ x ∧ nC N k 1 ≠ x := fun k hk => by
  have := fnd_ge (p := fun i => decide (nC N i 0 = x ∨ nC N i 1 = x)) (n := N 3) h k hk
  have := of_decide_eq_false this
  exact ⟨fun q => this (Or.inl q), fun q => this (Or.inr q)⟩
