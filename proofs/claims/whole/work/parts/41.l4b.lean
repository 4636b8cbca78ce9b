/-! words -/
def pkV (x a b c d e f : Int32) : Int32 := if x = 0 then a else if x = 1 then b else if x = 2 then c else if x = 3 then d else if x = 4 then e else if x = 5 then f else 0
theorem m_pick {x a b c d e f : Int32} {Z : ZZ} : sX8_pick x a b c d e f Z = some (pkV x a b c d e f, Z) := by
  unfold sX8_pick pkV
  by_cases h0 : x = 0
  · rw [if_pos h0, if_pos h0]
  rw [if_neg h0, if_neg h0]
  by_cases h1 : x = 1
  · rw [if_pos h1, if_pos h1]
  rw [if_neg h1, if_neg h1]
  by_cases h2 : x = 2
  · rw [if_pos h2, if_pos h2]
  rw [if_neg h2, if_neg h2]
  by_cases h3 : x = 3
  · rw [if_pos h3, if_pos h3]
  rw [if_neg h3, if_neg h3]
  by_cases h4 : x = 4
  · rw [if_pos h4, if_pos h4]
  rw [if_neg h4, if_neg h4]
  by_cases h5 : x = 5
  · rw [if_pos h5, if_pos h5]
  rw [if_neg h5, if_neg h5]
def spV (x y : Int32) : Int32 := if x = 0 then pkV y 115 119 105 116 99 104 else if x = 1 then pkV y 116 114 117 110 107 0 else if x = 2 then pkV y 117 115 101 114 0 0 else if x = 3 then pkV y 99 97 108 108 0 0 else if x = 4 then pkV y 104 97 110 103 0 0 else if x = 5 then pkV y 99 117 116 0 0 0 else if x = 6 then pkV y 109 101 110 100 0 0 else pkV y 119 97 105 116 0 0
theorem m_spV {x y : Int32} {Z : ZZ} : sX8_spelled x y Z = some (spV x y, Z) := by
  unfold sX8_spelled spV
  simp only [m_pick, bnd_s]
  by_cases h0 : x = 0
  · rw [if_pos h0, if_pos h0]
  rw [if_neg h0, if_neg h0]
  by_cases h1 : x = 1
  · rw [if_pos h1, if_pos h1]
  rw [if_neg h1, if_neg h1]
  by_cases h2 : x = 2
  · rw [if_pos h2, if_pos h2]
  rw [if_neg h2, if_neg h2]
  by_cases h3 : x = 3
  · rw [if_pos h3, if_pos h3]
  rw [if_neg h3, if_neg h3]
  by_cases h4 : x = 4
  · rw [if_pos h4, if_pos h4]
  rw [if_neg h4, if_neg h4]
  by_cases h5 : x = 5
  · rw [if_pos h5, if_pos h5]
  rw [if_neg h5, if_neg h5]
  by_cases h6 : x = 6
  · rw [if_pos h6, if_pos h6]
  rw [if_neg h6, if_neg h6]
def sL : List (List Nat) := [[115, 119, 105, 116, 99, 104], [116, 114, 117, 110, 107], [117, 115, 101, 114], [99, 97, 108, 108], [104, 97, 110, 103], [99, 117, 116], [109, 101, 110, 100], [119, 97, 105, 116]]
theorem spV_t : ∀ k, k < 8 → ∀ i, i < 7 → spV (nI k) (nI i) = nI ((sL.getD k []).getD i 0) := by decide +kernel
theorem sL_len : ∀ k, k < 8 → 3 ≤ (sL.getD k []).length ∧ (sL.getD k []).length ≤ 6 ∧ ∀ i, i < (sL.getD k []).length → 0 < (sL.getD k []).getD i 0 ∧ (sL.getD k []).getD i 0 < 200 := by decide +kernel
theorem m_spell {k i : Nat} {Z : ZZ} (hk : k < 8) (hi : i < 7) : sX8_spelled (nI k) (nI i) Z = some (nI ((sL.getD k []).getD i 0), Z) := by
  rw [m_spV, spV_t k hk i hi]
def mt (tx : Nat → Nat) (m : Nat) : List Nat → Nat → Nat
  | [], _ => 0
  | c :: l, p => if p < m ∧ tx p = c then mt tx m l (p + 1) + 1 else 0
section P
variable {tx : Nat → Nat} {m : Nat} {Z : ZZ}
theorem mt_spec : ∀ (L : List Nat) (p : Nat), mt tx m L p ≤ L.length ∧ (∀ i, i < mt tx m L p → p + i < m ∧ tx (p + i) = L.getD i 0) ∧ (mt tx m L p < L.length → ¬ (p + mt tx m L p < m ∧ tx (p + mt tx m L p) = L.getD (mt tx m L p) 0)) := by
  intro L
  induction L with
  | nil => intro p; exact ⟨Nat.le_refl _, fun i hi => absurd hi (Nat.not_lt_zero i), fun h => absurd h (Nat.lt_irrefl 0)⟩
  | cons c l ih =>
    intro p
    obtain ⟨h1, h2, h3⟩ := ih (p + 1)
    unfold mt
    by_cases q : p < m ∧ tx p = c
    · rw [if_pos q]
      refine ⟨by simpa using h1, fun i hi => ?_, fun h => ?_⟩
      · cases i with
        | zero => exact ⟨q.1, q.2⟩
        | succ i =>
          have := h2 i (by omega)
          rw [show p + 1 + i = p + (i + 1) by omega] at this
          exact this
      · have := h3 (by simpa using h)
        rw [show p + 1 + mt tx m l (p + 1) = p + (mt tx m l (p + 1) + 1) by omega] at this
        exact this
    · rw [if_neg q]
      exact ⟨Nat.zero_le _, fun i hi => absurd hi (Nat.not_lt_zero i), fun _ => q⟩
theorem m_wi {p g k : Nat} {k4 : Int32 → Int32 → ZZ → Option (Int32 × ZZ)} (hm : okT tx m) (hp : p ≤ m) (hk : k < 8) (h : rQ tx m (p, 0) Z) : ∀ (e i n : Nat), i + e = mt tx m (sL.getD k []) p → e < n → sX8_word_L12 k4 n (nI g) (nI k) (nI i) Z = sX8_word_B58 k4 (nI g) (nI k) (nI (mt tx m (sL.getD k []) p)) Z := by
  obtain ⟨s1, s2, s3⟩ := mt_spec (tx := tx) (m := m) (sL.getD k []) p
  obtain ⟨l3, l6, lp⟩ := sL_len k hk
  obtain ⟨h1, h2, h3, h4⟩ := h
  have := hm.1
  intro e
  induction e with
  | zero =>
    intro i n hi hn
    obtain ⟨n, rfl⟩ : ∃ q, n = q + 1 := ⟨n - 1, by omega⟩
    have hi2 : i = mt tx m (sL.getD k []) p := by omega
    rw [sX8_word_L12, m_spell hk (by omega), bnd_s]
    by_cases c : i < (sL.getD k []).length
    · obtain ⟨v1, v2⟩ := lp i c
      have hno := s3 (by omega)
      rw [← hi2] at hno ⊢
      dsimp only
      rw [if_neg (nI_nle v1 (by omega)), h3, h1, nI_add]
      simp only [le_nn (show m < 2 ^ 31 by omega) (show p + i < 2 ^ 31 by omega)]
      by_cases c2 : m ≤ p + i
      · rw [if_pos c2]
      · have ht := hm.2 (p + i) (by omega)
        rw [if_neg c2, gd_t (vin_n (by omega) (by decide)), cl_n (by omega), h4 _ (by omega), m_spell hk (by omega), bnd_s]
        simp only [eq_nn (show tx (p + i) < 2 ^ 31 by omega) (show (sL.getD k []).getD i 0 < 2 ^ 31 by omega)]
        rw [if_neg (fun q => hno ⟨by omega, q⟩)]
    · have e0 : (sL.getD k []).getD i 0 = 0 := by
        rw [List.getD_eq_getElem?_getD, List.getElem?_eq_none (by omega)]; rfl
      rw [e0, ← hi2]
      dsimp only
      rw [if_pos (by decide)]
  | succ e ih =>
    intro i n hi hn
    obtain ⟨n, rfl⟩ : ∃ q, n = q + 1 := ⟨n - 1, by omega⟩
    obtain ⟨q1, q2⟩ := s2 i (by omega)
    obtain ⟨v1, v2⟩ := lp i (by omega)
    rw [sX8_word_L12, m_spell hk (by omega), bnd_s]
    dsimp only
    rw [if_neg (nI_nle v1 (by omega)), h3, h1, nI_add, if_neg (nI_ge q1 (by omega)), gd_t (vin_n (by omega) (by decide)), cl_n (by omega), h4 _ q1, m_spell hk (by omega), bnd_s, q2, if_pos rfl, nm_d, ad_n1]
    exact ih (i + 1) n (by omega) (by omega)
theorem m_w1 {p g k n : Nat} (hm : okT tx m) (hp : p ≤ m) (hk : k < 8) (hg : g < 100) (h : rQ tx m (p, 0) Z) (q : mt tx m (sL.getD k []) p < (sL.getD k []).length) : sX8_word_L4 (n + 1) (nI g) (nI k) Z = sX8_word_L4 n (nI (max g (mt tx m (sL.getD k []) p))) (nI (k + 1)) Z := by
  obtain ⟨s1, s2, s3⟩ := mt_spec (tx := tx) (m := m) (sL.getD k []) p
  obtain ⟨l3, l6, lp⟩ := sL_len k hk
  obtain ⟨v1, v2⟩ := lp _ q
  rw [sX8_word_L4, if_neg (lge hk (by decide))]
  refine Eq.trans (m_wi hm hp hk h (mt tx m (sL.getD k []) p) 0 3000 (by omega) (by omega)) ?_
  unfold sX8_word_B58
  rw [m_spell hk (by omega), bnd_s]
  dsimp only
  rw [if_neg (nI_ne0 v1 (by omega))]
  simp only [le_nn (show mt tx m (sL.getD k []) p < 2 ^ 31 by omega) (show g < 2 ^ 31 by omega), nm_d, ad_n1]
  by_cases c : mt tx m (sL.getD k []) p ≤ g
  · rw [if_pos c, Nat.max_eq_left c]
  · rw [if_neg c, Nat.max_eq_right (by omega)]
theorem m_w2 {p g k n : Nat} (hm : okT tx m) (hp : p ≤ m) (hk : k < 8) (h : rQ tx m (p, 0) Z) (q : mt tx m (sL.getD k []) p = (sL.getD k []).length) : sX8_word_L4 (n + 1) (nI g) (nI k) Z = some (nI k, pI Z 0 22 (nI (p + (sL.getD k []).length))) := by
  obtain ⟨l3, l6, lp⟩ := sL_len k hk
  rw [sX8_word_L4, if_neg (lge hk (by decide))]
  refine Eq.trans (m_wi hm hp hk h (mt tx m (sL.getD k []) p) 0 3000 (by omega) (by omega)) ?_
  have e0 : (sL.getD k []).getD (sL.getD k []).length 0 = 0 := by
    rw [List.getD_eq_getElem?_getD, List.getElem?_eq_none (Nat.le_refl _)]; rfl
  unfold sX8_word_B58
  rw [q, m_spell hk (by omega), bnd_s, e0]
  dsimp only
  rw [if_pos nI_0]
  unfold sX8_word_B66
  rw [h.1, nI_add, nm_d]
theorem m_w3 {p g n : Nat} (h : rQ tx m (p, 0) Z) : sX8_word_L4 (n + 1) (nI g) (nI 8) Z = some (0, pI (pI Z 0 22 (nI (p + g))) 0 24 1) := by
  rw [sX8_word_L4, if_pos (by decide)]
  unfold sX8_word_B95
  rw [h.1, nI_add, nm_d, nm_d]
theorem m_word_ok {p k : Nat} (hm : okT tx m) (hp : p ≤ m) (hk : k < 8) (h : rQ tx m (p, 0) Z) (q : mt tx m (sL.getD k []) p = (sL.getD k []).length) (hne : ∀ j, j < k → mt tx m (sL.getD j []) p < (sL.getD j []).length) : sX8_word Z = some (nI k, pI Z 0 22 (nI (p + (sL.getD k []).length))) := by
  have main : ∀ (e j n g : Nat), j + e = k → e < n → g < 100 → sX8_word_L4 n (nI g) (nI j) Z = some (nI k, pI Z 0 22 (nI (p + (sL.getD k []).length))) := by
    intro e
    induction e with
    | zero =>
      intro j n g hj hn hg
      obtain ⟨n, rfl⟩ : ∃ q, n = q + 1 := ⟨n - 1, by omega⟩
      have : j = k := by omega
      subst this
      exact m_w2 hm hp hk h q
    | succ e ih =>
      intro j n g hj hn hg
      obtain ⟨n, rfl⟩ : ∃ q, n = q + 1 := ⟨n - 1, by omega⟩
      have := hne j (by omega)
      have := (sL_len j (by omega)).2.1
      rw [m_w1 hm hp (by omega) hg h (hne j (by omega))]
      exact ih (j + 1) n _ (by omega) (by omega) (by omega)
  exact main k 0 3000 0 (by omega) (by omega) (by decide)
theorem m_word_no {p w : Nat} (hm : okT tx m) (hp : p ≤ m) (h : rQ tx m (p, 0) Z) (hne : ∀ j, j < 8 → mt tx m (sL.getD j []) p < (sL.getD j []).length ∧ mt tx m (sL.getD j []) p ≤ w) (hw : w = 0 ∨ ∃ j, j < 8 ∧ mt tx m (sL.getD j []) p = w) : sX8_word Z = some (0, pI (pI Z 0 22 (nI (p + w))) 0 24 1) := by
  have main : ∀ (e j n g : Nat), j + e = 8 → e < n → g ≤ w → w < 100 → (g = w ∨ ∃ i, j ≤ i ∧ i < 8 ∧ mt tx m (sL.getD i []) p = w) → sX8_word_L4 n (nI g) (nI j) Z = some (0, pI (pI Z 0 22 (nI (p + w))) 0 24 1) := by
    intro e
    induction e with
    | zero =>
      intro j n g hj hn hg _ hx
      obtain ⟨n, rfl⟩ : ∃ q, n = q + 1 := ⟨n - 1, by omega⟩
      have e8 : j = 8 := by omega
      have eg : g = w := hx.elim id (fun ⟨i, i1, i2, _⟩ => by omega)
      rw [e8, eg]
      exact m_w3 h
    | succ e ih =>
      intro j n g hj hn hg hw hx
      obtain ⟨n, rfl⟩ : ∃ q, n = q + 1 := ⟨n - 1, by omega⟩
      obtain ⟨q1, q2⟩ := hne j (by omega)
      rw [m_w1 hm hp (by omega) (by omega) h q1]
      refine ih (j + 1) n _ (by omega) (by omega) (by omega) hw ?_
      rcases hx with c | ⟨i, i1, i2, i3⟩
      · left; omega
      · by_cases c : i = j
        · left; rw [← c, i3]; omega
        · right; exact ⟨i, by omega, i2, i3⟩
  have hw100 : w < 100 := by
    rcases hw with c | ⟨j, j1, j2⟩
    · omega
    · have := hne j j1
      have := (sL_len j j1).2.1
      omega
  refine main 8 0 3000 0 (by omega) (by omega) (Nat.zero_le _) hw100 ?_
  rcases hw with c | ⟨j, j1, j2⟩
  · left; exact c.symm
  · right; exact ⟨j, Nat.zero_le _, j1, j2⟩
/-! the class looks at the first letters -/
def kA (tx : Nat → Nat) (m p : Nat) : Nat := if p < m then (if tx p = 99 then (if p + 1 < m ∧ tx (p + 1) = 117 then 5 else 3) else if tx p = 104 then 4 else if tx p = 109 then 6 else if tx p = 115 then 0 else if tx p = 116 then 1 else if tx p = 117 then 2 else if tx p = 119 then 7 else 8) else 8
theorem c_kind {p b : Nat} (hm : okT tx m) (hp : p ≤ m) (hb : b ≤ 1) (h : cP tx m (p, b) Z) : sX4_kindAhead Z = some (if kA tx m p = 8 then (-1, pI Z 7 8 1) else (nI (kA tx m p), Z)) := by
  have h60 := hm.1
  unfold sX4_kindAhead kA
  rw [c_peek0 hm ⟨hp, hb⟩ h, bnd_s]
  dsimp only
  by_cases q : p < m
  · have ht := hm.2 _ q
    rw [if_pos q, if_pos q]
    simp only [eq_nl (show tx p < 2 ^ 31 by omega) (show 99 < 2 ^ 31 by decide), eq_nl (show tx p < 2 ^ 31 by omega) (show 104 < 2 ^ 31 by decide), eq_nl (show tx p < 2 ^ 31 by omega) (show 109 < 2 ^ 31 by decide), eq_nl (show tx p < 2 ^ 31 by omega) (show 115 < 2 ^ 31 by decide), eq_nl (show tx p < 2 ^ 31 by omega) (show 116 < 2 ^ 31 by decide), eq_nl (show tx p < 2 ^ 31 by omega) (show 117 < 2 ^ 31 by decide), eq_nl (show tx p < 2 ^ 31 by omega) (show 119 < 2 ^ 31 by decide)]
    by_cases c0 : tx p = 99
    · rw [if_pos c0, if_pos c0, show sX4_peek 1 Z = _ from c_peek (a := 1) hm ⟨hp, hb⟩ (by decide) h, bnd_s]
      dsimp only
      by_cases q2 : p + 1 < m
      · have ht2 := hm.2 _ q2
        rw [if_pos q2]
        simp only [eq_nl (show tx (p + 1) < 2 ^ 31 by omega) (show 117 < 2 ^ 31 by decide)]
        by_cases c2 : tx (p + 1) = 117
        · have e : (if p + 1 < m ∧ tx (p + 1) = 117 then 5 else 3) = 5 := if_pos ⟨q2, c2⟩
          rw [if_pos c2, e, if_neg (by decide)]; rfl
        · have e : (if p + 1 < m ∧ tx (p + 1) = 117 then 5 else 3) = 3 := if_neg (fun r => c2 r.2)
          rw [if_neg c2, e, if_neg (by decide)]; rfl
      · have e : (if p + 1 < m ∧ tx (p + 1) = 117 then 5 else 3) = 3 := if_neg (fun r => q2 r.1)
        rw [if_neg q2, if_neg (by decide), e, if_neg (by decide)]; rfl
    · rw [if_neg c0, if_neg c0]
      by_cases c1 : tx p = 104
      · rw [if_pos c1, if_pos c1, if_neg (by decide)]; rfl
      · rw [if_neg c1, if_neg c1]
        by_cases c2 : tx p = 109
        · rw [if_pos c2, if_pos c2, if_neg (by decide)]; rfl
        · rw [if_neg c2, if_neg c2]
          by_cases c3 : tx p = 115
          · rw [if_pos c3, if_pos c3, if_neg (by decide)]; rfl
          · rw [if_neg c3, if_neg c3]
            by_cases c4 : tx p = 116
            · rw [if_pos c4, if_pos c4, if_neg (by decide)]; rfl
            · rw [if_neg c4, if_neg c4]
              by_cases c5 : tx p = 117
              · rw [if_pos c5, if_pos c5, if_neg (by decide)]; rfl
              · rw [if_neg c5, if_neg c5]
                by_cases c6 : tx p = 119
                · rw [if_pos c6, if_pos c6, if_neg (by decide)]; rfl
                · rw [if_neg c6, if_neg c6, if_pos rfl]; rfl
  · rw [if_neg q, if_neg q, if_neg (by decide), if_neg (by decide), if_neg (by decide), if_neg (by decide), if_neg (by decide), if_neg (by decide), if_neg (by decide), if_pos rfl]; rfl
theorem kA_no {p : Nat} (h : kA tx m p = 8) : ∀ j, j < 8 → mt tx m (sL.getD j []) p = 0 := by
  have hq : ∀ c l, (c = 99 ∨ c = 104 ∨ c = 109 ∨ c = 115 ∨ c = 116 ∨ c = 117 ∨ c = 119) → mt tx m (c :: l) p = 0 := fun c l hc => by
    unfold mt
    refine if_neg (fun q => ?_)
    unfold kA at h
    rw [if_pos q.1, q.2] at h
    rcases hc with e | e | e | e | e | e | e <;> subst e <;> simp at h
    split at h <;> omega
  intro j hj
  match j, hj with
  | 0, _ => exact hq _ _ (by decide)
  | 1, _ => exact hq _ _ (by decide)
  | 2, _ => exact hq _ _ (by decide)
  | 3, _ => exact hq _ _ (by decide)
  | 4, _ => exact hq _ _ (by decide)
  | 5, _ => exact hq _ _ (by decide)
  | 6, _ => exact hq _ _ (by decide)
  | 7, _ => exact hq _ _ (by decide)
theorem kA_of {p k : Nat} (h : kA tx m p = k) (hk : k < 8) : ∀ j, j < 8 → j ≠ k → mt tx m (sL.getD j []) p ≤ mt tx m (sL.getD k []) p ∧ mt tx m (sL.getD j []) p < (sL.getD j []).length := by
  unfold kA at h
  by_cases q : p < m
  · rw [if_pos q] at h
    have one : ∀ v, tx p = v → (v = 104 ∨ v = 109 ∨ v = 115 ∨ v = 116 ∨ v = 117 ∨ v = 119) → ∀ c l, c ≠ v → mt tx m (c :: l) p = 0 := fun v hv _ c l hc => by
      unfold mt
      exact if_neg (fun r => hc (by rw [← r.2, hv]))
    by_cases c0 : tx p = 99
    · rw [if_pos c0] at h
      intro j hj hjk
      by_cases c2 : p + 1 < m ∧ tx (p + 1) = 117
      · rw [if_pos c2] at h
        subst h
        match j, hj, hjk with
        | 0, _, _ => simp [sL, mt, q, c0]
        | 1, _, _ => simp [sL, mt, q, c0]
        | 2, _, _ => simp [sL, mt, q, c0]
        | 3, _, _ => simp [sL, mt, q, c0, c2]
        | 4, _, _ => simp [sL, mt, q, c0]
        | 5, _, e => exact absurd rfl e
        | 6, _, _ => simp [sL, mt, q, c0]
        | 7, _, _ => simp [sL, mt, q, c0]
      · rw [if_neg c2] at h
        subst h
        match j, hj, hjk with
        | 0, _, _ => simp [sL, mt, q, c0]
        | 1, _, _ => simp [sL, mt, q, c0]
        | 2, _, _ => simp [sL, mt, q, c0]
        | 3, _, e => exact absurd rfl e
        | 4, _, _ => simp [sL, mt, q, c0]
        | 5, _, _ => simp [sL, mt, q, c0, c2]
        | 6, _, _ => simp [sL, mt, q, c0]
        | 7, _, _ => simp [sL, mt, q, c0]
    · rw [if_neg c0] at h
      by_cases c1 : tx p = 104
      · rw [if_pos c1] at h
        subst h
        intro j hj hjk
        match j, hj, hjk with
        | 0, _, _ => simp [sL, mt, q, c1]
        | 1, _, _ => simp [sL, mt, q, c1]
        | 2, _, _ => simp [sL, mt, q, c1]
        | 3, _, _ => simp [sL, mt, q, c1]
        | 4, _, e => exact absurd rfl e
        | 5, _, _ => simp [sL, mt, q, c1]
        | 6, _, _ => simp [sL, mt, q, c1]
        | 7, _, _ => simp [sL, mt, q, c1]
      rw [if_neg c1] at h
      by_cases c2 : tx p = 109
      · rw [if_pos c2] at h
        subst h
        intro j hj hjk
        match j, hj, hjk with
        | 0, _, _ => simp [sL, mt, q, c2]
        | 1, _, _ => simp [sL, mt, q, c2]
        | 2, _, _ => simp [sL, mt, q, c2]
        | 3, _, _ => simp [sL, mt, q, c2]
        | 4, _, _ => simp [sL, mt, q, c2]
        | 5, _, _ => simp [sL, mt, q, c2]
        | 6, _, e => exact absurd rfl e
        | 7, _, _ => simp [sL, mt, q, c2]
      rw [if_neg c2] at h
      by_cases c3 : tx p = 115
      · rw [if_pos c3] at h
        subst h
        intro j hj hjk
        match j, hj, hjk with
        | 0, _, e => exact absurd rfl e
        | 1, _, _ => simp [sL, mt, q, c3]
        | 2, _, _ => simp [sL, mt, q, c3]
        | 3, _, _ => simp [sL, mt, q, c3]
        | 4, _, _ => simp [sL, mt, q, c3]
        | 5, _, _ => simp [sL, mt, q, c3]
        | 6, _, _ => simp [sL, mt, q, c3]
        | 7, _, _ => simp [sL, mt, q, c3]
      rw [if_neg c3] at h
      by_cases c4 : tx p = 116
      · rw [if_pos c4] at h
        subst h
        intro j hj hjk
        match j, hj, hjk with
        | 0, _, _ => simp [sL, mt, q, c4]
        | 1, _, e => exact absurd rfl e
        | 2, _, _ => simp [sL, mt, q, c4]
        | 3, _, _ => simp [sL, mt, q, c4]
        | 4, _, _ => simp [sL, mt, q, c4]
        | 5, _, _ => simp [sL, mt, q, c4]
        | 6, _, _ => simp [sL, mt, q, c4]
        | 7, _, _ => simp [sL, mt, q, c4]
      rw [if_neg c4] at h
      by_cases c5 : tx p = 117
      · rw [if_pos c5] at h
        subst h
        intro j hj hjk
        match j, hj, hjk with
        | 0, _, _ => simp [sL, mt, q, c5]
        | 1, _, _ => simp [sL, mt, q, c5]
        | 2, _, e => exact absurd rfl e
        | 3, _, _ => simp [sL, mt, q, c5]
        | 4, _, _ => simp [sL, mt, q, c5]
        | 5, _, _ => simp [sL, mt, q, c5]
        | 6, _, _ => simp [sL, mt, q, c5]
        | 7, _, _ => simp [sL, mt, q, c5]
      rw [if_neg c5] at h
      by_cases c6 : tx p = 119
      · rw [if_pos c6] at h
        subst h
        intro j hj hjk
        match j, hj, hjk with
        | 0, _, _ => simp [sL, mt, q, c6]
        | 1, _, _ => simp [sL, mt, q, c6]
        | 2, _, _ => simp [sL, mt, q, c6]
        | 3, _, _ => simp [sL, mt, q, c6]
        | 4, _, _ => simp [sL, mt, q, c6]
        | 5, _, _ => simp [sL, mt, q, c6]
        | 6, _, _ => simp [sL, mt, q, c6]
        | 7, _, e => exact absurd rfl e
      rw [if_neg c6] at h
      omega
  · rw [if_neg q] at h; omega
theorem xW_b : ∀ (L : List Nat) (p : Nat), xW tx m L (p, 1) = (p, 1)
  | [], _ => rfl
  | c :: l, p => by
    unfold xW xE
    rw [if_neg (fun r => absurd (show (1 : Nat) = 0 from r.1) (by decide))]
    exact xW_b l p
theorem xW_mt : ∀ (L : List Nat) (p : Nat), xW tx m L (p, 0) = (p + mt tx m L p, if mt tx m L p = L.length then 0 else 1)
  | [], _ => rfl
  | c :: l, p => by
    unfold xW xE mt
    by_cases q : p < m ∧ tx p = c
    · rw [if_pos ⟨rfl, q⟩, if_pos q, xW_mt l (p + 1), show p + 1 + mt tx m l (p + 1) = p + (mt tx m l (p + 1) + 1) by omega]
      simp
    · rw [if_neg (fun r => q r.2), if_neg q, xW_b l p]
      simp
theorem xW_app : ∀ (L K : List Nat) (s : Nat × Nat), xW tx m (L ++ K) s = xW tx m K (xW tx m L s)
  | [], _, _ => rfl
  | c :: l, K, s => xW_app l K (xE tx m c s)
theorem wL_sL : ∀ k, k < 8 → wL.getD k [] = sL.getD k [] ++ (if 1 ≤ k ∧ k ≤ 6 then [32] else []) := by decide
end P
