/-! the parsers: a text tx of m characters; a state is a position and whether it is broken -/
def xE (tx : Nat → Nat) (m c : Nat) (s : Nat × Nat) : Nat × Nat := if s.2 = 0 ∧ s.1 < m ∧ tx s.1 = c then (s.1 + 1, 0) else (s.1, 1)
def xW (tx : Nat → Nat) (m : Nat) : List Nat → Nat × Nat → Nat × Nat
  | [], s => s
  | c :: l, s => xW tx m l (xE tx m c s)
def dgt (c : Nat) : Bool := decide (48 ≤ c ∧ c ≤ 57)
def xD (tx : Nat → Nat) (m : Nat) (s : Nat × Nat) : Nat × (Nat × Nat) := if s.2 = 0 ∧ s.1 < m ∧ dgt (tx s.1) = true then (tx s.1 - 48, (s.1 + 1, 0)) else (0, (s.1, 1))
def xN (tx : Nat → Nat) (m : Nat) (s : Nat × Nat) : Nat × (Nat × Nat) := if (xD tx m s).2.1 < m ∧ dgt (tx (xD tx m s).2.1) = true then ((xD tx m s).1 * 10 + (xD tx m (xD tx m s).2).1, (xD tx m (xD tx m s).2).2) else xD tx m s
/-- the text is one, the state is one -/
def okT (tx : Nat → Nat) (m : Nat) : Prop := m ≤ 60 ∧ ∀ j, j < m → tx j < 65536
def okS (m : Nat) (s : Nat × Nat) : Prop := s.1 ≤ m ∧ s.2 ≤ 1
theorem okS_E {tx : Nat → Nat} {m c : Nat} {s : Nat × Nat} (h : okS m s) : okS m (xE tx m c s) := by
  unfold xE
  split
  · exact ⟨show s.1 + 1 ≤ m by omega, Nat.zero_le 1⟩
  · exact ⟨h.1, Nat.le_refl 1⟩
theorem okS_D {tx : Nat → Nat} {m : Nat} {s : Nat × Nat} (h : okS m s) : okS m (xD tx m s).2 := by
  unfold xD
  split
  · exact ⟨show s.1 + 1 ≤ m by omega, Nat.zero_le 1⟩
  · exact ⟨h.1, Nat.le_refl 1⟩
theorem okS_N {tx : Nat → Nat} {m : Nat} {s : Nat × Nat} (h : okS m s) : okS m (xN tx m s).2 := by
  unfold xN
  split
  · exact okS_D (okS_D h)
  · exact okS_D h
theorem okS_W {tx : Nat → Nat} {m : Nat} : ∀ (l : List Nat) {s : Nat × Nat}, okS m s → okS m (xW tx m l s)
  | [], _, h => h
  | _ :: l, _, h => okS_W l (okS_E h)
def cP (tx : Nat → Nat) (m : Nat) (s : Nat × Nat) (Z : ZZ) : Prop := gI Z 7 7 = nI s.1 ∧ gI Z 7 8 = nI s.2 ∧ gI Z 7 1 = nI m ∧ ∀ j, j < m → gI Z 8 j = nI (tx j)
def onlyT (Z Z' : ZZ) : Prop := (∀ k j, (k = 7 → j ≠ 7 ∧ j ≠ 8) → gI Z' k j = gI Z k j) ∧ ∀ k, gL Z' k = gL Z k
theorem onlyT_rf (Z : ZZ) : onlyT Z Z := ⟨fun _ _ _ => rfl, fun _ => rfl⟩
theorem onlyT_tr {A B C : ZZ} (h1 : onlyT A B) (h2 : onlyT B C) : onlyT A C := ⟨fun k j h => (h2.1 k j h).trans (h1.1 k j h), fun k => (h2.2 k).trans (h1.2 k)⟩
theorem onlyT_7 (Z : ZZ) (x : Int32) : onlyT Z (pI Z 7 7 x) := ⟨fun k j h => gI_pI_o _ _ (fun q => (h q).1), fun _ => rfl⟩
theorem onlyT_8 (Z : ZZ) (x : Int32) : onlyT Z (pI Z 7 8 x) := ⟨fun k j h => gI_pI_o _ _ (fun q => (h q).2), fun _ => rfl⟩
theorem cP_7 {tx : Nat → Nat} {m p : Nat} {s : Nat × Nat} {Z : ZZ} (h : cP tx m s Z) : cP tx m (p, s.2) (pI Z 7 7 (nI p)) :=
  ⟨gI_pI_s _ _ _ _, (gI_pI_j _ _ _ _ (by decide)).trans h.2.1, (gI_pI_j _ _ _ _ (by decide)).trans h.2.2.1, fun j hj => (gI_pI_k _ _ _ _ (by decide)).trans (h.2.2.2 j hj)⟩
theorem cP_8 {tx : Nat → Nat} {m : Nat} {s : Nat × Nat} {Z : ZZ} (h : cP tx m s Z) : cP tx m (s.1, 1) (pI Z 7 8 1) :=
  ⟨(gI_pI_j _ _ _ _ (by decide)).trans h.1, gI_pI_s _ _ _ _, (gI_pI_j _ _ _ _ (by decide)).trans h.2.2.1, fun j hj => (gI_pI_k _ _ _ _ (by decide)).trans (h.2.2.2 j hj)⟩
section P
variable {tx : Nat → Nat} {m c : Nat} {s : Nat × Nat} {Z : ZZ}
theorem c_peek {a : Nat} (hm : okT tx m) (hs : okS m s) (ha : a < 60) (h : cP tx m s Z) : sX4_peek (nI a) Z = some (if s.1 + a < m then nI (tx (s.1 + a)) else -1, Z) := by
  obtain ⟨h1, h2, h3, h4⟩ := h
  have := hm.1
  have := hs.1
  unfold sX4_peek
  rw [h1, nI_add, nm_d, if_neg (nI_pos (by omega)), h3]
  simp only [le_nn (show m < 2 ^ 31 by omega) (show s.1 + a < 2 ^ 31 by omega)]
  by_cases q : s.1 + a < m
  · rw [if_neg (by omega), gd_t (vin_n (by omega) (by decide)), cl_n (by omega), h4 _ q, if_pos q]
  · rw [if_pos (by omega), if_neg q]
theorem c_peek0 (hm : okT tx m) (hs : okS m s) (h : cP tx m s Z) : sX4_peek 0 Z = some (if s.1 < m then nI (tx s.1) else -1, Z) := c_peek (a := 0) hm hs (by decide) h
theorem m1_ne {c : Nat} (h : c < 2 ^ 31) : ¬ (-1 : Int32) = nI c := fun e => ne_m1 h e.symm
theorem c_exp (hm : okT tx m) (hs : okS m s) (hc : c < 65536) (h : cP tx m s Z) : ∃ Z', sX4_expect (nI c) Z = some Z' ∧ cP tx m (xE tx m c s) Z' ∧ onlyT Z Z' := by
  have h0 := h
  obtain ⟨h1, h2, h3, h4⟩ := h
  have := hm.1
  have := hs.1
  have := hs.2
  unfold sX4_expect xE
  rw [h2]
  by_cases b : s.2 = 0
  · rw [b, if_pos (by decide), c_peek0 hm hs h0, bnd_s]
    dsimp only
    by_cases q : s.1 < m
    · have ht := hm.2 _ q
      rw [if_pos q]
      simp only [eq_nn (show tx s.1 < 2 ^ 31 by omega) (show c < 2 ^ 31 by omega)]
      by_cases e : tx s.1 = c
      · rw [if_pos e, if_pos ⟨by trivial, q, e⟩, h1, ad_n1, nm_d]
        refine ⟨_, rfl, ?_, onlyT_7 _ _⟩
        have := cP_7 (p := s.1 + 1) h0
        rw [b] at this; exact this
      · rw [if_neg e, if_neg (fun q => e q.2.2), nm_d]
        exact ⟨_, rfl, cP_8 h0, onlyT_8 _ _⟩
    · rw [if_neg q, if_neg (m1_ne (by omega)), if_neg (fun r => q r.2.1), nm_d]
      exact ⟨_, rfl, cP_8 h0, onlyT_8 _ _⟩
  · rw [if_neg (nI_ne0 (by omega) (by omega)), if_neg (fun r => b r.1), nm_d]
    exact ⟨_, rfl, cP_8 h0, onlyT_8 _ _⟩
theorem c_isDn {t : Nat} (t1 : t < 65536) : sX4_isDigit (nI t) Z = some (if dgt t = true then 1 else 0, Z) := by
  unfold sX4_isDigit
  simp only [lt_nl (show t < 2 ^ 31 by omega) (show 48 < 2 ^ 31 by decide), lt_ln (show t < 2 ^ 31 by omega) (show 57 < 2 ^ 31 by decide)]
  unfold dgt
  by_cases c1 : t < 48
  · rw [if_pos c1, if_neg (by simp; omega)]
  · rw [if_neg c1]
    by_cases c2 : 57 < t
    · rw [if_pos c2, if_neg (by simp; omega)]
    · rw [if_neg c2, if_pos (by simp; omega)]
theorem c_isDp (hm : okT tx m) : sX4_isDigit (if s.1 < m then nI (tx s.1) else -1) Z = some (if s.1 < m ∧ dgt (tx s.1) = true then 1 else 0, Z) := by
  by_cases q : s.1 < m
  · rw [if_pos q, c_isDn (hm.2 _ q)]
    by_cases r : dgt (tx s.1) = true
    · rw [if_pos r, if_pos ⟨q, r⟩]
    · rw [if_neg r, if_neg (fun z => r z.2)]
  · rw [if_neg q, if_neg (fun z => q z.1)]
    unfold sX4_isDigit
    rw [if_pos (by decide)]
theorem c_dig (hm : okT tx m) (hs : okS m s) (h : cP tx m s Z) : ∃ Z', sX4_readDigit Z = some (nI (xD tx m s).1, Z') ∧ cP tx m (xD tx m s).2 Z' ∧ onlyT Z Z' := by
  have h0 := h
  obtain ⟨h1, h2, h3, h4⟩ := h
  have := hm.1
  have := hs.1
  have := hs.2
  unfold sX4_readDigit xD
  rw [c_peek0 hm hs h0, bnd_s, nm_d]
  dsimp only
  rw [h2]
  by_cases b : s.2 = 0
  · rw [b, if_pos (by decide), c_isDp hm, bnd_s]
    by_cases q : s.1 < m ∧ dgt (tx s.1) = true
    · rw [if_pos q]
      dsimp only
      rw [if_neg (by decide), if_pos q.1, if_pos ⟨rfl, q⟩, h1, ad_n1, nm_d]
      have hd : 48 ≤ tx s.1 := by
        have := q.2
        unfold dgt at this
        exact (of_decide_eq_true this).1
      refine ⟨_, by rw [show nI (tx s.1) - 48 = nI (tx s.1 - 48) from pk_sub (b := 48) hd], ?_, onlyT_7 _ _⟩
      have := cP_7 (p := s.1 + 1) h0
      rw [b] at this; exact this
    · rw [if_neg q]
      dsimp only
      rw [if_pos rfl, if_neg (fun r => q r.2), nm_d]
      exact ⟨_, rfl, cP_8 h0, onlyT_8 _ _⟩
  · rw [if_neg (nI_ne0 (by omega) (by omega)), if_neg (fun r => b r.1), nm_d]
    exact ⟨_, rfl, cP_8 h0, onlyT_8 _ _⟩
theorem c_num (hm : okT tx m) (hs : okS m s) (h : cP tx m s Z) : ∃ Z', sX4_readNumber Z = some (nI (xN tx m s).1, Z') ∧ cP tx m (xN tx m s).2 Z' ∧ onlyT Z Z' := by
  obtain ⟨Z1, a1, a2, a3⟩ := c_dig hm hs h
  have hs1 := okS_D (tx := tx) hs
  unfold sX4_readNumber xN
  rw [a1, bnd_s, nm_d, c_peek0 hm hs1 a2, bnd_s, c_isDp hm, bnd_s]
  by_cases q : (xD tx m s).2.1 < m ∧ dgt (tx (xD tx m s).2.1) = true
  · obtain ⟨Z2, b1, b2, b3⟩ := c_dig hm hs1 a2
    rw [if_pos q, if_pos q]
    dsimp only
    rw [if_neg (by decide), b1, bnd_s]
    dsimp only
    rw [show (10 : Int32) = nI 10 from rfl, pk_mul, nI_add]
    exact ⟨Z2, rfl, b2, onlyT_tr a3 b3⟩
  · rw [if_neg q, if_neg q]
    dsimp only
    rw [if_pos rfl]
    exact ⟨Z1, rfl, a2, a3⟩
/-- the words, with the blank behind them -/
def wL : List (List Nat) := [[115, 119, 105, 116, 99, 104], [116, 114, 117, 110, 107, 32], [117, 115, 101, 114, 32], [99, 97, 108, 108, 32], [104, 97, 110, 103, 32], [99, 117, 116, 32], [109, 101, 110, 100, 32], [119, 97, 105, 116], []]
theorem wL_ok : ∀ w, w < 9 → xe_sl.getD w 0 = (wL.getD w []).length ∧ ∀ i, i < (wL.getD w []).length → ichar (((xe_sb.getD w []).getD i 0) &&& 255) = nI ((wL.getD w []).getD i 0) ∧ nch (ichar (((xe_sb.getD w []).getD i 0) &&& 255)) = true ∧ (wL.getD w []).getD i 0 < 65536 := by decide +kernel
theorem getD_lt {l : List Nat} {i : Nat} (h : i < l.length) : l.getD i 0 = l[i] := by
  rw [List.getD_eq_getElem?_getD, List.getElem?_eq_getElem h]; rfl
theorem c_word_L {w : Nat} (hm : okT tx m) (hw : w < 9) : ∀ (e i n : Nat) (Z : ZZ) (s : Nat × Nat), i + e = (wL.getD w []).length → e < n → okS m s → cP tx m s Z → ∃ Z', sX4_expectWord_L2 w n (nI i) Z = some Z' ∧ cP tx m (xW tx m ((wL.getD w []).drop i) s) Z' ∧ onlyT Z Z' := by
  obtain ⟨k1, k2⟩ := wL_ok w hw
  have hl : (wL.getD w []).length ≤ 6 := (by decide +kernel : ∀ w, w < 9 → (wL.getD w []).length ≤ 6) w hw
  have hsh : ∀ n, n < 2 ^ 31 → (nI n >>> ((0 : Int32) &&& 31)) = nI n := fun n hn => by
    rw [show ((0 : Int32) &&& 31) = 0 by decide, pk_shrN hn 0 0 (by decide)]; simp
  intro e
  induction e with
  | zero =>
    intro i n Z s hi hn hs h
    obtain ⟨n, rfl⟩ : ∃ q, n = q + 1 := ⟨n - 1, by omega⟩
    refine ⟨Z, ?_, ?_, onlyT_rf Z⟩
    · rw [sX4_expectWord_L2, k1, hsh _ (by omega), if_pos (nI_le (by omega) (by omega))]
    · rw [List.drop_of_length_le (by omega)]; exact h
  | succ e ih =>
    intro i n Z s hi hn hs h
    obtain ⟨n, rfl⟩ : ∃ q, n = q + 1 := ⟨n - 1, by omega⟩
    obtain ⟨q1, q2, q3⟩ := k2 i (by omega)
    obtain ⟨Z1, a1, a2, a3⟩ := c_exp hm hs q3 h
    obtain ⟨Z', b1, b2, b3⟩ := ih (i + 1) n Z1 _ (by omega) (by omega) (okS_E hs) a2
    refine ⟨Z', ?_, ?_, onlyT_tr a3 b3⟩
    · rw [sX4_expectWord_L2, k1, hsh _ (by omega), if_neg (nI_ge (by omega) (by omega)), gd_t (nI_pos (by omega)), gd_t (nI_lt (by omega) (by omega)), gd_t (vin_n (by omega) (by omega)), cl_n (by omega), gd_t q2, q1, a1, bnd_s, nm_d, ad_n1]
      exact b1
    · have : (wL.getD w []).drop i = (wL.getD w []).getD i 0 :: (wL.getD w []).drop (i + 1) := by
        have hlt : i < (wL.getD w []).length := by omega
        rw [List.drop_eq_getElem_cons hlt, getD_lt hlt]
      rw [this]; exact b2
theorem c_word {w : Nat} (hm : okT tx m) (hw : w < 9) (hs : okS m s) (h : cP tx m s Z) : ∃ Z', sX4_expectWord w Z = some Z' ∧ cP tx m (xW tx m (wL.getD w []) s) Z' ∧ onlyT Z Z' := by
  have hl : (wL.getD w []).length ≤ 6 := (by decide +kernel : ∀ w, w < 9 → (wL.getD w []).length ≤ 6) w hw
  obtain ⟨Z', a1, a2, a3⟩ := c_word_L hm hw (wL.getD w []).length 0 3000 Z s (by omega) (by omega) hs h
  refine ⟨Z', ?_, a2, a3⟩
  unfold sX4_expectWord
  rw [gd_t hw]
  exact a1
/-! the reference's -/
def rQ (tx : Nat → Nat) (m : Nat) (s : Nat × Nat) (Z : ZZ) : Prop := gI Z 0 22 = nI s.1 ∧ gI Z 0 24 = nI s.2 ∧ gI Z 0 21 = nI m ∧ ∀ j, j < m → gI Z 10 j = nI (tx j)
def onlyU (Z Z' : ZZ) : Prop := (∀ k j, (k = 0 → j ≠ 22 ∧ j ≠ 24) → gI Z' k j = gI Z k j) ∧ ∀ k, gL Z' k = gL Z k
theorem onlyU_rf (Z : ZZ) : onlyU Z Z := ⟨fun _ _ _ => rfl, fun _ => rfl⟩
theorem onlyU_tr {A B C : ZZ} (h1 : onlyU A B) (h2 : onlyU B C) : onlyU A C := ⟨fun k j h => (h2.1 k j h).trans (h1.1 k j h), fun k => (h2.2 k).trans (h1.2 k)⟩
theorem onlyU_2 (Z : ZZ) (x y : Int32) : onlyU Z (pI (pI Z 0 24 x) 0 22 y) := ⟨fun k j h => by rw [gI_pI_o _ _ (fun q => (h q).1), gI_pI_o _ _ (fun q => (h q).2)], fun _ => rfl⟩
theorem onlyU_22 (Z : ZZ) (x : Int32) : onlyU Z (pI Z 0 22 x) := ⟨fun k j h => by rw [gI_pI_o _ _ (fun q => (h q).1)], fun _ => rfl⟩
theorem onlyU_24 (Z : ZZ) (x : Int32) : onlyU Z (pI Z 0 24 x) := ⟨fun k j h => by rw [gI_pI_o _ _ (fun q => (h q).2)], fun _ => rfl⟩
theorem rQ_22 {p : Nat} (h : rQ tx m s Z) : rQ tx m (p, s.2) (pI Z 0 22 (nI p)) :=
  ⟨gI_pI_s _ _ _ _, (gI_pI_j _ _ _ _ (by decide)).trans h.2.1, (gI_pI_j _ _ _ _ (by decide)).trans h.2.2.1, fun j hj => (gI_pI_k _ _ _ _ (by decide)).trans (h.2.2.2 j hj)⟩
theorem rQ_24 {b : Nat} (h : rQ tx m s Z) : rQ tx m (s.1, b) (pI Z 0 24 (nI b)) :=
  ⟨(gI_pI_j _ _ _ _ (by decide)).trans h.1, gI_pI_s _ _ _ _, (gI_pI_j _ _ _ _ (by decide)).trans h.2.2.1, fun j hj => (gI_pI_k _ _ _ _ (by decide)).trans (h.2.2.2 j hj)⟩
theorem m_mark (hm : okT tx m) (hs : okS m s) (h : rQ tx m s Z) : sX8_mark Z = some (if s.2 = 0 ∧ s.1 < m then nI (tx s.1) else -1, Z) := by
  obtain ⟨h1, h2, h3, h4⟩ := h
  have := hm.1
  have := hs.1
  have := hs.2
  unfold sX8_mark
  rw [h2]
  by_cases b : s.2 = 0
  · rw [b, if_pos (by decide), h3, h1]
    simp only [le_nn (show m < 2 ^ 31 by omega) (show s.1 < 2 ^ 31 by omega)]
    by_cases q : s.1 < m
    · rw [if_neg (by omega), if_pos ⟨by trivial, q⟩, gd_t (vin_n (by omega) (by decide)), cl_n (by omega), h4 _ q]
    · rw [if_pos (by omega), if_neg (fun r => q r.2)]
  · rw [if_neg (nI_ne0 (by omega) (by omega)), if_neg (fun r => b r.1)]
theorem or1 {b : Nat} (h : b ≤ 1) : nI b ||| 1 = nI 1 ∧ nI b ||| 0 = nI b ∧ bq (nI b) = true := by
  have : b = 0 ∨ b = 1 := by omega
  rcases this with e | e <;> subst e <;> decide
theorem m_exp (hm : okT tx m) (hs : okS m s) (hc : c < 65536) (h : rQ tx m s Z) : ∃ Z', sX8_expect (nI c) Z = some Z' ∧ rQ tx m (xE tx m c s) Z' ∧ onlyU Z Z' := by
  have h0 := h
  obtain ⟨h1, h2, h3, h4⟩ := h
  obtain ⟨o1, o2, o3⟩ := or1 hs.2
  have := hm.1
  have := hs.1
  unfold sX8_expect
  rw [m_mark hm hs h0, bnd_s, h2]
  have bad : ∀ q : ¬ (s.2 = 0 ∧ s.1 < m ∧ tx s.1 = c), ∃ Z', sX8_expect_B18 (nI c) (nI s.2) 1 Z = some Z' ∧ rQ tx m (xE tx m c s) Z' ∧ onlyU Z Z' := fun q => by
    unfold sX8_expect_B18 xE
    rw [if_neg q, o1, gd_t (by decide), nm_d, gI_pI_s, if_neg (by decide), gI_pI_j _ _ _ _ (by decide), h1, show nI s.1 + 0 = nI s.1 from nI_add _ 0, nm_d]
    exact ⟨_, rfl, rQ_22 (rQ_24 h0), onlyU_2 _ _ _⟩
  by_cases q : s.2 = 0 ∧ s.1 < m
  · have ht := hm.2 _ q.2
    rw [if_pos q]
    simp only [eq_nn (show tx s.1 < 2 ^ 31 by omega) (show c < 2 ^ 31 by omega)]
    by_cases e : tx s.1 = c
    · rw [if_pos e]
      unfold sX8_expect_B18 xE
      rw [if_pos ⟨q.1, q.2, e⟩, o2, gd_t o3, nm_d, gI_pI_s, q.1, if_pos (by decide), gI_pI_j _ _ _ _ (by decide), h1, ad_n1, nm_d]
      exact ⟨_, rfl, rQ_22 (rQ_24 h0), onlyU_2 _ _ _⟩
    · rw [if_neg e]; exact bad (fun r => e r.2.2)
  · rw [if_neg q, if_neg (m1_ne (by omega))]; exact bad (fun r => q ⟨r.1, r.2.1⟩)
theorem m_inD (hm : okT tx m) (hs : okS m s) : sX8_in (if s.2 = 0 ∧ s.1 < m then nI (tx s.1) else -1) 48 57 Z = some (if s.2 = 0 ∧ s.1 < m ∧ dgt (tx s.1) = true then 1 else 0, Z) := by
  unfold sX8_in
  by_cases q : s.2 = 0 ∧ s.1 < m
  · have ht := hm.2 _ q.2
    rw [if_pos q]
    simp only [lt_nl (show tx s.1 < 2 ^ 31 by omega) (show 48 < 2 ^ 31 by decide), lt_ln (show tx s.1 < 2 ^ 31 by omega) (show 57 < 2 ^ 31 by decide)]
    unfold dgt
    by_cases c1 : tx s.1 < 48
    · rw [if_pos c1, if_neg (by simp; omega)]
    · rw [if_neg c1]
      by_cases c2 : 57 < tx s.1
      · rw [if_pos c2, if_neg (by simp; omega)]
      · rw [if_neg c2, if_pos (by simp; omega)]
  · rw [if_neg q, if_pos (by decide), if_neg (fun r => q ⟨r.1, r.2.1⟩)]
theorem m_nL0 {d k v n : Nat} (hm : okT tx m) (hs : okS m s) (h : rQ tx m s Z) (hn : 0 < n) (hd : d ≤ 2) (hk : k ≤ d) (q : k = d ∨ ¬ (s.2 = 0 ∧ s.1 < m ∧ dgt (tx s.1) = true)) : sX8_number_L32 (nI d) n (nI v) (nI k) Z = some (nI v, Z) := by
  obtain ⟨n, rfl⟩ : ∃ q, n = q + 1 := ⟨n - 1, by omega⟩
  rw [sX8_number_L32]
  simp only [le_nn (show d < 2 ^ 31 by omega) (show k < 2 ^ 31 by omega)]
  by_cases c : k = d
  · rw [if_pos (by omega)]
  · rw [if_neg (by omega), m_mark hm hs h, bnd_s, m_inD hm hs, bnd_s, if_neg (q.elim (fun e => absurd e c) id)]
    dsimp only
    rw [if_pos rfl]
theorem m_nL1 {d k v n : Nat} (hm : okT tx m) (hs : okS m s) (h : rQ tx m s Z) (hd : d ≤ 2) (hk : k < d) (hv : v < 1000) (q : s.2 = 0 ∧ s.1 < m ∧ dgt (tx s.1) = true) : ∃ Z', sX8_number_L32 (nI d) (n + 1) (nI v) (nI k) Z = sX8_number_L32 (nI d) n (nI (10 * v + (tx s.1 - 48))) (nI (k + 1)) Z' ∧ rQ tx m (s.1 + 1, 0) Z' ∧ onlyU Z Z' := by
  have h0 := h
  obtain ⟨h1, h2, h3, h4⟩ := h
  have ht := hm.2 _ q.2.1
  have := hm.1
  have hdg := q.2.2
  unfold dgt at hdg
  have h48 := (of_decide_eq_true hdg).1
  refine ⟨pI Z 0 22 (nI (s.1 + 1)), ?_, by have := rQ_22 (p := s.1 + 1) h0; rw [q.1] at this; exact this, onlyU_22 _ _⟩
  rw [sX8_number_L32]
  simp only [le_nn (show d < 2 ^ 31 by omega) (show k < 2 ^ 31 by omega)]
  rw [if_neg (by omega), m_mark hm hs h0, bnd_s, m_inD hm hs, bnd_s, if_pos q]
  dsimp only
  rw [if_neg (by decide), h1, gd_t (vin_n (by omega) (by decide)), cl_n (by omega), h4 _ q.2.1, show (10 : Int32) = nI 10 from rfl, pk_mul, nI_add, show nI (10 * v + tx s.1) - 48 = nI (10 * v + tx s.1 - 48) from pk_sub (b := 48) (by omega), nm_d, ad_n1, nm_d, ad_n1, nm_d, show 10 * v + tx s.1 - 48 = 10 * v + (tx s.1 - 48) by omega]
theorem m_nb (hm : okT tx m) (hs : okS m s) {d : Nat} (hd : 1 ≤ d ∧ d ≤ 2) (h : rQ tx m s Z) (q : ¬ (s.2 = 0 ∧ s.1 < m ∧ dgt (tx s.1) = true)) : ∃ Z', sX8_number (nI d) Z = some (nI 0, Z') ∧ rQ tx m (s.1, 1) Z' ∧ onlyU Z Z' := by
  obtain ⟨o1, o2, o3⟩ := or1 hs.2
  refine ⟨pI Z 0 24 (nI 1), ?_, rQ_24 h, onlyU_24 _ _⟩
  unfold sX8_number
  rw [m_mark hm hs h, bnd_s, m_inD hm hs, bnd_s, if_neg q]
  dsimp only
  rw [if_pos rfl, h.2.1, o1, gd_t (by decide), nm_d]
  exact m_nL0 (s := (s.1, 1)) (v := 0) (k := 0) hm ⟨hs.1, Nat.le_refl 1⟩ (rQ_24 h) (by decide) hd.2 (by omega) (Or.inr (fun r => absurd (show (1 : Nat) = 0 from r.1) (by decide)))
theorem m_n1 (hm : okT tx m) (hs : okS m s) (h : rQ tx m s Z) : ∃ Z', sX8_number 1 Z = some (nI (xD tx m s).1, Z') ∧ rQ tx m (xD tx m s).2 Z' ∧ onlyU Z Z' := by
  obtain ⟨o1, o2, o3⟩ := or1 hs.2
  unfold xD
  by_cases q : s.2 = 0 ∧ s.1 < m ∧ dgt (tx s.1) = true
  · have hq : rQ tx m s (pI Z 0 24 (nI s.2)) := rQ_24 h
    obtain ⟨Z1, a1, a2, a3⟩ := m_nL1 (n := 2999) (d := 1) (k := 0) (v := 0) hm hs hq (by decide) (by decide) (by decide) q
    refine ⟨Z1, ?_, by rw [if_pos q]; exact a2, onlyU_tr (onlyU_24 _ _) a3⟩
    unfold sX8_number
    rw [m_mark hm hs h, bnd_s, m_inD hm hs, bnd_s, if_pos q]
    dsimp only
    rw [if_neg (by decide), h.2.1, o2, gd_t o3, nm_d, if_pos q]
    refine Eq.trans (show sX8_number_L32 1 3000 0 0 _ = _ from a1) ?_
    have := m_nL0 (s := (s.1 + 1, 0)) (n := 2999) (d := 1) (k := 1) (v := 10 * 0 + (tx s.1 - 48)) hm ⟨show s.1 + 1 ≤ m by omega, Nat.zero_le 1⟩ a2 (by decide) (by decide) (by decide) (Or.inl rfl)
    rw [show 10 * 0 + (tx s.1 - 48) = tx s.1 - 48 by omega] at this ⊢
    exact this
  · rw [if_neg q]
    exact m_nb (d := 1) hm hs (by decide) h q
theorem m_n2 (hm : okT tx m) (hs : okS m s) (h : rQ tx m s Z) : ∃ Z', sX8_number 2 Z = some (nI (xN tx m s).1, Z') ∧ rQ tx m (xN tx m s).2 Z' ∧ onlyU Z Z' := by
  obtain ⟨o1, o2, o3⟩ := or1 hs.2
  by_cases q : s.2 = 0 ∧ s.1 < m ∧ dgt (tx s.1) = true
  · have e1 : xD tx m s = (tx s.1 - 48, (s.1 + 1, 0)) := if_pos q
    have hq : rQ tx m s (pI Z 0 24 (nI s.2)) := rQ_24 h
    obtain ⟨Z1, a1, a2, a3⟩ := m_nL1 (n := 2999) (d := 2) (k := 0) (v := 0) hm hs hq (by decide) (by decide) (by decide) q
    rw [show 10 * 0 + (tx s.1 - 48) = tx s.1 - 48 by omega] at a1
    have hs1 : okS m (s.1 + 1, 0) := ⟨show s.1 + 1 ≤ m by omega, Nat.zero_le 1⟩
    have hst : sX8_number 2 Z = sX8_number_L32 (nI 2) 2999 (nI (tx s.1 - 48)) (nI 1) Z1 := by
      unfold sX8_number
      rw [m_mark hm hs h, bnd_s, m_inD hm hs, bnd_s, if_pos q]
      dsimp only
      rw [if_neg (by decide), h.2.1, o2, gd_t o3, nm_d]
      exact a1
    have hdg := q.2.2
    unfold dgt at hdg
    have h57 := (of_decide_eq_true hdg).2
    rw [hst]
    unfold xN
    rw [e1]
    dsimp only
    by_cases r : s.1 + 1 < m ∧ dgt (tx (s.1 + 1)) = true
    · have e2 : xD tx m (s.1 + 1, 0) = (tx (s.1 + 1) - 48, (s.1 + 2, 0)) := if_pos ⟨rfl, r⟩
      obtain ⟨Z2, b1, b2, b3⟩ := m_nL1 (n := 2998) (d := 2) (k := 1) (v := tx s.1 - 48) hm hs1 a2 (by decide) (by decide) (by omega) ⟨rfl, r⟩
      rw [if_pos r, e2]
      refine ⟨Z2, ?_, b2, onlyU_tr (onlyU_24 _ _) (onlyU_tr a3 b3)⟩
      rw [b1, Nat.mul_comm (tx s.1 - 48) 10]
      exact m_nL0 (s := (s.1 + 1 + 1, 0)) hm ⟨show s.1 + 1 + 1 ≤ m by omega, Nat.zero_le 1⟩ b2 (by decide) (by decide) (by decide) (Or.inl rfl)
    · rw [if_neg r]
      exact ⟨Z1, m_nL0 (s := (s.1 + 1, 0)) hm hs1 a2 (by decide) (by decide) (by decide) (Or.inr (fun q => r q.2)), a2, onlyU_tr (onlyU_24 _ _) a3⟩
  · have e1 : xD tx m s = (0, (s.1, 1)) := if_neg q
    have e2 : xD tx m (s.1, 1) = (0, (s.1, 1)) := if_neg (fun r => absurd (show (1 : Nat) = 0 from r.1) (by decide))
    have e3 : xN tx m s = (0, (s.1, 1)) := by
      unfold xN
      rw [e1]
      dsimp only
      rw [e2]
      split <;> rfl
    rw [e3]
    exact m_nb (d := 2) hm hs (by decide) h q
end P
