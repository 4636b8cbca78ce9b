/-! a command -/
section P
variable {tx : Nat → Nat} {m : Nat} {s : Nat × Nat} {Z : ZZ}
def fsX (tx : Nat → Nat) (m k : Nat) (s : Nat × Nat) : Nat × (Nat × Nat) := if k = 0 then (0, s) else if k ≤ 4 then xD tx m s else if k ≤ 6 then xN tx m s else if s.1 < m ∧ tx s.1 = 32 then xN tx m (xE tx m 32 s) else (1, s)
def scC (k : Nat) : Nat := if k = 1 then 45 else if k = 2 then 47 else 62
def scX (tx : Nat → Nat) (m k : Nat) (s : Nat × Nat) : Nat × (Nat × Nat) := if k = 1 ∨ k = 2 ∨ k = 3 then xD tx m (xE tx m (scC k) s) else (0, s)
def thX (tx : Nat → Nat) (m k : Nat) (s : Nat × Nat) : Nat × (Nat × Nat) := if k = 1 then xN tx m (xE tx m 61 s) else (0, s)
theorem okS_f {k : Nat} (h : okS m s) : okS m (fsX tx m k s).2 := by
  unfold fsX
  split
  · exact h
  · split
    · exact okS_D h
    · split
      · exact okS_N h
      · split
        · exact okS_N (okS_E h)
        · exact h
theorem okS_s {k : Nat} (h : okS m s) : okS m (scX tx m k s).2 := by
  unfold scX
  split
  · exact okS_D (okS_E h)
  · exact h
theorem okS_t {k : Nat} (h : okS m s) : okS m (thX tx m k s).2 := by
  unfold thX
  split
  · exact okS_N (okS_E h)
  · exact h
/-- what moves, moves on; what is broken stays -/
def mvS (s t : Nat × Nat) : Prop := s.1 ≤ t.1 ∧ (s.2 ≠ 0 → t = (s.1, 1)) ∧ (t.2 = 0 → s.2 = 0)
theorem mvS_rf (h : s.2 ≤ 1) : mvS s s := ⟨Nat.le_refl _, fun h0 => by
  have : s.2 = 1 := by omega
  rw [← this], id⟩
theorem mvS_tr {a b c : Nat × Nat} (h1 : mvS a b) (h2 : mvS b c) : mvS a c := by
  refine ⟨Nat.le_trans h1.1 h2.1, fun h => ?_, fun h => h1.2.2 (h2.2.2 h)⟩
  have e := h1.2.1 h
  have := h2.2.1 (by rw [e]; exact Nat.one_ne_zero)
  rw [this, e]
theorem mv_E {c : Nat} : mvS s (xE tx m c s) := by
  unfold xE
  split
  · rename_i q
    exact ⟨Nat.le_succ _, fun h => absurd q.1 h, fun _ => q.1⟩
  · exact ⟨Nat.le_refl _, fun _ => rfl, fun h => absurd (show (1 : Nat) = 0 from h) (by decide)⟩
theorem mv_D : mvS s (xD tx m s).2 := by
  unfold xD
  split
  · rename_i q
    exact ⟨Nat.le_succ _, fun h => absurd q.1 h, fun _ => q.1⟩
  · exact ⟨Nat.le_refl _, fun _ => rfl, fun h => absurd (show (1 : Nat) = 0 from h) (by decide)⟩
theorem mv_N : mvS s (xN tx m s).2 := by
  unfold xN
  split
  · exact mvS_tr mv_D mv_D
  · exact mv_D
theorem mv_f {k : Nat} (h : s.2 ≤ 1) : mvS s (fsX tx m k s).2 := by
  unfold fsX
  split
  · exact mvS_rf h
  · split
    · exact mv_D
    · split
      · exact mv_N
      · split
        · exact mvS_tr mv_E mv_N
        · exact mvS_rf h
theorem mv_s {k : Nat} (h : s.2 ≤ 1) : mvS s (scX tx m k s).2 := by
  unfold scX
  split
  · exact mvS_tr mv_E mv_D
  · exact mvS_rf h
theorem mv_t {k : Nat} (h : s.2 ≤ 1) : mvS s (thX tx m k s).2 := by
  unfold thX
  split
  · exact mvS_tr mv_E mv_N
  · exact mvS_rf h
theorem c_first {k : Nat} (hm : okT tx m) (hs : okS m s) (hk : k < 8) (h : cP tx m s Z) : ∃ Z', sX4_readFirst (nI k) Z = some (nI (fsX tx m k s).1, Z') ∧ cP tx m (fsX tx m k s).2 Z' ∧ onlyT Z Z' := by
  obtain ⟨Z1, d1, d2, d3⟩ := c_dig hm hs h
  obtain ⟨Z2, n1, n2, n3⟩ := c_num hm hs h
  have e1 : sX4_readFirst 1 Z = some (nI (xD tx m s).1, Z1) := by unfold sX4_readFirst; rw [if_pos rfl, d1, bnd_s]
  match k, hk with
  | 0, _ => exact ⟨Z, by unfold sX4_readFirst; rw [if_neg (by decide), if_neg (by decide), if_neg (by decide), if_neg (by decide), if_neg (by decide), if_neg (by decide), if_neg (by decide)]; rfl, h, onlyT_rf Z⟩
  | 1, _ => exact ⟨Z1, e1, d2, d3⟩
  | 2, _ => exact ⟨Z1, by unfold sX4_readFirst; rw [if_neg (by decide), if_pos (by decide), d1, bnd_s]; rfl, d2, d3⟩
  | 3, _ => exact ⟨Z1, by unfold sX4_readFirst; rw [if_neg (by decide), if_neg (by decide), if_pos (by decide), d1, bnd_s]; rfl, d2, d3⟩
  | 4, _ => exact ⟨Z1, by unfold sX4_readFirst; rw [if_neg (by decide), if_neg (by decide), if_neg (by decide), if_pos (by decide), d1, bnd_s]; rfl, d2, d3⟩
  | 5, _ => exact ⟨Z2, by unfold sX4_readFirst; rw [if_neg (by decide), if_neg (by decide), if_neg (by decide), if_neg (by decide), if_pos (by decide), n1, bnd_s]; rfl, n2, n3⟩
  | 6, _ => exact ⟨Z2, by unfold sX4_readFirst; rw [if_neg (by decide), if_neg (by decide), if_neg (by decide), if_neg (by decide), if_neg (by decide), if_pos (by decide), n1, bnd_s]; rfl, n2, n3⟩
  | 7, _ =>
    have e7 : fsX tx m 7 s = if s.1 < m ∧ tx s.1 = 32 then xN tx m (xE tx m 32 s) else (1, s) := rfl
    have es : sX4_readFirst (nI 7) Z = if (if s.1 < m then nI (tx s.1) else -1) = 32 then bnd (sX4_expect 32 Z) (fun q => bnd (sX4_readNumber q) (fun r => some (r.1, r.2))) else some (1, Z) := by
      unfold sX4_readFirst
      rw [if_neg (by decide), if_neg (by decide), if_neg (by decide), if_neg (by decide), if_neg (by decide), if_neg (by decide), if_pos (by decide), c_peek0 hm hs h, bnd_s]
    rw [e7, es]
    by_cases q : s.1 < m
    · have := hm.2 _ q
      rw [if_pos q]
      simp only [eq_nl (show tx s.1 < 2 ^ 31 by omega) (show 32 < 2 ^ 31 by decide)]
      by_cases c : tx s.1 = 32
      · obtain ⟨Z3, x1, x2, x3⟩ := c_exp (c := 32) hm hs (by decide) h
        obtain ⟨Z4, y1, y2, y3⟩ := c_num hm (okS_E hs) x2
        rw [if_pos c, if_pos ⟨q, c⟩, show sX4_expect 32 Z = some Z3 from x1, bnd_s, y1, bnd_s]
        exact ⟨Z4, rfl, y2, onlyT_tr x3 y3⟩
      · rw [if_neg c, if_neg (fun r => c r.2)]
        exact ⟨Z, rfl, h, onlyT_rf Z⟩
    · rw [if_neg q, if_neg (by decide), if_neg (fun r => q r.1)]
      exact ⟨Z, rfl, h, onlyT_rf Z⟩
theorem c_second {k : Nat} (hm : okT tx m) (hs : okS m s) (hk : k < 8) (h : cP tx m s Z) : ∃ Z', sX4_readSecond (nI k) Z = some (nI (scX tx m k s).1, Z') ∧ cP tx m (scX tx m k s).2 Z' ∧ onlyT Z Z' := by
  have one : ∀ c, c < 65536 → ∃ Z', bnd (sX4_expect (nI c) Z) (fun q => bnd (sX4_readDigit q) (fun r => some (r.1, r.2))) = some (nI (xD tx m (xE tx m c s)).1, Z') ∧ cP tx m (xD tx m (xE tx m c s)).2 Z' ∧ onlyT Z Z' := fun c hc => by
    obtain ⟨Z3, x1, x2, x3⟩ := c_exp hm hs hc h
    obtain ⟨Z4, y1, y2, y3⟩ := c_dig hm (okS_E hs) x2
    exact ⟨Z4, by rw [x1, bnd_s, y1, bnd_s], y2, onlyT_tr x3 y3⟩
  by_cases c1 : k = 1
  · subst c1
    obtain ⟨Z', a, b⟩ := one 45 (by decide)
    exact ⟨Z', by unfold sX4_readSecond; rw [if_pos (by decide)]; exact a, b⟩
  · by_cases c2 : k = 2
    · subst c2
      obtain ⟨Z', a, b⟩ := one 47 (by decide)
      exact ⟨Z', by unfold sX4_readSecond; rw [if_neg (by decide), if_pos (by decide)]; exact a, b⟩
    · by_cases c3 : k = 3
      · subst c3
        obtain ⟨Z', a, b⟩ := one 62 (by decide)
        exact ⟨Z', by unfold sX4_readSecond; rw [if_neg (by decide), if_neg (by decide), if_pos (by decide)]; exact a, b⟩
      · have e : scX tx m k s = (0, s) := if_neg (by omega)
        rw [e]
        refine ⟨Z, ?_, h, onlyT_rf Z⟩
        unfold sX4_readSecond
        simp only [eq_nl (show k < 2 ^ 31 by omega) (show 1 < 2 ^ 31 by decide), eq_nl (show k < 2 ^ 31 by omega) (show 2 < 2 ^ 31 by decide), eq_nl (show k < 2 ^ 31 by omega) (show 3 < 2 ^ 31 by decide)]
        rw [if_neg c1, if_neg c2, if_neg c3]; rfl
/-- what reading command j touches -/
def onlyV (j : Nat) (Z Z' : ZZ) : Prop := (∀ k i, (k = 7 → i ≠ 7 ∧ i ≠ 8) → ((k = 9 ∨ k = 10 ∨ k = 11 ∨ k = 12) → i ≠ j) → gI Z' k i = gI Z k i) ∧ ∀ k, gL Z' k = gL Z k
theorem onlyV_tr {j : Nat} {A B C : ZZ} (h1 : onlyV j A B) (h2 : onlyV j B C) : onlyV j A C := ⟨fun k i a b => (h2.1 k i a b).trans (h1.1 k i a b), fun k => (h2.2 k).trans (h1.2 k)⟩
theorem onlyV_T {j : Nat} {A B : ZZ} (h : onlyT A B) : onlyV j A B := ⟨fun k i a _ => h.1 k i a, h.2⟩
theorem onlyV_p {j q : Nat} {Z : ZZ} {x : Int32} (hq : q = 9 ∨ q = 10 ∨ q = 11 ∨ q = 12) : onlyV j Z (pI Z q j x) := ⟨fun k i _ b => gI_pI_o _ _ (fun e => b (by omega)), fun _ => rfl⟩
theorem cP_p {q j : Nat} {x : Int32} (h : cP tx m s Z) (hq : 9 ≤ q) : cP tx m s (pI Z q j x) := by
  obtain ⟨h1, h2, h3, h4⟩ := h
  exact ⟨by rw [gI_pI_k _ _ _ _ (by omega)]; exact h1, by rw [gI_pI_k _ _ _ _ (by omega)]; exact h2, by rw [gI_pI_k _ _ _ _ (by omega)]; exact h3, fun j hj => by rw [gI_pI_k _ _ _ _ (by omega)]; exact h4 j hj⟩
theorem wordOf_n {k : Nat} (hk : k < 8) : sX4_wordOf (nI k) = k := (by decide +kernel : ∀ k, k < 8 → sX4_wordOf (nI k) = k) k hk
/-- the class reads a command of kind k, from behind the look at the first letters -/
theorem c_cmd_k {k j : Nat} (hm : okT tx m) (hs : okS m s) (hk : k < 8) (hj : j < 13) (h : cP tx m s Z) (hka : sX4_kindAhead Z = some (nI k, Z)) :
    ∃ Z', sX4_readCommand (nI j) Z = some Z' ∧ cP tx m (thX tx m k (scX tx m k (fsX tx m k (xW tx m (wL.getD k []) s)).2).2).2 Z' ∧ onlyV j Z Z' ∧ gI Z' 9 j = nI k ∧ gI Z' 10 j = nI (fsX tx m k (xW tx m (wL.getD k []) s)).1 ∧ gI Z' 11 j = nI (scX tx m k (fsX tx m k (xW tx m (wL.getD k []) s)).2).1 ∧ gI Z' 12 j = nI (thX tx m k (scX tx m k (fsX tx m k (xW tx m (wL.getD k []) s)).2).2).1 := by
  obtain ⟨Z1, a1, a2, a3⟩ := c_word (w := k) hm (by omega) hs h
  have hs1 := okS_W (tx := tx) (wL.getD k []) hs
  generalize xW tx m (wL.getD k []) s = s1 at a2 hs1 ⊢
  obtain ⟨Z2, b1, b2, b3⟩ := c_first hm hs1 hk (cP_p (q := 9) (j := j) (x := nI k) a2 (by decide))
  have hs2 := okS_f (tx := tx) (k := k) hs1
  obtain ⟨Z3, d1, d2, d3⟩ := c_second hm hs2 hk (cP_p (q := 10) (j := j) (x := nI (fsX tx m k s1).1) b2 (by decide))
  have hs3 := okS_s (tx := tx) (k := k) hs2
  have hP4 := cP_p (q := 12) (j := j) (x := 0) (cP_p (q := 11) (j := j) (x := nI (scX tx m k (fsX tx m k s1).2).1) d2 (by decide)) (by decide)
  have base : sX4_readCommand (nI j) Z = if nI k = 1 then bnd (sX4_expect 61 (pI (pI Z3 11 j (nI (scX tx m k (fsX tx m k s1).2).1)) 12 j 0)) (fun q_18 => bnd (sX4_readNumber q_18) (fun q_19 => gd (vin (nI j) 13 = true) (nm (pI q_19.2 12 j q_19.1) (fun Z_21 => some Z_21)))) else some (pI (pI Z3 11 j (nI (scX tx m k (fsX tx m k s1).2).1)) 12 j 0) := by
    unfold sX4_readCommand
    rw [hka, bnd_s, nm_d]
    dsimp only
    rw [wordOf_n hk, a1, bnd_s, if_neg (nI_pos (by omega)), if_pos (ltl hj (by decide)), gd_t (vin_n hj (by decide)), cl_n (by omega), nm_d, b1, bnd_s, gd_t (vin_n hj (by decide)), nm_d]
    dsimp only
    rw [d1, bnd_s, gd_t (vin_n hj (by decide)), nm_d, gd_t (vin_n hj (by decide)), nm_d]
  have f3 : ∀ i, gI Z3 9 i = if i = j then nI k else gI Z 9 i := fun i => by
    rw [d3.1 _ _ (fun q => absurd q (by decide)), gI_pI_k _ _ _ _ (by decide), b3.1 _ _ (fun q => absurd q (by decide))]
    by_cases c : i = j
    · rw [c, gI_pI_s, if_pos rfl]
    · rw [gI_pI_j _ _ _ _ c, if_neg c]; exact a3.1 _ _ (fun q => absurd q (by decide))
  have f4 : gI Z3 10 j = nI (fsX tx m k s1).1 := by
    rw [d3.1 _ _ (fun q => absurd q (by decide)), gI_pI_s]
  have v3 : onlyV j Z Z3 := onlyV_tr (onlyV_T a3) (onlyV_tr (onlyV_p (by decide)) (onlyV_tr (onlyV_T b3) (onlyV_tr (onlyV_p (by decide)) (onlyV_T d3))))
  have v4 : onlyV j Z (pI (pI Z3 11 j (nI (scX tx m k (fsX tx m k s1).2).1)) 12 j 0) := onlyV_tr v3 (onlyV_tr (onlyV_p (by decide)) (onlyV_p (by decide)))
  by_cases c : k = 1
  · obtain ⟨Z5, x1, x2, x3⟩ := c_exp (c := 61) hm hs3 (by decide) hP4
    obtain ⟨Z6, y1, y2, y3⟩ := c_num hm (okS_E hs3) x2
    have e : thX tx m k (scX tx m k (fsX tx m k s1).2).2 = xN tx m (xE tx m 61 (scX tx m k (fsX tx m k s1).2).2) := if_pos c
    rw [e]
    have back : ∀ q i, q ≠ 7 → gI Z6 q i = gI (pI (pI Z3 11 j (nI (scX tx m k (fsX tx m k s1).2).1)) 12 j 0) q i := fun q i hq => by
      rw [y3.1 _ _ (fun r => absurd r hq), x3.1 _ _ (fun r => absurd r hq)]
    refine ⟨pI Z6 12 j (nI (xN tx m (xE tx m 61 (scX tx m k (fsX tx m k s1).2).2)).1), ?_, cP_p y2 (by decide), onlyV_tr v4 (onlyV_tr (onlyV_T x3) (onlyV_tr (onlyV_T y3) (onlyV_p (by decide)))), ?_, ?_, ?_, gI_pI_s _ _ _ _⟩
    · rw [base, if_pos (by rw [c]; rfl), show sX4_expect 61 _ = some Z5 from x1, bnd_s, y1, bnd_s, gd_t (vin_n hj (by decide)), nm_d]
    · rw [gI_pI_k _ _ _ _ (by decide), back _ _ (by decide), gI_pI_k _ _ _ _ (by decide), gI_pI_k _ _ _ _ (by decide), f3, if_pos rfl]
    · rw [gI_pI_k _ _ _ _ (by decide), back _ _ (by decide), gI_pI_k _ _ _ _ (by decide), gI_pI_k _ _ _ _ (by decide), f4]
    · rw [gI_pI_k _ _ _ _ (by decide), back _ _ (by decide), gI_pI_k _ _ _ _ (by decide), gI_pI_s]
  · have e : thX tx m k (scX tx m k (fsX tx m k s1).2).2 = (0, (scX tx m k (fsX tx m k s1).2).2) := if_neg c
    rw [e]
    refine ⟨_, by rw [base, if_neg (by rw [eq_nl (by omega) (by decide)]; exact c)], hP4, v4, ?_, ?_, ?_, gI_pI_s _ _ _ _⟩
    · rw [gI_pI_k _ _ _ _ (by decide), gI_pI_k _ _ _ _ (by decide), f3, if_pos rfl]
    · rw [gI_pI_k _ _ _ _ (by decide), gI_pI_k _ _ _ _ (by decide), f4]
    · rw [gI_pI_k _ _ _ _ (by decide), gI_pI_s]
/-- no word begins so -/
theorem c_cmd_8 {j p b : Nat} (hm : okT tx m) (hp : p ≤ m) (hj : j < 13) (h : cP tx m (p, b) Z) (hka : sX4_kindAhead Z = some (-1, pI Z 7 8 1)) : ∃ Z', sX4_readCommand (nI j) Z = some Z' ∧ cP tx m (p, 1) Z' ∧ onlyV j Z Z' := by
  have h1 : cP tx m (p, 1) (pI Z 7 8 1) := cP_8 h
  obtain ⟨Z1, a1, a2, a3⟩ := c_word (w := 8) hm (by decide) ⟨hp, Nat.le_refl 1⟩ h1
  have hr1 : ∀ Z : ZZ, sX4_readFirst (-1) Z = some (0, Z) := fun Z => by
    unfold sX4_readFirst
    rw [if_neg (by decide), if_neg (by decide), if_neg (by decide), if_neg (by decide), if_neg (by decide), if_neg (by decide), if_neg (by decide)]
  have hr2 : ∀ Z : ZZ, sX4_readSecond (-1) Z = some (0, Z) := fun Z => by
    unfold sX4_readSecond
    rw [if_neg (by decide), if_neg (by decide), if_neg (by decide)]
  refine ⟨pI (pI (pI (pI Z1 9 j (-1)) 10 j 0) 11 j 0) 12 j 0, ?_, cP_p (cP_p (cP_p (cP_p a2 (by decide)) (by decide)) (by decide)) (by decide), onlyV_tr (onlyV_T (onlyT_8 _ _)) (onlyV_tr (onlyV_T a3) (onlyV_tr (onlyV_p (by decide)) (onlyV_tr (onlyV_p (by decide)) (onlyV_tr (onlyV_p (by decide)) (onlyV_p (by decide))))))⟩
  unfold sX4_readCommand
  rw [hka, bnd_s, nm_d]
  dsimp only
  rw [show sX4_wordOf (-1) = 8 by decide, a1, bnd_s, if_neg (nI_pos (by omega)), if_pos (ltl hj (by decide)), gd_t (vin_n hj (by decide)), cl_n (by omega), nm_d, hr1, bnd_s, gd_t (vin_n hj (by decide)), nm_d, hr2, bnd_s, gd_t (vin_n hj (by decide)), nm_d, gd_t (vin_n hj (by decide)), nm_d, if_neg (by decide)]
/-- a broken state is kept -/
theorem c_cmd_b {j p : Nat} (hm : okT tx m) (hp : p ≤ m) (hj : j < 13) (h : cP tx m (p, 1) Z) : ∃ Z', sX4_readCommand (nI j) Z = some Z' ∧ cP tx m (p, 1) Z' ∧ onlyV j Z Z' := by
  have hk := c_kind hm hp (Nat.le_refl 1) h
  by_cases c : kA tx m p = 8
  · rw [if_pos c] at hk
    exact c_cmd_8 hm hp hj h hk
  · rw [if_neg c] at hk
    have hk8 : kA tx m p < 8 := by
      have : kA tx m p ≤ 8 := by
        unfold kA
        repeat' split
        all_goals omega
      omega
    obtain ⟨Z', a1, a2, a3, -⟩ := c_cmd_k hm ⟨hp, Nat.le_refl 1⟩ hk8 hj h hk
    refine ⟨Z', a1, ?_, a3⟩
    rw [xW_b] at a2
    have e1 := (mv_f (tx := tx) (m := m) (k := kA tx m p) (s := (p, 1)) (Nat.le_refl 1)).2.1 Nat.one_ne_zero
    rw [e1] at a2
    have e2 := (mv_s (tx := tx) (m := m) (k := kA tx m p) (s := (p, 1)) (Nat.le_refl 1)).2.1 Nat.one_ne_zero
    rw [e2] at a2
    have e3 := (mv_t (tx := tx) (m := m) (k := kA tx m p) (s := (p, 1)) (Nat.le_refl 1)).2.1 Nat.one_ne_zero
    rw [e3] at a2
    exact a2
theorem kA_le {p : Nat} : kA tx m p ≤ 8 := by
  unfold kA
  repeat' split
  all_goals omega
/-! the reference reads a command -/
theorem m_123 {c k v w t : Nat} (hs : okS m s) (hc : c < 32) (h : rQ tx m s Z) (h23 : gI Z 0 23 = nI c) : ∃ Z', sX8_command_B123 (nI k) (nI v) (nI w) (nI t) Z = some Z' ∧ rQ tx m s Z' ∧ (s.2 ≠ 0 → Z' = Z) ∧ (s.2 = 0 → gI Z' 0 23 = nI (c + 1) ∧ gI Z' 11 c = nI k ∧ gI Z' 12 (3 * c) = nI v ∧ gI Z' 12 (3 * c + 1) = nI w ∧ gI Z' 12 (3 * c + 2) = nI t) ∧ (∀ q i, (q = 0 → i ≠ 23) → (q = 11 → i ≠ c) → (q = 12 → i < 3 * c ∨ 3 * c + 2 < i) → gI Z' q i = gI Z q i) ∧ ∀ q, gL Z' q = gL Z q := by
  obtain ⟨h1, h2, h3, h4⟩ := h
  have := hs.2
  unfold sX8_command_B123
  rw [h2]
  by_cases b : s.2 = 0
  · have v0 : (3 : Int32) * nI c = nI (3 * c) := pk_mul 3 c
    have v1 : nI (3 * c) + 1 = nI (3 * c + 1) := nI_add _ 1
    have v2 : nI (3 * c) + 2 = nI (3 * c + 2) := nI_add _ 2
    rw [b, if_pos (by decide), h23, gd_t (vin_n (by omega) (by decide)), cl_n (by omega), nm_d, gI_pI_k _ _ _ _ (by decide), h23, v0, gd_t (vin_n (by omega) (by decide)), cl_n (by omega), nm_d, gI_pI_k _ _ _ _ (by decide), gI_pI_k _ _ _ _ (by decide), h23, v0, v1, gd_t (vin_n (by omega) (by decide)), cl_n (by omega), nm_d, gI_pI_k _ _ _ _ (by decide), gI_pI_k _ _ _ _ (by decide), gI_pI_k _ _ _ _ (by decide), h23, v0, v2, gd_t (vin_n (by omega) (by decide)), cl_n (by omega), nm_d, gI_pI_k _ _ _ _ (by decide), gI_pI_k _ _ _ _ (by decide), gI_pI_k _ _ _ _ (by decide), gI_pI_k _ _ _ _ (by decide), h23, ad_n1, nm_d]
    have fr : ∀ q i, (q = 0 → i ≠ 23) → (q = 11 → i ≠ c) → (q = 12 → i < 3 * c ∨ 3 * c + 2 < i) → gI (pI (pI (pI (pI (pI Z 11 c (nI k)) 12 (3 * c) (nI v)) 12 (3 * c + 1) (nI w)) 12 (3 * c + 2) (nI t)) 0 23 (nI (c + 1))) q i = gI Z q i := fun q i q0 q11 q12 => by
      rw [gI_pI_o _ _ q0, gI_pI_o _ _ (fun e => by have := q12 e; omega), gI_pI_o _ _ (fun e => by have := q12 e; omega), gI_pI_o _ _ (fun e => by have := q12 e; omega), gI_pI_o _ _ q11]
    refine ⟨_, rfl, ⟨?_, ?_, ?_, fun j hj => ?_⟩, fun q => absurd rfl q, fun _ => ⟨gI_pI_s _ _ _ _, ?_, ?_, ?_, ?_⟩, fr, fun _ => rfl⟩
    · rw [fr _ _ (fun _ => by decide) (fun q => absurd q (by decide)) (fun q => absurd q (by decide))]; exact h1
    · rw [fr _ _ (fun _ => by decide) (fun q => absurd q (by decide)) (fun q => absurd q (by decide))]; exact h2
    · rw [fr _ _ (fun _ => by decide) (fun q => absurd q (by decide)) (fun q => absurd q (by decide))]; exact h3
    · rw [fr _ _ (fun q => absurd q (by decide)) (fun q => absurd q (by decide)) (fun q => absurd q (by decide))]; exact h4 j hj
    · rw [gI_pI_k _ _ _ _ (by decide), gI_pI_k _ _ _ _ (by decide), gI_pI_k _ _ _ _ (by decide), gI_pI_k _ _ _ _ (by decide), gI_pI_s]
    · rw [gI_pI_k _ _ _ _ (by decide), gI_pI_j _ _ _ _ (by omega), gI_pI_j _ _ _ _ (by omega), gI_pI_s]
    · rw [gI_pI_k _ _ _ _ (by decide), gI_pI_j _ _ _ _ (by omega), gI_pI_s]
    · rw [gI_pI_k _ _ _ _ (by decide), gI_pI_s]
  · rw [if_neg (nI_ne0 (by omega) (by omega))]
    exact ⟨Z, rfl, ⟨h1, h2, h3, h4⟩, fun _ => rfl, fun q => absurd q b, fun _ _ _ _ _ => rfl, fun _ => rfl⟩
/-- from the second number on -/
theorem m_64 {k v : Nat} (hm : okT tx m) (hs : okS m s) (hk : k < 8) (h : rQ tx m s Z) : ∃ Z', sX8_command_B64 (nI k) (nI v) 0 0 Z = sX8_command_B123 (nI k) (nI v) (nI (scX tx m k s).1) (nI (thX tx m k (scX tx m k s).2).1) Z' ∧ rQ tx m (thX tx m k (scX tx m k s).2).2 Z' ∧ onlyU Z Z' := by
  have h96 : ∀ c, c < 65536 → ∃ Z', sX8_command_B96 (nI k) (nI v) 0 (nI c) Z = sX8_command_B105 (nI k) (nI v) (nI (xD tx m (xE tx m c s)).1) 0 Z' ∧ rQ tx m (xD tx m (xE tx m c s)).2 Z' ∧ onlyU Z Z' := fun c hc => by
    obtain ⟨Z1, a1, a2, a3⟩ := m_exp hm hs hc h
    obtain ⟨Z2, b1, b2, b3⟩ := m_n1 hm (okS_E hs) a2
    exact ⟨Z2, by unfold sX8_command_B96; rw [a1, bnd_s, b1, bnd_s, nm_d], b2, onlyU_tr a3 b3⟩
  have h105 : ∀ (s2 : Nat × Nat) (Z2 : ZZ) (w : Nat), okS m s2 → rQ tx m s2 Z2 → ∃ Z', sX8_command_B105 (nI k) (nI v) (nI w) 0 Z2 = sX8_command_B123 (nI k) (nI v) (nI w) (nI (thX tx m k s2).1) Z' ∧ rQ tx m (thX tx m k s2).2 Z' ∧ onlyU Z2 Z' := fun s2 Z2 w hs2 h2 => by
    unfold sX8_command_B105 thX
    simp only [eq_nl (show k < 2 ^ 31 by omega) (show 1 < 2 ^ 31 by decide)]
    by_cases c : k = 1
    · obtain ⟨Z3, a1, a2, a3⟩ := m_exp (c := 61) hm hs2 (by decide) h2
      obtain ⟨Z4, b1, b2, b3⟩ := m_n2 hm (okS_E hs2) a2
      rw [if_pos c, if_pos c, show sX8_expect 61 Z2 = some Z3 from a1, bnd_s, b1, bnd_s, nm_d]
      exact ⟨Z4, rfl, b2, onlyU_tr a3 b3⟩
    · rw [if_neg c, if_neg c]
      exact ⟨Z2, rfl, h2, onlyU_rf Z2⟩
  by_cases c : k = 1 ∨ k = 2 ∨ k = 3
  · have hsc : scC k < 65536 := by unfold scC; split <;> (try split) <;> decide
    obtain ⟨Z1, a1, a2, a3⟩ := h96 (scC k) hsc
    have e : scX tx m k s = xD tx m (xE tx m (scC k) s) := if_pos c
    rw [e]
    obtain ⟨Z2, b1, b2, b3⟩ := h105 _ Z1 (xD tx m (xE tx m (scC k) s)).1 (okS_D (okS_E hs)) a2
    refine ⟨Z2, ?_, b2, onlyU_tr a3 b3⟩
    rw [← b1, ← a1]
    unfold sX8_command_B64
    rw [if_neg (nI_nle (by omega) (by omega)), if_neg (lge (show k < 4 by omega) (by decide))]
    rcases c with e | e | e <;> subst e
    · rw [if_pos (by decide)]; rfl
    · rw [if_neg (by decide), if_pos (by decide)]; rfl
    · rw [if_neg (by decide), if_neg (by decide)]; rfl
  · have e : scX tx m k s = (0, s) := if_neg c
    rw [e]
    obtain ⟨Z2, b1, b2, b3⟩ := h105 s Z 0 hs h
    refine ⟨Z2, ?_, b2, b3⟩
    rw [← b1]
    unfold sX8_command_B64
    by_cases c0 : k = 0
    · rw [if_pos (by rw [c0]; decide)]; rfl
    · rw [if_neg (nI_nle (by omega) (by omega)), if_pos (lle (show 4 ≤ k by omega) (by omega))]; rfl
end P
