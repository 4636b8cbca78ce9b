/-! class and reference read a command, and the whole text -/
section P
variable {tx : Nat → Nat} {m : Nat} {s : Nat × Nat} {Z : ZZ}
/-- what a command of the reference touches -/
def onlyW (c : Nat) (Z Z' : ZZ) : Prop := (∀ q i, (q = 0 → i ≠ 22 ∧ i ≠ 23 ∧ i ≠ 24) → (q = 11 → i ≠ c) → (q = 12 → i < 3 * c ∨ 3 * c + 2 < i) → gI Z' q i = gI Z q i) ∧ ∀ q, gL Z' q = gL Z q
theorem onlyW_tr {c : Nat} {A B C : ZZ} (h1 : onlyW c A B) (h2 : onlyW c B C) : onlyW c A C := ⟨fun q i a b d => (h2.1 q i a b d).trans (h1.1 q i a b d), fun q => (h2.2 q).trans (h1.2 q)⟩
theorem onlyW_U {c : Nat} {A B : ZZ} (h : onlyU A B) : onlyW c A B := ⟨fun q i a _ _ => h.1 q i (fun e => ⟨(a e).1, (a e).2.2⟩), h.2⟩
/-- the state behind a command of kind k -/
def enX (tx : Nat → Nat) (m k p : Nat) : Nat × Nat := (thX tx m k (scX tx m k (fsX tx m k (xW tx m (wL.getD k []) (p, 0))).2).2).2
theorem m_cmd_8 {p c : Nat} (hm : okT tx m) (hp : p ≤ m) (hc : c < 32) (h : rQ tx m (p, 0) Z) (h23 : gI Z 0 23 = nI c) (hk : kA tx m p = 8) : ∃ Z', sX8_command Z = some Z' ∧ rQ tx m (p, 1) Z' ∧ onlyW c Z Z' := by
  have hno := kA_no hk
  have hw := m_word_no (w := 0) hm hp h (fun j hj => by rw [hno j hj]; exact ⟨by have := (sL_len j hj).1; omega, Nat.le_refl 0⟩) (Or.inl rfl)
  have h1 : rQ tx m (p, 1) (pI (pI Z 0 22 (nI (p + 0))) 0 24 1) := rQ_24 (b := 1) (rQ_22 h)
  obtain ⟨Z1, a1, a2, a3⟩ := m_64 (k := 0) (v := 1) hm ⟨hp, Nat.le_refl 1⟩ (by decide) h1
  have a2' : rQ tx m (p, 1) Z1 := a2
  obtain ⟨Z2, b1, b2, b3, -⟩ := m_123 (c := c) (k := 0) (v := 1) (w := (scX tx m 0 (p, 1)).1) (t := (thX tx m 0 (scX tx m 0 (p, 1)).2).1) ⟨hp, Nat.le_refl 1⟩ hc a2' (by
    rw [a3.1 _ _ (fun _ => by decide), gI_pI_j _ _ _ _ (by decide), gI_pI_j _ _ _ _ (by decide)]; exact h23)
  refine ⟨Z2, ?_, b2, ?_⟩
  · unfold sX8_command
    rw [hw, bnd_s, nm_d]
    dsimp only
    rw [if_pos (by decide)]
    unfold sX8_command_B35 sX8_command_B36
    rw [if_pos rfl]
    exact a1.trans b1
  · rw [b3 Nat.one_ne_zero]
    exact onlyW_U (onlyU_tr (onlyU_tr (onlyU_22 _ _) (onlyU_24 _ _)) a3)
theorem m_cmd_k {p c k : Nat} (hm : okT tx m) (hp : p ≤ m) (hc : c < 32) (h : rQ tx m (p, 0) Z) (h23 : gI Z 0 23 = nI c) (hk : kA tx m p = k) (hk8 : k < 8) :
    ∃ Z', sX8_command Z = some Z' ∧ rQ tx m (enX tx m k p) Z' ∧ onlyW c Z Z' ∧ ((enX tx m k p).2 ≠ 0 → gI Z' 0 23 = nI c) ∧ ((enX tx m k p).2 = 0 → gI Z' 0 23 = nI (c + 1) ∧ gI Z' 11 c = nI k ∧ gI Z' 12 (3 * c) = nI (if k = 0 then 1 else (fsX tx m k (xW tx m (wL.getD k []) (p, 0))).1) ∧ gI Z' 12 (3 * c + 1) = nI (scX tx m k (fsX tx m k (xW tx m (wL.getD k []) (p, 0))).2).1 ∧ gI Z' 12 (3 * c + 2) = nI (thX tx m k (scX tx m k (fsX tx m k (xW tx m (wL.getD k []) (p, 0))).2).2).1) := by
  have hoth := kA_of hk hk8
  have hs0 : okS m (p, 0) := ⟨hp, Nat.zero_le 1⟩
  obtain ⟨l3, l6, -⟩ := sL_len k hk8
  obtain ⟨s1, s2, s3⟩ := mt_spec (tx := tx) (m := m) (sL.getD k []) p
  -- from the second number on
  have tail : ∀ (s' : Nat × Nat) (v : Nat) (Z1 : ZZ), okS m s' → rQ tx m s' Z1 → onlyU Z Z1 → ∃ Z', sX8_command_B64 (nI k) (nI v) 0 0 Z1 = some Z' ∧ rQ tx m (thX tx m k (scX tx m k s').2).2 Z' ∧ onlyW c Z Z' ∧ ((thX tx m k (scX tx m k s').2).2.2 ≠ 0 → gI Z' 0 23 = nI c) ∧ ((thX tx m k (scX tx m k s').2).2.2 = 0 → gI Z' 0 23 = nI (c + 1) ∧ gI Z' 11 c = nI k ∧ gI Z' 12 (3 * c) = nI v ∧ gI Z' 12 (3 * c + 1) = nI (scX tx m k s').1 ∧ gI Z' 12 (3 * c + 2) = nI (thX tx m k (scX tx m k s').2).1) := fun s' v Z1 hs' h1 ho => by
    obtain ⟨Z2, a1, a2, a3⟩ := m_64 (v := v) hm hs' hk8 h1
    have e23 : gI Z2 0 23 = nI c := by rw [a3.1 _ _ (fun _ => by decide), ho.1 _ _ (fun _ => by decide)]; exact h23
    obtain ⟨Z3, b1, b2, b3, b4, b5, b6⟩ := m_123 (c := c) (k := k) (v := v) (w := (scX tx m k s').1) (t := (thX tx m k (scX tx m k s').2).1) (okS_t (okS_s hs')) hc a2 e23
    refine ⟨Z3, a1.trans b1, b2, onlyW_tr (onlyW_U (onlyU_tr ho a3)) ⟨fun q i x y z => b5 q i (fun e => (x e).2.1) y z, b6⟩, fun q => ?_, b4⟩
    rw [b3 q]; exact e23
  have ew : xW tx m (wL.getD k []) (p, 0) = xW tx m (if 1 ≤ k ∧ k ≤ 6 then [32] else []) (p + mt tx m (sL.getD k []) p, if mt tx m (sL.getD k []) p = (sL.getD k []).length then 0 else 1) := by
    rw [wL_sL k hk8, xW_app, xW_mt]
  by_cases full : mt tx m (sL.getD k []) p = (sL.getD k []).length
  · have hw := m_word_ok hm hp hk8 h full (fun j hj => (hoth j (by omega) (by omega)).2)
    rw [if_pos full, full] at ew
    have hpl : p + (sL.getD k []).length ≤ m := by
      have := s2 ((sL.getD k []).length - 1) (by omega)
      omega
    have h1 : rQ tx m (p + (sL.getD k []).length, 0) (pI Z 0 22 (nI (p + (sL.getD k []).length))) := rQ_22 h
    have o1 : onlyU Z (pI Z 0 22 (nI (p + (sL.getD k []).length))) := onlyU_22 _ _
    have hsl : okS m (p + (sL.getD k []).length, 0) := ⟨hpl, Nat.zero_le 1⟩
    unfold enX
    rw [ew]
    generalize p + (sL.getD k []).length = P at hw h1 o1 hsl hpl ⊢
    generalize pI Z 0 22 (nI P) = Z1 at hw h1 o1 ⊢
    have h36 : ∀ d, (d = 1 ∨ d = 2) → (if k ≤ 4 then 1 else 2) = d → ∃ Z2, sX8_command_B31 (nI k) 1 0 0 Z1 = sX8_command_B64 (nI k) (nI (if d = 1 then xD tx m (xE tx m 32 (P, 0)) else xN tx m (xE tx m 32 (P, 0))).1) 0 0 Z2 ∧ rQ tx m (if d = 1 then xD tx m (xE tx m 32 (P, 0)) else xN tx m (xE tx m 32 (P, 0))).2 Z2 ∧ onlyU Z1 Z2 := fun d hd hdk => by
      obtain ⟨Z3, x1, x2, x3⟩ := m_exp (c := 32) hm hsl (by decide) h1
      unfold sX8_command_B31 sX8_command_B36
      rw [if_neg (by decide), show sX8_expect 32 Z1 = some Z3 from x1, bnd_s]
      simp only [le_nl (show k < 2 ^ 31 by omega) (show 4 < 2 ^ 31 by decide)]
      by_cases k4 : k ≤ 4
      · rw [if_pos k4] at hdk
        subst hdk
        obtain ⟨Z4, y1, y2, y3⟩ := m_n1 hm (okS_E hsl) x2
        unfold sX8_command_B60
        rw [if_pos k4, y1, bnd_s, nm_d, if_pos rfl]
        exact ⟨Z4, rfl, y2, onlyU_tr x3 y3⟩
      · rw [if_neg k4] at hdk
        subst hdk
        obtain ⟨Z4, y1, y2, y3⟩ := m_n2 hm (okS_E hsl) x2
        unfold sX8_command_B60
        rw [if_neg k4, y1, bnd_s, nm_d, if_neg (by decide)]
        exact ⟨Z4, rfl, y2, onlyU_tr x3 y3⟩
    by_cases k0 : k = 0
    · subst k0
      have ef : fsX tx m 0 (xW tx m (if 1 ≤ 0 ∧ 0 ≤ 6 then [32] else []) (P, 0)) = (0, (P, 0)) := rfl
      rw [ef]
      obtain ⟨Z', t1, t2⟩ := tail (P, 0) 1 Z1 hsl h1 o1
      refine ⟨Z', ?_, t2⟩
      unfold sX8_command
      rw [hw, bnd_s, nm_d]
      dsimp only
      rw [if_pos (by decide)]
      exact t1
    · rw [if_neg k0]
      by_cases k7 : k < 7
      · have ei : (if 1 ≤ k ∧ k ≤ 6 then [32] else []) = [32] := if_pos (by omega)
        rw [ei]
        have exw : xW tx m [32] (P, 0) = xE tx m 32 (P, 0) := rfl
        rw [exw]
        obtain ⟨Z2, c1, c2, c3⟩ := h36 (if k ≤ 4 then 1 else 2) (by split <;> decide) rfl
        have ef : (if (if k ≤ 4 then 1 else 2) = 1 then xD tx m (xE tx m 32 (P, 0)) else xN tx m (xE tx m 32 (P, 0))) = fsX tx m k (xE tx m 32 (P, 0)) := by
          unfold fsX
          rw [if_neg k0]
          by_cases k4 : k ≤ 4
          · rw [if_pos k4, if_pos rfl, if_pos k4]
          · rw [if_neg k4, if_neg (by decide), if_neg k4, if_pos (by omega)]
        rw [ef] at c1 c2
        obtain ⟨Z', t1, t2⟩ := tail _ (fsX tx m k (xE tx m 32 (P, 0))).1 Z2 (okS_f (okS_E hsl)) c2 (onlyU_tr o1 c3)
        refine ⟨Z', ?_, t2⟩
        unfold sX8_command
        rw [hw, bnd_s, nm_d]
        dsimp only
        rw [if_neg (nI_nle (by omega) (by omega)), if_pos (ltl k7 (by decide))]
        exact c1.trans t1
      · have e7 : k = 7 := by omega
        have ei : (if 1 ≤ k ∧ k ≤ 6 then [32] else []) = [] := if_neg (by omega)
        rw [ei]
        have exw : xW tx m [] (P, 0) = (P, 0) := rfl
        rw [exw]
        have ef : fsX tx m k (P, 0) = if P < m ∧ tx P = 32 then xN tx m (xE tx m 32 (P, 0)) else (1, (P, 0)) := by
          unfold fsX
          rw [if_neg k0, if_neg (by omega), if_neg (by omega)]
        rw [ef]
        have hmk := m_mark hm hsl h1
        have est : sX8_command Z = if (if (P, 0).2 = 0 ∧ (P, 0).1 < m then nI (tx (P, 0).1) else -1) = 32 then sX8_command_B31 (nI k) 1 0 0 Z1 else sX8_command_B35 (nI k) 1 0 0 Z1 := by
          unfold sX8_command
          rw [hw, bnd_s, nm_d]
          dsimp only
          rw [if_neg (nI_nle (by omega) (by omega)), if_neg (lle (show 7 ≤ k by omega) (by omega) |> fun q => by rw [e7]; decide), hmk, bnd_s]
        rw [est]
        by_cases q : P < m ∧ tx P = 32
        · obtain ⟨Z2, c1, c2, c3⟩ := h36 2 (Or.inr rfl) (if_neg (by omega))
          rw [if_neg (by decide)] at c1 c2
          obtain ⟨Z', t1, t2⟩ := tail _ (xN tx m (xE tx m 32 (P, 0))).1 Z2 (okS_N (okS_E hsl)) c2 (onlyU_tr o1 c3)
          rw [if_pos q]
          refine ⟨Z', ?_, t2⟩
          rw [if_pos (show (P, 0).2 = 0 ∧ (P, 0).1 < m from ⟨rfl, q.1⟩), if_pos (show nI (tx P) = 32 by rw [q.2]; rfl)]
          exact c1.trans t1
        · obtain ⟨Z', t1, t2⟩ := tail (P, 0) 1 Z1 hsl h1 o1
          rw [if_neg q]
          refine ⟨Z', ?_, t2⟩
          by_cases r : P < m
          · have := hm.2 _ r
            rw [if_pos (show (P, 0).2 = 0 ∧ (P, 0).1 < m from ⟨rfl, r⟩), if_neg (show ¬ nI (tx P) = 32 by rw [eq_nl (by omega) (by decide)]; exact fun e => q ⟨r, e⟩)]
            exact t1
          · rw [if_neg (show ¬ ((P, 0).2 = 0 ∧ (P, 0).1 < m) from fun e => r e.2), if_neg (by decide)]
            exact t1
  · have hlt : mt tx m (sL.getD k []) p < (sL.getD k []).length := by omega
    have hw := m_word_no (w := mt tx m (sL.getD k []) p) hm hp h (fun j hj => by
      by_cases c : j = k
      · rw [c]; exact ⟨hlt, Nat.le_refl _⟩
      · exact ⟨(hoth j hj c).2, (hoth j hj c).1⟩) (Or.inr ⟨k, hk8, rfl⟩)
    rw [if_neg full] at ew
    have hpl : p + mt tx m (sL.getD k []) p ≤ m := by
      rcases Nat.eq_zero_or_pos (mt tx m (sL.getD k []) p) with e | e
      · omega
      · have := s2 (mt tx m (sL.getD k []) p - 1) (by omega)
        omega
    have een : enX tx m k p = (p + mt tx m (sL.getD k []) p, 1) := by
      unfold enX
      rw [ew, xW_b]
      have g1 := (mv_f (tx := tx) (m := m) (k := k) (s := (p + mt tx m (sL.getD k []) p, 1)) (Nat.le_refl 1)).2.1 Nat.one_ne_zero
      rw [g1]
      have g2 := (mv_s (tx := tx) (m := m) (k := k) (s := (p + mt tx m (sL.getD k []) p, 1)) (Nat.le_refl 1)).2.1 Nat.one_ne_zero
      rw [g2]
      exact (mv_t (tx := tx) (m := m) (k := k) (s := (p + mt tx m (sL.getD k []) p, 1)) (Nat.le_refl 1)).2.1 Nat.one_ne_zero
    rw [een]
    have h1 : rQ tx m (p + mt tx m (sL.getD k []) p, 1) (pI (pI Z 0 22 (nI (p + mt tx m (sL.getD k []) p))) 0 24 1) := rQ_24 (b := 1) (rQ_22 h)
    have o1 : onlyU Z (pI (pI Z 0 22 (nI (p + mt tx m (sL.getD k []) p))) 0 24 1) := onlyU_tr (onlyU_22 _ _) (onlyU_24 _ _)
    obtain ⟨Z1, a1, a2, a3⟩ := m_64 (k := 0) (v := 1) hm ⟨hpl, Nat.le_refl 1⟩ (by decide) h1
    have a2' : rQ tx m (p + mt tx m (sL.getD k []) p, 1) Z1 := a2
    have e23 : gI Z1 0 23 = nI c := by rw [a3.1 _ _ (fun _ => by decide), o1.1 _ _ (fun _ => by decide)]; exact h23
    obtain ⟨Z2, b1, b2, b3, -⟩ := m_123 (c := c) (k := 0) (v := 1) (w := (scX tx m 0 (p + mt tx m (sL.getD k []) p, 1)).1) (t := (thX tx m 0 (scX tx m 0 (p + mt tx m (sL.getD k []) p, 1)).2).1) ⟨hpl, Nat.le_refl 1⟩ hc a2' e23
    refine ⟨Z2, ?_, b2, ?_, fun _ => by rw [b3 Nat.one_ne_zero]; exact e23, fun e => absurd (show (1 : Nat) = 0 from e) (by decide)⟩
    · unfold sX8_command
      rw [hw, bnd_s, nm_d]
      dsimp only
      rw [if_pos (by decide)]
      unfold sX8_command_B35 sX8_command_B36
      rw [if_pos rfl]
      exact a1.trans b1
    · rw [b3 Nat.one_ne_zero]
      exact onlyW_U (onlyU_tr o1 a3)
/-- a command read in full is four characters long, or longer -/
theorem en_4 {p k : Nat} (hp : p ≤ m) (hk : k < 8) (h : (enX tx m k p).2 = 0) : p + 4 ≤ (enX tx m k p).1 := by
  obtain ⟨l3, l6, -⟩ := sL_len k hk
  have hle : (if mt tx m (sL.getD k []) p = (sL.getD k []).length then 0 else 1) ≤ 1 := by split <;> decide
  have hs : okS m (xW tx m (wL.getD k []) (p, 0)) := okS_W _ ⟨hp, Nat.zero_le 1⟩
  have g1 := mv_f (tx := tx) (m := m) (k := k) hs.2
  have hs2 := okS_f (tx := tx) (k := k) hs
  have g2 := mv_s (tx := tx) (m := m) (k := k) hs2.2
  have hs3 := okS_s (tx := tx) (k := k) hs2
  have g3 := mv_t (tx := tx) (m := m) (k := k) hs3.2
  have g := mvS_tr g1 (mvS_tr g2 g3)
  have hb := g.2.2 h
  have hge := g.1
  have ew : xW tx m (wL.getD k []) (p, 0) = xW tx m (if 1 ≤ k ∧ k ≤ 6 then [32] else []) (p + mt tx m (sL.getD k []) p, if mt tx m (sL.getD k []) p = (sL.getD k []).length then 0 else 1) := by
    rw [wL_sL k hk, xW_app, xW_mt]
  have key : p + 4 ≤ (xW tx m (wL.getD k []) (p, 0)).1 := by
    rw [ew] at hb ⊢
    by_cases full : mt tx m (sL.getD k []) p = (sL.getD k []).length
    · rw [if_pos full, full] at hb ⊢
      by_cases c : 1 ≤ k ∧ k ≤ 6
      · rw [if_pos c] at hb ⊢
        have e1 : ∀ s : Nat × Nat, xW tx m [32] s = xE tx m 32 s := fun _ => rfl
        rw [e1] at hb ⊢
        unfold xE at hb ⊢
        split
        · show p + 4 ≤ p + (sL.getD k []).length + 1
          omega
        · rename_i q
          rw [if_neg q] at hb
          exact absurd (show (1 : Nat) = 0 from hb) (by decide)
      · rw [if_neg c]
        have e1 : ∀ s : Nat × Nat, xW tx m [] s = s := fun _ => rfl
        rw [e1]
        show p + 4 ≤ p + (sL.getD k []).length
        have : k = 0 ∨ k = 7 := by omega
        rcases this with e | e <;> subst e <;> simp [sL]
    · rw [if_neg full, xW_b] at hb
      exact absurd (show (1 : Nat) = 0 from hb) (by decide)
  exact Nat.le_trans key hge
/-- the commands read are the same -/
def cmR (j : Nat) (Zc Zr : ZZ) : Prop := ∀ i, i < j → ∃ k f w t, k < 8 ∧ gI Zc 9 i = nI k ∧ gI Zc 10 i = nI f ∧ gI Zc 11 i = nI w ∧ gI Zc 12 i = nI t ∧ gI Zr 11 i = nI k ∧ gI Zr 12 (3 * i) = nI (if k = 0 then 1 else f) ∧ gI Zr 12 (3 * i + 1) = nI w ∧ gI Zr 12 (3 * i + 2) = nI t
def onlyPs (Z Z' : ZZ) : Prop := (∀ k i, k ≠ 7 → (k < 9 ∨ 12 < k) → gI Z' k i = gI Z k i) ∧ ∀ k, gL Z' k = gL Z k
def onlyPr (Z Z' : ZZ) : Prop := (∀ k i, k ≠ 11 → k ≠ 12 → (k = 0 → i < 20 ∨ 24 < i) → gI Z' k i = gI Z k i) ∧ ∀ k, gL Z' k = gL Z k
theorem onlyPs_tr {A B C : ZZ} (h1 : onlyPs A B) (h2 : onlyPs B C) : onlyPs A C := ⟨fun k i a b => (h2.1 k i a b).trans (h1.1 k i a b), fun k => (h2.2 k).trans (h1.2 k)⟩
theorem onlyPr_tr {A B C : ZZ} (h1 : onlyPr A B) (h2 : onlyPr B C) : onlyPr A C := ⟨fun k i a b c => (h2.1 k i a b c).trans (h1.1 k i a b c), fun k => (h2.2 k).trans (h1.2 k)⟩
theorem onlyPs_V {j : Nat} {A B : ZZ} (h : onlyV j A B) : onlyPs A B := ⟨fun k i a b => h.1 k i (fun e => absurd e a) (fun e => by omega), h.2⟩
theorem onlyPs_7 {A B : ZZ} {i : Nat} {x : Int32} (h : onlyPs A B) : onlyPs A (pI B 7 i x) := ⟨fun k j a b => by rw [gI_pI_k _ _ _ _ a]; exact h.1 k j a b, h.2⟩
theorem onlyPs_T {A B : ZZ} (h : onlyT A B) : onlyPs A B := ⟨fun k i a _ => h.1 k i (fun e => absurd e a), h.2⟩
theorem onlyPr_W {c : Nat} {A B : ZZ} (h : onlyW c A B) : onlyPr A B := ⟨fun k i a b d => h.1 k i (fun e => by have := d e; omega) (fun e => absurd e a) (fun e => absurd e b), h.2⟩
theorem onlyPr_0 {A B : ZZ} {i : Nat} {x : Int32} (hi : 20 ≤ i ∧ i ≤ 24) (h : onlyPr A B) : onlyPr A (pI B 0 i x) := ⟨fun k j a b d => by rw [gI_pI_o _ _ (fun e => by have := d e; omega)]; exact h.1 k j a b d, h.2⟩
theorem onlyPs_rf (Z : ZZ) : onlyPs Z Z := ⟨fun _ _ _ _ => rfl, fun _ => rfl⟩
theorem onlyPr_rf (Z : ZZ) : onlyPr Z Z := ⟨fun _ _ _ _ _ => rfl, fun _ => rfl⟩
theorem c_p81 (Z : ZZ) : sX4_parse_B81 Z = some (if gI Z 7 8 = 0 then -1 else gI Z 7 7, pI Z 7 1 0) := by
  unfold sX4_parse_B81
  rw [nm_d, gI_pI_j _ _ _ _ (by decide), gI_pI_j _ _ _ _ (by decide)]
  split <;> rfl
theorem c_stop {n : Nat} {y : Int32} (Z : ZZ) (hn : 0 < n) : sX4_parse_L19 n 0 y Z = some (if gI Z 7 8 = 0 then -1 else gI Z 7 7, pI Z 7 1 0) := by
  obtain ⟨n, rfl⟩ : ∃ q, n = q + 1 := ⟨n - 1, by omega⟩
  rw [sX4_parse_L19, if_pos rfl, c_p81]
theorem m_p58 {b : Nat} (h2 : gI Z 0 24 = nI b) (hb : b ≤ 1) (hm : okT tx m) (hs : okS m s) (h : rQ tx m s Z) (e : s.2 = b) : sX8_parse_B58 Z = some (pI Z 0 24 (nI (if m ≤ s.1 then b else 1))) := by
  obtain ⟨o1, o2, o3⟩ := or1 hb
  have := hm.1
  have := hs.1
  unfold sX8_parse_B58
  rw [h.2.2.1, h.1, h2]
  simp only [le_nn (show m < 2 ^ 31 by omega) (show s.1 < 2 ^ 31 by omega)]
  by_cases c : m ≤ s.1
  · rw [if_pos c, if_pos c, o2, gd_t o3, nm_d]
  · rw [if_neg c, if_neg c, o1, gd_t (by decide), nm_d]
theorem n10 : ¬ nI 1 = 0 := by decide
theorem m159 : ¬ (-1 : Int32) = 59 := by decide
theorem x_parse (hm : okT tx m) : ∀ (e j p n n' : Nat) (Zc Zr : ZZ), j + e = 13 → e + 2 < n → e + 2 < n' → 5 * j ≤ p → p ≤ m → 0 < e → cP tx m (p, 0) Zc → rQ tx m (p, 0) Zr → gI Zr 0 23 = nI j → cmR j Zc Zr →
    ∃ r Zc' Zr', sX4_parse_L19 n 1 (nI j) Zc = some (r, Zc') ∧ bnd (sX8_command Zr) (fun q => sX8_parse_L32 n' q) = some Zr' ∧ gI Zc' 7 1 = 0 ∧ onlyPs Zc Zc' ∧ onlyPr Zr Zr' ∧ ((∀ i, i < 21 → gI Zr' 0 i = gI Zr 0 i)) ∧
      ((r = -1 ∧ gI Zr' 0 24 = nI 0 ∧ ∃ J, J ≤ 12 ∧ gI Zc' 7 2 = nI J ∧ gI Zr' 0 23 = nI J ∧ cmR J Zc' Zr') ∨ (∃ q, q ≤ 60 ∧ r = nI q ∧ gI Zr' 0 24 = nI 1 ∧ gI Zr' 0 22 = nI q)) := by
  have h60 := hm.1
  intro e
  induction e with
  | zero => intro j p n n' Zc Zr _ _ _ _ _ h0; omega
  | succ e ih =>
    intro j p n n' Zc Zr hj hn hn' h5 hp _ hc hr h23 hcm
    obtain ⟨n, rfl⟩ : ∃ q, n = q + 1 := ⟨n - 1, by omega⟩
    obtain ⟨n', rfl⟩ : ∃ q, n' = q + 1 := ⟨n' - 1, by omega⟩
    have hka := c_kind hm hp (Nat.zero_le 1) hc
    -- a broken text: both stop
    have stop : ∀ (Z1 Zr1 : ZZ) (q : Nat), sX4_readCommand (nI j) Zc = some Z1 → cP tx m (q, 1) Z1 → onlyV j Zc Z1 → sX8_command Zr = some Zr1 → rQ tx m (q, 1) Zr1 → onlyW j Zr Zr1 → q ≤ m →
        ∃ r Zc' Zr', sX4_parse_L19 (n + 1) 1 (nI j) Zc = some (r, Zc') ∧ bnd (sX8_command Zr) (fun q => sX8_parse_L32 (n' + 1) q) = some Zr' ∧ gI Zc' 7 1 = 0 ∧ onlyPs Zc Zc' ∧ onlyPr Zr Zr' ∧ ((∀ i, i < 21 → gI Zr' 0 i = gI Zr 0 i)) ∧
      ((r = -1 ∧ gI Zr' 0 24 = nI 0 ∧ ∃ J, J ≤ 12 ∧ gI Zc' 7 2 = nI J ∧ gI Zr' 0 23 = nI J ∧ cmR J Zc' Zr') ∨ (∃ q, q ≤ 60 ∧ r = nI q ∧ gI Zr' 0 24 = nI 1 ∧ gI Zr' 0 22 = nI q)) := fun Z1 Zr1 q a1 a2 a3 b1 b2 b3 hq => by
      have a21 : gI Z1 7 7 = nI q := a2.1
      have a22 : gI Z1 7 8 = nI 1 := a2.2.1
      refine ⟨nI q, pI (pI Z1 7 2 (nI (j + 1))) 7 1 0, pI Zr1 0 24 (nI 1), ?_, ?_, gI_pI_s _ _ _ _, onlyPs_7 (onlyPs_7 (onlyPs_V a3)), onlyPr_0 (by decide) (onlyPr_W b3), fun i hi => ?_, Or.inr ⟨q, by omega, rfl, gI_pI_s _ _ _ _, ?_⟩⟩
      · rw [sX4_parse_L19, if_neg (by decide), if_neg (lge (show j < 13 by omega) (by decide)), a1, bnd_s, ad_n1, nm_d, gI_pI_j _ _ _ _ (by decide), a22, if_neg n10]
        unfold sX4_parse_B63
        rw [if_pos rfl, nm_d, ad_n1]
        dsimp only
        rw [c_stop _ (by omega), gI_pI_j _ _ _ _ (by decide), a22, if_neg n10, gI_pI_j _ _ _ _ (by decide), a21]
      · rw [b1, bnd_s, sX8_parse_L32, m_mark hm ⟨hq, Nat.le_refl 1⟩ b2, bnd_s, if_neg (show ¬ ((q, 1).2 = 0 ∧ (q, 1).1 < m) from fun e => absurd (show (1 : Nat) = 0 from e.1) (by decide)), if_neg m159, m_p58 b2.2.1 (Nat.le_refl 1) hm ⟨hq, Nat.le_refl 1⟩ b2 rfl]
        simp
      · rw [gI_pI_j _ _ _ _ (by omega), b3.1 _ _ (fun _ => by omega) (fun e => absurd e (by decide)) (fun e => absurd e (by decide))]
      · rw [gI_pI_j _ _ _ _ (by decide)]; exact b2.1
    by_cases k8 : kA tx m p = 8
    · rw [if_pos k8] at hka
      obtain ⟨Z1, a1, a2, a3⟩ := c_cmd_8 (j := j) hm hp (by omega) hc hka
      obtain ⟨Zr1, b1, b2, b3⟩ := m_cmd_8 (c := j) hm hp (by omega) hr h23 k8
      exact stop Z1 Zr1 p a1 a2 a3 b1 b2 b3 hp
    · rw [if_neg k8] at hka
      have hk8 : kA tx m p < 8 := by have := kA_le (tx := tx) (m := m) (p := p); omega
      generalize hk : kA tx m p = k at hka hk8
      obtain ⟨Z1, a1, a2, a3, a4, a5, a6, a7⟩ := c_cmd_k (j := j) hm ⟨hp, Nat.zero_le 1⟩ hk8 (by omega) hc hka
      obtain ⟨Zr1, b1, b2, b3, b4, b5⟩ := m_cmd_k (c := j) hm hp (by omega) hr h23 hk hk8
      have a2' : cP tx m (enX tx m k p) Z1 := a2
      have hen : okS m (enX tx m k p) := okS_t (okS_s (okS_f (okS_W _ ⟨hp, Nat.zero_le 1⟩)))
      by_cases br : (enX tx m k p).2 = 0
      · have h4 := en_4 (tx := tx) hp hk8 br
        obtain ⟨d1, d2, d3, d4, d5⟩ := b5 br
        generalize hq : (enX tx m k p).1 = q at h4
        have eq : enX tx m k p = (q, 0) := Prod.ext hq br
        rw [eq] at a2' b2 hen
        have hqm : q ≤ m := hen.1
        have hcm1 : cmR (j + 1) Z1 Zr1 := fun i hi => by
          by_cases c : i = j
          · subst c
            exact ⟨k, _, _, _, hk8, a4, a5, a6, a7, d2, d3, d4, d5⟩
          · obtain ⟨k2, f, w, t, q1, q2, q3, q4, q5, q6, q7, q8, q9⟩ := hcm i (by omega)
            have vc : ∀ z, (z = 9 ∨ z = 10 ∨ z = 11 ∨ z = 12) → gI Z1 z i = gI Zc z i := fun z hz => a3.1 z i (fun e => by omega) (fun _ => c)
            have vr : ∀ z y, (z = 11 → y ≠ j) → (z = 12 → y < 3 * j ∨ 3 * j + 2 < y) → z ≠ 0 → gI Zr1 z y = gI Zr z y := fun z y h1 h2 h0 => b3.1 z y (fun e => absurd e h0) h1 h2
            exact ⟨k2, f, w, t, q1, (vc 9 (by decide)).trans q2, (vc 10 (by decide)).trans q3, (vc 11 (by decide)).trans q4, (vc 12 (by decide)).trans q5, (vr 11 i (fun _ => c) (fun e => absurd e (by decide)) (by decide)).trans q6, (vr 12 _ (fun e => absurd e (by decide)) (fun _ => by omega) (by decide)).trans q7, (vr 12 _ (fun e => absurd e (by decide)) (fun _ => by omega) (by decide)).trans q8, (vr 12 _ (fun e => absurd e (by decide)) (fun _ => by omega) (by decide)).trans q9⟩
        have a2c : cP tx m (q, 0) (pI Z1 7 2 (nI (j + 1))) := ⟨(gI_pI_j _ _ _ _ (by decide)).trans a2'.1, (gI_pI_j _ _ _ _ (by decide)).trans a2'.2.1, (gI_pI_j _ _ _ _ (by decide)).trans a2'.2.2.1, fun i hi => (gI_pI_k _ _ _ _ (by decide)).trans (a2'.2.2.2 i hi)⟩
        have c77 : gI (pI Z1 7 2 (nI (j + 1))) 7 7 = nI q := a2c.1
        have c78 : gI (pI Z1 7 2 (nI (j + 1))) 7 8 = nI 0 := a2c.2.1
        have c71 := a2c.2.2.1
        have r22 : gI Zr1 0 22 = nI q := b2.1
        have z0 : ∀ i, i < 21 → gI Zr1 0 i = gI Zr 0 i := fun i hi => b3.1 0 i (fun _ => by omega) (fun e => absurd e (by decide)) (fun e => absurd e (by decide))
        by_cases more : q < m
        · have hj12 : j + 1 ≤ 12 := by omega
          by_cases semi : tx q = 59
          · obtain ⟨Z2, x1, x2, x3⟩ := c_exp (c := 59) hm hen (by decide) a2c
            have exq : xE tx m 59 (q, 0) = (q + 1, 0) := if_pos ⟨rfl, more, semi⟩
            rw [exq] at x2
            have r2 : rQ tx m (q + 1, 0) (pI Zr1 0 22 (nI (q + 1))) := rQ_22 b2
            have hcm2 : cmR (j + 1) Z2 (pI Zr1 0 22 (nI (q + 1))) := fun i hi => by
              obtain ⟨k2, f, w, t, q1, q2, q3, q4, q5, q6, q7, q8, q9⟩ := hcm1 i hi
              have vc : ∀ z, z ≠ 7 → gI Z2 z i = gI Z1 z i := fun z hz => by rw [x3.1 z i (fun e => absurd e hz), gI_pI_k _ _ _ _ hz]
              have vr : ∀ z y, z ≠ 0 → gI (pI Zr1 0 22 (nI (q + 1))) z y = gI Zr1 z y := fun z y h0 => gI_pI_k _ _ _ _ h0
              exact ⟨k2, f, w, t, q1, (vc 9 (by decide)).trans q2, (vc 10 (by decide)).trans q3, (vc 11 (by decide)).trans q4, (vc 12 (by decide)).trans q5, (vr 11 _ (by decide)).trans q6, (vr 12 _ (by decide)).trans q7, (vr 12 _ (by decide)).trans q8, (vr 12 _ (by decide)).trans q9⟩
            obtain ⟨r, Zc', Zr', y1, y2, y3, y4, y5, y6, y7⟩ := ih (j + 1) (q + 1) n n' Z2 (pI Zr1 0 22 (nI (q + 1))) (by omega) (by omega) (by omega) (by omega) (by omega) (by omega) x2 r2 ((gI_pI_j _ _ _ _ (by decide)).trans d1) hcm2
            refine ⟨r, Zc', Zr', ?_, ?_, y3, onlyPs_tr (onlyPs_7 (onlyPs_V a3)) (onlyPs_tr (onlyPs_T x3) y4), onlyPr_tr (onlyPr_0 (by decide) (onlyPr_W b3)) y5, fun i hi => by rw [y6 i hi, gI_pI_j _ _ _ _ (by omega)]; exact z0 i hi, y7⟩
            · rw [sX4_parse_L19, if_neg (by decide), if_neg (lge (show j < 13 by omega) (by decide)), a1, bnd_s, ad_n1, nm_d, c78, if_pos nI_0, c71, c77, if_neg (nI_ge more (by omega)), if_neg (by decide), show sX4_expect 59 (pI Z1 7 2 (nI (j + 1))) = some Z2 from x1, bnd_s, nm_d]
              exact y1
            · rw [b1, bnd_s, sX8_parse_L32, m_mark hm hen b2, bnd_s, if_pos (show (q, 0).2 = 0 ∧ (q, 0).1 < m from ⟨rfl, more⟩), if_pos (show nI (tx q) = 59 by rw [semi]; rfl), r22, ad_n1, nm_d]
              exact y2
          · obtain ⟨Z2, x1, x2, x3⟩ := c_exp (c := 59) hm hen (by decide) a2c
            have exq : xE tx m 59 (q, 0) = (q, 1) := if_neg (fun r => semi r.2.2)
            rw [exq] at x2
            obtain ⟨Z3, w1, w2, w3⟩ := c_cmd_b (j := j + 1) hm hqm (by omega) x2
            have ht := hm.2 _ more
            have w27 : gI Z3 7 7 = nI q := w2.1
            have w28 : gI Z3 7 8 = nI 1 := w2.2.1
            refine ⟨nI q, pI (pI Z3 7 2 (nI (j + 1 + 1))) 7 1 0, pI Zr1 0 24 (nI 1), ?_, ?_, gI_pI_s _ _ _ _, onlyPs_7 (onlyPs_7 (onlyPs_tr (onlyPs_7 (onlyPs_V a3)) (onlyPs_tr (onlyPs_T x3) (onlyPs_V w3)))), onlyPr_0 (by decide) (onlyPr_W b3), fun i hi => by rw [gI_pI_j _ _ _ _ (by omega)]; exact z0 i hi, Or.inr ⟨q, by omega, rfl, gI_pI_s _ _ _ _, by rw [gI_pI_j _ _ _ _ (by decide)]; exact b2.1⟩⟩
            · rw [sX4_parse_L19, if_neg (by decide), if_neg (lge (show j < 13 by omega) (by decide)), a1, bnd_s, ad_n1, nm_d, c78, if_pos nI_0, c71, c77, if_neg (nI_ge more (by omega)), if_neg (by decide), show sX4_expect 59 (pI Z1 7 2 (nI (j + 1))) = some Z2 from x1, bnd_s, nm_d]
              obtain ⟨n, rfl⟩ : ∃ q, n = q + 1 := ⟨n - 1, by omega⟩
              rw [sX4_parse_L19, if_neg (by decide), if_neg (lge (show j + 1 < 13 by omega) (by decide)), w1, bnd_s, ad_n1, nm_d, gI_pI_j _ _ _ _ (by decide), w28, if_neg n10]
              unfold sX4_parse_B63
              rw [if_pos rfl, nm_d, ad_n1]
              dsimp only
              rw [c_stop _ (by omega), gI_pI_j _ _ _ _ (by decide), w28, if_neg n10, gI_pI_j _ _ _ _ (by decide), w27]
            · rw [b1, bnd_s, sX8_parse_L32, m_mark hm hen b2, bnd_s, if_pos (show (q, 0).2 = 0 ∧ (q, 0).1 < m from ⟨rfl, more⟩), if_neg (show ¬ nI (tx q) = 59 by rw [eq_nl (by omega) (by decide)]; exact semi), m_p58 b2.2.1 (Nat.zero_le 1) hm hen b2 rfl, if_neg (show ¬ m ≤ (q, 0).1 from Nat.not_le.2 more)]
        · have eqm : q = m := by omega
          refine ⟨-1, pI (pI Z1 7 2 (nI (j + 1))) 7 1 0, pI Zr1 0 24 (nI 0), ?_, ?_, gI_pI_s _ _ _ _, onlyPs_7 (onlyPs_7 (onlyPs_V a3)), onlyPr_0 (by decide) (onlyPr_W b3), fun i hi => by rw [gI_pI_j _ _ _ _ (by omega)]; exact z0 i hi, Or.inl ⟨rfl, gI_pI_s _ _ _ _, j + 1, by omega, by rw [gI_pI_j _ _ _ _ (by decide), gI_pI_s], by rw [gI_pI_j _ _ _ _ (by decide)]; exact d1, fun i hi => ?_⟩⟩
          · rw [sX4_parse_L19, if_neg (by decide), if_neg (lge (show j < 13 by omega) (by decide)), a1, bnd_s, ad_n1, nm_d, c78, if_pos nI_0, c71, c77, if_pos (nI_le (show m ≤ q by omega) (by omega))]
            unfold sX4_parse_B63
            rw [if_pos rfl, nm_d, ad_n1]
            dsimp only
            rw [c_stop _ (by omega), c78, if_pos nI_0]
          · rw [b1, bnd_s, sX8_parse_L32, m_mark hm hen b2, bnd_s, if_neg (show ¬ ((q, 0).2 = 0 ∧ (q, 0).1 < m) from fun e => more e.2), if_neg m159, m_p58 b2.2.1 (Nat.zero_le 1) hm hen b2 rfl, if_pos (show m ≤ (q, 0).1 from by show m ≤ q; omega)]
          · obtain ⟨k2, f, w, t, q1, q2, q3, q4, q5, q6, q7, q8, q9⟩ := hcm1 i hi
            have vc : ∀ z, z ≠ 7 → gI (pI (pI Z1 7 2 (nI (j + 1))) 7 1 0) z i = gI Z1 z i := fun z hz => by rw [gI_pI_k _ _ _ _ hz, gI_pI_k _ _ _ _ hz]
            have vr : ∀ z y, z ≠ 0 → gI (pI Zr1 0 24 (nI 0)) z y = gI Zr1 z y := fun z y h0 => gI_pI_k _ _ _ _ h0
            exact ⟨k2, f, w, t, q1, (vc 9 (by decide)).trans q2, (vc 10 (by decide)).trans q3, (vc 11 (by decide)).trans q4, (vc 12 (by decide)).trans q5, (vr 11 _ (by decide)).trans q6, (vr 12 _ (by decide)).trans q7, (vr 12 _ (by decide)).trans q8, (vr 12 _ (by decide)).trans q9⟩
      · have hb1 : (enX tx m k p).2 = 1 := by have := hen.2; omega
        have eq : enX tx m k p = ((enX tx m k p).1, 1) := Prod.ext rfl hb1
        rw [eq] at a2' b2
        exact stop Z1 Zr1 (enX tx m k p).1 a1 a2' a3 b1 b2 b3 hen.1
end P
