/-! the reference's distances: far and hops by eight passes -/
def BIG : Nat := 90000000
/-- length first, then the number of trunks, in one number -/
def cmb (fr hp : Nat → Nat) (v : Nat) : Nat := if fr v = 9999 then BIG else 6000 * fr v + hp v
/-- the rows far and hops, their bounds -/
def rF (fr hp : Nat → Nat) (M : Nat) (Z : ZZ) : Prop := ∀ v, v < 8 → gI Z 6 v = nI (fr v) ∧ gI Z 7 v = nI (hp v) ∧ (fr v = 9999 ∨ fr v ≤ M) ∧ hp v ≤ M
/-- nothing but the rows far and hops changed -/
def only67 (Z Z' : ZZ) : Prop := (∀ k j, k ≠ 6 → k ≠ 7 → gI Z' k j = gI Z k j) ∧ ∀ k, gL Z' k = gL Z k
theorem only67_rf (Z : ZZ) : only67 Z Z := ⟨fun _ _ _ _ => rfl, fun _ => rfl⟩
theorem only67_tr {A B C : ZZ} (h1 : only67 A B) (h2 : only67 B C) : only67 A C := ⟨fun k j h h' => (h2.1 k j h h').trans (h1.1 k j h h'), fun k => (h2.2 k).trans (h1.2 k)⟩
theorem rA_67 {N : NN} {Z Z' : ZZ} {q : Nat} (h : rA N Z q) (hq : q < 6) (ho : only67 Z Z') : rA N Z' q := fun j hj => by
  rw [ho.1 _ _ (by omega) (by omega)]; exact h j hj
/-- one trunk tried from its one end x -/
theorem p_nears {N : NN} {Z : ZZ} {W i x M : Nat} {fr hp : Nat → Nat} (hA : rA N Z 1) (hI : iN N W) (hi : i < N 1) (hx : nT N i 0 = x ∨ nT N i 1 = x) (hF : rF fr hp M Z) (hM : M + 20 ≤ 5120) :
    ∃ Z' fr' hp', sX8_nears (nI i) (nI x) Z = some Z' ∧ rF fr' hp' (M + 20) Z' ∧ only67 Z Z' ∧ (∀ v, v < 8 → cmb fr' hp' v = updN (cmb fr hp) x (min (cmb fr hp x) (cmb fr hp (oth N i x) + (6000 * nT N i 2 + 1))) v) ∧ (∀ v, v < 8 → fr' v ≠ 9999 → fr v ≠ 9999 ∨ (v = x ∧ fr (oth N i x) ≠ 9999)) := by
  have h16 := hI.1.2.1
  have h8 := hI.1.1
  obtain ⟨q0, q1, q2, q3, q4, -⟩ := hI.2.1 i hi
  have hy := oth_lt (v := x) hI hi
  have hx8 : x < 8 := by omega
  have hyx : oth N i x ≠ x := by
    unfold oth; split <;> omega
  obtain ⟨y1, y2, y3, y4⟩ := hF _ (show oth N i x < 8 by omega)
  obtain ⟨x1, x2, x3, x4⟩ := hF x hx8
  have hfy : fr (oth N i x) < 10000 := by omega
  have hfx : fr x < 10000 := by omega
  have hup : rF fr hp (M + 20) Z := fun v hv => by
    obtain ⟨a, b, c, d⟩ := hF v hv
    exact ⟨a, b, by omega, by omega⟩
  have hsame : cmb fr hp x ≤ cmb fr hp (oth N i x) + (6000 * nT N i 2 + 1) → ∀ v, v < 8 → cmb fr hp v = updN (cmb fr hp) x (min (cmb fr hp x) (cmb fr hp (oth N i x) + (6000 * nT N i 2 + 1))) v := fun h v hv => by
    unfold updN
    by_cases c : v = x
    · rw [if_pos c, c]; omega
    · rw [if_neg c]
  have hsame2 : ∀ v, v < 8 → fr v ≠ 9999 → fr v ≠ 9999 ∨ (v = x ∧ fr (oth N i x) ≠ 9999) := fun v hv h => Or.inl h
  unfold sX8_nears
  rw [p_beyond hA hI hi hx, bnd_s, nm_d, gd_t (vin_n (by omega) (by decide)), p_t2 hA (by omega), bnd_s, cl_n (by omega), y1, nI_add, nm_d, gd_t (vin_n (by omega) (by decide)), y2, ad_n1, nm_d, gd_t (vin_n (by omega) (by decide))]
  show ∃ Z' fr' hp', (if nI (fr (oth N i x)) = nI 9999 then _ else _) = some Z' ∧ _
  simp only [eq_nn (show fr (oth N i x) < 2 ^ 31 by omega) (show 9999 < 2 ^ 31 by decide)]
  by_cases c1 : fr (oth N i x) = 9999
  · refine ⟨Z, fr, hp, by rw [if_pos c1], hup, only67_rf Z, hsame ?_, hsame2⟩
    unfold cmb BIG
    rw [if_pos c1]
    split <;> omega
  · have hfy2 : fr (oth N i x) ≤ M := by omega
    have ey : cmb fr hp (oth N i x) = 6000 * fr (oth N i x) + hp (oth N i x) := if_neg c1
    rw [if_neg c1, gd_t (vin_n hx8 (by decide)), cl_n (by omega), x1]
    simp only [lt_nn (show fr x < 2 ^ 31 by omega) (show fr (oth N i x) + nT N i 2 < 2 ^ 31 by omega)]
    by_cases c2 : fr x < fr (oth N i x) + nT N i 2
    · refine ⟨Z, fr, hp, by rw [if_pos c2], hup, only67_rf Z, hsame ?_, hsame2⟩
      have ex : cmb fr hp x = 6000 * fr x + hp x := if_neg (by omega)
      omega
    · rw [if_neg c2, gd_t (vin_n hx8 (by decide))]
      simp only [eq_nn (show fr (oth N i x) + nT N i 2 < 2 ^ 31 by omega) (show fr x < 2 ^ 31 by omega)]
      have hset : (cmb fr hp (oth N i x) + (6000 * nT N i 2 + 1) ≤ cmb fr hp x) → ∃ Z' fr' hp', sX8_nears_B78 (nI i) (nI x) (nI (fr (oth N i x) + nT N i 2)) (nI (hp (oth N i x) + 1)) Z = some Z' ∧ rF fr' hp' (M + 20) Z' ∧ only67 Z Z' ∧ (∀ v, v < 8 → cmb fr' hp' v = updN (cmb fr hp) x (min (cmb fr hp x) (cmb fr hp (oth N i x) + (6000 * nT N i 2 + 1))) v) ∧ (∀ v, v < 8 → fr' v ≠ 9999 → fr v ≠ 9999 ∨ (v = x ∧ fr (oth N i x) ≠ 9999)) := by
        intro hle
        refine ⟨pI (pI Z 6 x (nI (fr (oth N i x) + nT N i 2))) 7 x (nI (hp (oth N i x) + 1)), updN fr x (fr (oth N i x) + nT N i 2), updN hp x (hp (oth N i x) + 1), ?_, fun v hv => ?_, ⟨fun k j h6 h7 => ?_, fun k => rfl⟩, fun v hv => ?_, fun v hv h => ?_⟩
        · unfold sX8_nears_B78
          rw [gd_t (vin_n hx8 (by decide)), nm_d, gd_t (vin_n hx8 (by decide)), nm_d, cl_n (by omega)]
        · obtain ⟨a, b, c, d⟩ := hF v hv
          unfold updN
          by_cases e : v = x
          · subst e
            rw [if_pos rfl, if_pos rfl, gI_pI_k _ _ _ _ (by decide), gI_pI_s, gI_pI_s]
            exact ⟨rfl, rfl, by omega, by omega⟩
          · rw [if_neg e, if_neg e, gI_pI_k _ _ _ _ (by decide), gI_pI_j _ _ _ _ e, gI_pI_j _ _ _ _ e, gI_pI_k _ _ _ _ (by decide)]
            exact ⟨a, b, by omega, by omega⟩
        · rw [gI_pI_k _ _ _ _ h7, gI_pI_k _ _ _ _ h6]
        · by_cases e : v = x
          · subst e
            have e1 : cmb (updN fr v (fr (oth N i v) + nT N i 2)) (updN hp v (hp (oth N i v) + 1)) v = 6000 * (fr (oth N i v) + nT N i 2) + (hp (oth N i v) + 1) := by
              unfold cmb updN
              rw [if_pos rfl, if_pos rfl, if_neg (by omega)]
            rw [e1, updN_s]; omega
          · unfold cmb updN
            rw [if_neg e, if_neg e, if_neg e]
        · unfold updN at h
          by_cases e : v = x
          · exact Or.inr ⟨e, c1⟩
          · rw [if_neg e] at h; exact Or.inl h
      by_cases c3 : fr (oth N i x) + nT N i 2 = fr x
      · rw [if_pos c3, gd_t (vin_n hx8 (by decide)), x2]
        have ex : cmb fr hp x = 6000 * fr x + hp x := if_neg (by omega)
        simp only [lt_nn (show hp (oth N i x) + 1 < 2 ^ 31 by omega) (show hp x < 2 ^ 31 by omega)]
        by_cases c4 : hp (oth N i x) + 1 < hp x
        · rw [if_pos c4]
          exact hset (by omega)
        · rw [if_neg c4]
          refine ⟨Z, fr, hp, rfl, hup, only67_rf Z, hsame (by omega), hsame2⟩
      · rw [if_neg c3]
        refine hset ?_
        have : 6000 * (fr (oth N i x) + nT N i 2) + 6000 ≤ cmb fr hp x := by
          unfold cmb BIG
          split <;> omega
        omega
