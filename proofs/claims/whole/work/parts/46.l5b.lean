/-! the reference's two lines -/
theorem rA_W {N : NN} {Z Z' : ZZ} (h : rA N Z 1) (o : onlyWr Z Z') : rA N Z' 1 := fun j hj => by
  rw [o.1 _ _ (by decide) (fun q => absurd q (by decide))]; exact h j hj
theorem dl_1 {v : Nat} (h : v < 10) : dl v = 1 := if_pos h
theorem dl_2 {v : Nat} (h : v < 100) : dl v ≤ 2 := by
  unfold dl
  split
  · omega
  · exact Nat.le_refl _
theorem pnum_1 (lw : LW) (v : Nat) : (pnum lw v).1 = lw.1 + dl v := rfl
theorem psh_1 (lw : LW) (c : Nat) : (psh lw c).1 = lw.1 + 1 := rfl
def txT0 (N : NN) (i : Nat) (f : Nat → Nat) : LW := pnum (psh (pnum (psh (pnum (0, f) (min (nT N i 0) (nT N i 1))) 45) (max (nT N i 0) (nT N i 1))) 61) (nT N i 2)
def txT (N : NN) (i : Nat) (f : Nat → Nat) : LW := if nT N i 3 = 1 then psh (txT0 N i f) 120 else if usr N i < N 3 then psh (txT0 N i f) 42 else txT0 N i f
theorem oK_0 {lw : LW} {Z : ZZ} : oK (0, lw.2) (pI Z 0 16 0) := ⟨by show 0 ≤ 80; omega, gI_pI_s _ _ _ _, fun j hj => absurd hj (Nat.not_lt_zero j)⟩
theorem G_line {lw lw' : LW} {W : Nat} {Zc Zr Zr' : ZZ} (h : G lw W Zc Zr) (hr : ∀ k j, k ≠ 9 → (k = 0 → j ≠ 8 ∧ j ≠ 16) → gI Zr' k j = gI Zr k j) (ho : oK lw' Zr') : G lw' W Zc Zr' := by
  obtain ⟨N, Hs, n, ⟨hB, hA, hI, hu⟩, hK, hR⟩ := h
  have hz : ∀ j, j ≠ 8 ∧ j ≠ 16 → gI Zr' 0 j = gI Zr 0 j := fun j hj => hr 0 j (by decide) (fun _ => hj)
  have hk : ∀ k j, k ≠ 0 → k ≠ 9 → gI Zr' k j = gI Zr k j := fun k j h0 h9 => hr k j h9 (fun q => absurd q h0)
  refine ⟨N, Hs, n, ⟨hB, fun j hj => (hk _ _ (by decide) (by decide)).trans (hA j hj), hI, hu⟩, ?_, ?_⟩
  · obtain ⟨m, hn, h1, h2, h3⟩ := hK
    refine ⟨m, hn, h1, (hz _ (by decide)).trans h2, fun j hj => ?_⟩
    rw [hk 5 _ (by decide) (by decide), hk 5 _ (by decide) (by decide), hk 5 _ (by decide) (by decide)]
    exact h3 j hj
  · obtain ⟨a, b, c, d, e, f, g⟩ := hR
    refine ⟨a, hKr_keep b (hz _ (by decide)) (fun j => hk _ _ (by decide) (by decide)), c, sK_keep d (Nat.le_refl _) (fun _ _ _ => rfl) rfl (hz _ (by decide)) (fun j => hk _ _ (by decide) (by decide)), ?_, ?_, ho⟩
    · obtain ⟨m, tx, e1, e2, e3, e4⟩ := e
      refine ⟨m, tx, e1, e2, (hz _ (by decide)).trans e3, fun j hj => ?_⟩
      rw [hk 10 _ (by decide) (by decide)]
      exact e4 j hj
    · obtain ⟨f1, f2, f3, f4⟩ := f
      exact ⟨(hz _ (by decide)).trans f1, (hz _ (by decide)).trans f2, f3, f4⟩
theorem oK_n {lw : LW} {Z : ZZ} (h : oK lw Z) : gI Z 0 16 = nI lw.1 := h.2.1
theorem r_trunk_b {N : NN} {W i : Nat} {f : Nat → Nat} {Z : ZZ} (hA : rA N Z 1) (hI : iN N W) (hi : i < N 1) (ho : oK (0, f) Z) : ∃ Z', sX8_writeTrunk_B49 (nI i) (nI (min (nT N i 0) (nT N i 1))) Z = some (nI (txT N i f).1, Z') ∧ oK (txT N i f) Z' ∧ onlyWr Z Z' := by
  have h16 := hI.1.2.1
  have h8 := hI.1.1
  obtain ⟨t0, t1, tn, -, t2, t3, -⟩ := hI.2.1 i hi
  have hb : oth N i (min (nT N i 0) (nT N i 1)) = max (nT N i 0) (nT N i 1) := by
    unfold oth
    by_cases c : nT N i 0 ≤ nT N i 1
    · rw [Nat.min_eq_left c, Nat.max_eq_right c, if_pos rfl]
    · rw [Nat.min_eq_right (by omega), Nat.max_eq_left (by omega), if_neg tn]
  have l0 := dl_1 (show min (nT N i 0) (nT N i 1) < 10 by omega)
  have l1 := dl_1 (show max (nT N i 0) (nT N i 1) < 10 by omega)
  have l2 := dl_2 (show nT N i 2 < 100 by omega)
  obtain ⟨Z1, a1, o1, w1⟩ := r_num (v := min (nT N i 0) (nT N i 1)) (by omega) (by show 0 + 7 ≤ 80; omega) ho
  obtain ⟨Z2, a2, o2, w2⟩ := r_write (c := 45) o1 (by rw [pnum_1]; dsimp only; omega) (by omega)
  have hA2 := rA_W hA (onlyWr_tr w1 w2)
  obtain ⟨Z3, a3, o3, w3⟩ := r_num (v := max (nT N i 0) (nT N i 1)) (by omega) (by rw [psh_1, pnum_1]; dsimp only; omega) o2
  obtain ⟨Z4, a4, o4, w4⟩ := r_write (c := 61) o3 (by rw [pnum_1, psh_1, pnum_1]; dsimp only; omega) (by omega)
  have w14 := onlyWr_tr (onlyWr_tr w1 w2) (onlyWr_tr w3 w4)
  have hA4 := rA_W hA w14
  obtain ⟨Z5, a5, o5, w5⟩ := r_num (v := nT N i 2) (by omega) (by rw [psh_1, pnum_1, psh_1, pnum_1]; dsimp only; omega) o4
  have hA5 := rA_W hA4 w5
  have o5 : oK (txT0 N i f) Z5 := o5
  have hl5 : (txT0 N i f).1 < 80 := by
    unfold txT0
    rw [pnum_1, psh_1, pnum_1, psh_1, pnum_1]; dsimp only; omega
  unfold sX8_writeTrunk_B49
  rw [a1, bnd_s, show (45 : Int32) = nI 45 from rfl, a2, bnd_s, p_beyond hA2 hI hi (by omega), bnd_s, hb, a3, bnd_s, show (61 : Int32) = nI 61 from rfl, a4, bnd_s, p_t2 hA4 (by omega), bnd_s, a5, bnd_s, p_t3 hA5 (by omega), bnd_s]
  unfold txT
  by_cases c : nT N i 3 = 1
  · obtain ⟨Z6, a6, o6, w6⟩ := r_write (c := 120) o5 hl5 (by omega)
    refine ⟨Z6, ?_, by rw [if_pos c]; exact o6, onlyWr_tr w14 (onlyWr_tr w5 w6)⟩
    rw [if_pos c, if_pos (by rw [c]; rfl), show (120 : Int32) = nI 120 from rfl, a6, bnd_s, oK_n o6]
  · have hc : nT N i 3 = 0 := by omega
    rw [if_neg c, if_neg (by dsimp only; rw [hc]; decide), p_callOn hA5 hI (by omega), bnd_s]
    by_cases d : usr N i < N 3
    · obtain ⟨Z6, a6, o6, w6⟩ := r_write (c := 42) o5 hl5 (by omega)
      refine ⟨Z6, ?_, by rw [if_pos d]; exact o6, onlyWr_tr w14 (onlyWr_tr w5 w6)⟩
      dsimp only
      rw [if_pos d, if_pos d, if_neg (nI_pos (by have := hI.1.2.2.2.1; omega)), show (42 : Int32) = nI 42 from rfl, a6, bnd_s, oK_n o6]
    · refine ⟨Z5, ?_, by rw [if_neg d]; exact o5, onlyWr_tr w14 w5⟩
      dsimp only
      rw [if_neg d, if_neg d, if_pos (by decide), oK_n o5]
theorem r_trunk {N : NN} {W i : Nat} {lw : LW} {Z : ZZ} (hA : rA N Z 1) (hI : iN N W) (hi : i < N 1) : ∃ Z', sX8_writeTrunk (nI i) Z = some (nI (txT N i lw.2).1, Z') ∧ oK (txT N i lw.2) Z' ∧ gI Z' 0 8 = nI 0 ∧ (∀ k j, k ≠ 9 → (k = 0 → j ≠ 8 ∧ j ≠ 16) → gI Z' k j = gI Z k j) := by
  have h16 := hI.1.2.1
  have h8 := hI.1.1
  obtain ⟨t0, t1, tn, -⟩ := hI.2.1 i hi
  have hA1 : rA N (pI (pI Z 0 8 0) 0 16 0) 1 := rA_W (rA_8 hA) (onlyWr_16 _ _)
  obtain ⟨Z', b1, b2, b3⟩ := r_trunk_b (f := lw.2) hA1 hI hi (oK_0 (lw := lw))
  refine ⟨Z', ?_, b2, ?_, ?_⟩
  · unfold sX8_writeTrunk
    rw [m_isTr hA (by omega), viB_n hi (by omega), bnd_s]
    show bnd (sX8_checked 1 Z) _ = _
    rw [chk_t, bnd_s, if_pos le00, nm_d, p_t0 hA1 (by omega), bnd_s, p_t1 hA1 (by omega), bnd_s]
    dsimp only
    by_cases c : nT N i 1 ≤ nT N i 0
    · rw [if_pos (nI_le c (by omega)), p_t1 hA1 (by omega), bnd_s]
      rw [Nat.min_eq_right c] at b1
      exact b1
    · rw [if_neg (nI_ge (by omega) (by omega)), p_t0 hA1 (by omega), bnd_s]
      rw [Nat.min_eq_left (by omega)] at b1
      exact b1
  · rw [b3.1 _ _ (by decide) (by decide), gI_pI_j _ _ _ _ (by decide), gI_pI_s]; rfl
  · intro k j k9 k0
    rw [b3.1 _ _ k9 (fun q => (k0 q).2), gI_pI_o _ _ (fun q => (k0 q).2), gI_pI_o _ _ (fun q => (k0 q).1)]
def txC (N : NN) (f : Nat → Nat) : Nat → LW
  | 0 => (0, f)
  | k + 1 => pnum (psh (pnum (psh (pnum (if k = 0 then txC N f k else psh (txC N f k) 32) (nC N k 0)) 62) (nC N k 1)) 58) (nC N k 2)
theorem txC_l {N : NN} {W : Nat} (hI : iN N W) (f : Nat → Nat) : ∀ k, k ≤ N 3 → (txC N f k).1 ≤ 12 * k := by
  intro k
  induction k with
  | zero => intro _; exact Nat.le_refl _
  | succ k ih =>
    intro hk
    have := ih (by omega)
    obtain ⟨b0, b1, -⟩ := hI.2.2.2.2.2.1 k (by omega)
    have h10 := hI.1.2.2.1
    have l0 := dl_1 (show nC N k 0 < 10 by omega)
    have l1 := dl_1 (show nC N k 1 < 10 by omega)
    have l2 := (dl_b (nC N k 2)).2
    unfold txC
    rw [pnum_1, psh_1, pnum_1, psh_1, pnum_1]
    split
    · omega
    · rw [psh_1]; omega
theorem r_calls_b {N : NN} {W k : Nat} {f : Nat → Nat} {lw : LW} {Z : ZZ} {K : Int32 → ZZ → Option (Int32 × ZZ)} (hA : rA N Z 1) (hI : iN N W) (hW : W ≤ 7000) (hk : k < N 3) (ho : oK lw Z) (hl : lw = if k = 0 then txC N f k else psh (txC N f k) 32) : ∃ Z', sX8_writeCalls_B32 K (nI k) Z = K (nI (k + 1)) Z' ∧ oK (txC N f (k + 1)) Z' ∧ onlyWr Z Z' := by
  have h10 := hI.1.2.2.1
  have h5 := hI.1.2.2.2.1
  obtain ⟨b0, b1, -, b2, -⟩ := hI.2.2.2.2.2.1 k hk
  have l0 := dl_1 (show nC N k 0 < 10 by omega)
  have l1 := dl_1 (show nC N k 1 < 10 by omega)
  have hx := txC_l hI f k (by omega)
  have hlw : lw.1 ≤ 12 * k + 1 := by
    rw [hl]
    split
    · omega
    · rw [psh_1]; omega
  obtain ⟨Z1, a1, o1, w1⟩ := r_num (v := nC N k 0) (by omega) (by omega) ho
  obtain ⟨Z2, a2, o2, w2⟩ := r_write (c := 62) o1 (by rw [pnum_1]; omega) (by omega)
  have hA2 := rA_W hA (onlyWr_tr w1 w2)
  obtain ⟨Z3, a3, o3, w3⟩ := r_num (v := nC N k 1) (by omega) (by rw [psh_1, pnum_1]; omega) o2
  obtain ⟨Z4, a4, o4, w4⟩ := r_write (c := 58) o3 (by rw [pnum_1, psh_1, pnum_1]; omega) (by omega)
  have w14 := onlyWr_tr (onlyWr_tr w1 w2) (onlyWr_tr w3 w4)
  have hA4 := rA_W hA w14
  obtain ⟨Z5, a5, o5, w5⟩ := r_num (v := nC N k 2) (by omega) (by rw [psh_1, pnum_1, psh_1, pnum_1]; omega) o4
  refine ⟨Z5, ?_, by unfold txC; rw [← hl]; exact o5, onlyWr_tr w14 w5⟩
  unfold sX8_writeCalls_B32
  rw [p_c_x (o := 0) (x := 0) hA (by omega) rfl, bnd_s, a1, bnd_s, show (62 : Int32) = nI 62 from rfl, a2, bnd_s, p_c_x (o := 1) (x := 1) hA2 (by omega) rfl, bnd_s, a3, bnd_s, show (58 : Int32) = nI 58 from rfl, a4, bnd_s, p_c_x (o := 2) (x := 2) hA4 (by omega) rfl, bnd_s, a5, bnd_s, nm_d, ad_n1]
theorem r_calls_L {N : NN} {W : Nat} {f : Nat → Nat} (hI : iN N W) (hW : W ≤ 7000) : ∀ (e k n : Nat) (Z : ZZ), k + e = N 3 → e < n → rA N Z 1 → oK (txC N f k) Z → ∃ Z', sX8_writeCalls_L12 n (nI k) Z = some (nI (txC N f (N 3)).1, Z') ∧ oK (txC N f (N 3)) Z' ∧ onlyWr Z Z' := by
  have h5 := hI.1.2.2.2.1
  intro e
  induction e with
  | zero =>
    intro k n Z hk hn hA ho
    obtain ⟨n, rfl⟩ : ∃ q, n = q + 1 := ⟨n - 1, by omega⟩
    obtain rfl : k = N 3 := by omega
    refine ⟨Z, ?_, ho, onlyWr_rf _⟩
    rw [sX8_writeCalls_L12, gd_t (by decide), g3 hA, if_pos (nI_le (Nat.le_refl _) (by omega)), oK_n ho]
  | succ e ih =>
    intro k n Z hk hn hA ho
    obtain ⟨n, rfl⟩ : ∃ q, n = q + 1 := ⟨n - 1, by omega⟩
    rw [sX8_writeCalls_L12, gd_t (by decide), g3 hA, if_neg (nI_ge (by omega) (by omega))]
    by_cases c : k = 0
    · obtain ⟨Z1, a1, a2, a3⟩ := r_calls_b (K := fun y1 Z => sX8_writeCalls_L12 n y1 Z) (f := f) (k := k) (lw := txC N f k) hA hI hW (by omega) ho (by rw [if_pos c])
      obtain ⟨Z2, c1, c2, c3⟩ := ih (k + 1) n Z1 (by omega) (by omega) (rA_W hA a3) a2
      refine ⟨Z2, ?_, c2, onlyWr_tr a3 c3⟩
      rw [if_pos (by rw [c]; decide), a1]
      exact c1
    · have hx := txC_l hI f k (by omega)
      obtain ⟨Z0, d1, d2, d3⟩ := r_write (c := 32) ho (by omega) (by omega)
      obtain ⟨Z1, a1, a2, a3⟩ := r_calls_b (K := fun y1 Z => sX8_writeCalls_L12 n y1 Z) (f := f) (k := k) (lw := psh (txC N f k) 32) (rA_W hA d3) hI hW (by omega) d2 (by rw [if_neg c])
      obtain ⟨Z2, c1, c2, c3⟩ := ih (k + 1) n Z1 (by omega) (by omega) (rA_W (rA_W hA d3) a3) a2
      refine ⟨Z2, ?_, c2, onlyWr_tr d3 (onlyWr_tr a3 c3)⟩
      rw [if_neg (nI_nle (by omega) (by omega)), show (32 : Int32) = nI 32 from rfl, d1, bnd_s, a1]
      exact c1
theorem r_calls {N : NN} {W : Nat} {lw : LW} {Z : ZZ} (hA : rA N Z 1) (hI : iN N W) (hW : W ≤ 7000) : ∃ Z', sX8_writeCalls Z = some (nI (txC N lw.2 (N 3)).1, Z') ∧ oK (txC N lw.2 (N 3)) Z' ∧ gI Z' 0 8 = nI 0 ∧ (∀ k j, k ≠ 9 → (k = 0 → j ≠ 8 ∧ j ≠ 16) → gI Z' k j = gI Z k j) := by
  have h5 := hI.1.2.2.2.1
  have hA1 : rA N (pI (pI Z 0 8 0) 0 16 0) 1 := rA_W (rA_8 hA) (onlyWr_16 _ _)
  obtain ⟨Z', b1, b2, b3⟩ := r_calls_L (f := lw.2) hI hW (N 3) 0 3000 _ (by omega) (by omega) hA1 (oK_0 (lw := lw))
  refine ⟨Z', ?_, b2, ?_, ?_⟩
  · unfold sX8_writeCalls
    rw [nm_d, nm_d]
    exact b1
  · rw [b3.1 _ _ (by decide) (by decide), gI_pI_j _ _ _ _ (by decide), gI_pI_s]; rfl
  · intro k j k9 k0
    rw [b3.1 _ _ k9 (fun q => (k0 q).2), gI_pI_o _ _ (fun q => (k0 q).2), gI_pI_o _ _ (fun q => (k0 q).1)]
theorem nm1r : ¬ (1 : Int32) ≤ 0 := by decide
theorem r_charAt_t {lw : LW} {Z : ZZ} {j : Nat} (h : oK lw Z) (hj : j < lw.1) : sX8_charAt (nI j) Z = some (nI (lw.2 j), pI Z 0 8 0) := by
  obtain ⟨h1, h2, h3⟩ := h
  obtain ⟨h4, h5⟩ := h3 j hj
  have hc : nch (nI (lw.2 j)) = true ∧ ichar (nI (lw.2 j)) = nI (lw.2 j) := by
    have : ∀ c, c < 128 → nch (nI c) = true ∧ ichar (nI c) = nI c := by decide +kernel
    exact this _ h5
  unfold sX8_charAt
  rw [h2, show nI lw.1 - 1 = nI (lw.1 - 1) by rw [show (1 : Int32) = nI 1 from rfl, sb_nn (by omega)]]
  unfold sX8_in
  rw [if_neg (nI_pos (by omega)), if_neg (nI_nlt (by omega) (by omega)), bnd_s]
  show bnd (sX8_checked 1 Z) _ = _
  rw [chk_t, bnd_s, if_pos le00, gd_t (vin_n (by omega) (by decide)), cl_n (by omega), gI_pI_k _ _ _ _ (by decide), h4, hc.2, gd_t hc.1]
theorem r_charAt_f {lw : LW} {Z : ZZ} {x : Int32} (h : oK lw Z) (hx : x < 0 ∨ nI lw.1 ≤ x) : sX8_charAt x Z = some (32, pI Z 0 8 1) := by
  obtain ⟨h1, h2, h3⟩ := h
  unfold sX8_charAt
  have e : sX8_in x 0 (gI Z 0 16 - 1) Z = some (0, Z) := by
    unfold sX8_in
    by_cases c : x < 0
    · rw [if_pos c]
    · rw [if_neg c, h2]
      obtain ⟨j, hj, rfl⟩ := nI_of c
      rcases hx with q | q
      · exact absurd q c
      · rw [nI_leI (by omega) hj] at q
        by_cases z : lw.1 = 0
        · rw [z, if_pos (by
            show nI 0 - 1 < nI j
            rw [show nI 0 - 1 = (-1 : Int32) by decide, Int32.lt_iff_toInt_lt, nI_toInt hj]
            have : ((-1 : Int32)).toInt = -1 := by decide
            omega)]
        · rw [show nI lw.1 - 1 = nI (lw.1 - 1) by rw [show (1 : Int32) = nI 1 from rfl, sb_nn (by omega)], if_pos (nI_lt (by omega) hj)]
  rw [e, bnd_s]
  show bnd (sX8_checked 0 Z) _ = _
  rw [chk_f, bnd_s, if_neg nm1r, gd_t (by decide)]
