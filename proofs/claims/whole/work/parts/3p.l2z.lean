/-! the charge of a call, and its end -/
def chg (N : NN) (i : Nat) : Nat := if nU N (nC N i 0) 1 = 0 then 25 else if nU N (nC N i 0) 1 = 1 then nC N i 2 * (cLen N i + 1) else (nC N i 2 * (cLen N i + 1) + 1) / 2
theorem sumf_le {f : Nat → Nat} {B n : Nat} (h : ∀ i, i < n → f i ≤ B) : sumf f n ≤ B * n := by
  induction n with
  | zero => exact Nat.zero_le _
  | succ n ih =>
    unfold sumf
    have h1 := ih fun i hi => h i (by omega)
    have h2 := h n (by omega)
    rw [Nat.mul_succ]
    omega
theorem cLen_le {N : NN} {W i : Nat} (hI : iN N W) (hi : i < N 3) : cLen N i ≤ 140 := by
  obtain ⟨-, -, -, -, h7, h8⟩ := hI.2.2.2.2.2.1 i hi
  have h : cLen N i ≤ 20 * nC N i 3 := sumf_le fun j hj => by
    obtain ⟨-, -, -, -, q, -⟩ := hI.2.1 _ (h8 j hj).1
    exact q
  omega
theorem prod_le {N : NN} {W i : Nat} (hI : iN N W) (hi : i < N 3) : nC N i 2 * (cLen N i + 1) ≤ 141 * nC N i 2 := by
  have hL := cLen_le hI hi
  rw [Nat.mul_comm]
  exact Nat.mul_le_mul_right _ (by omega)
theorem chg_le {N : NN} {W i : Nat} (hI : iN N W) (hi : i < N 3) : chg N i ≤ 25 + 141 * nC N i 2 := by
  have hm := prod_le hI hi
  unfold chg
  split
  · omega
  · split <;> omega
theorem p_hasSub {N : NN} {Z : ZZ} {b u : Nat} (hb : shC b = 13) (h : gI Z b 1 = nI (N 2)) (hn : N 2 ≤ 10) (hu : u < 2 ^ 31) : sX6_hasSubscriber b (nI u) Z = some (if u < N 2 then 1 else 0, Z) := by
  unfold sX6_hasSubscriber
  rw [gd_t hb, if_neg (nI_pos hu), h]
  simp only [le_nn (show N 2 < 2 ^ 31 by omega) hu]
  by_cases c : u < N 2
  · rw [if_neg (by omega), if_pos c]
  · rw [if_pos (by omega), if_neg c]
theorem c_charge {N : NN} {Z : ZZ} {W i t : Nat} (hB : rB N Z 19) (hI : iN N W) (hW : W ≤ 7000) (hi : i < N 3) (ht : shC t = 17) (hA : cA N Z t i) : sX6_chargeOf 19 t Z = some (nI (chg N i), Z) := by
  obtain ⟨⟨a0, a1, a2, a3, a4, a5⟩, am, aT, aU, aC⟩ := rB19.1 hB
  obtain ⟨b0, b1, b2, b3, b4, b5⟩ := hA
  obtain ⟨g0, g1, g2, g3, g4, g5⟩ := hI.2.2.2.2.2.1 i hi
  have h10 := hI.1.2.2.1
  have hu := (hI.2.2.2.1 (nC N i 0) g0).2
  have hp := prod_le hI hi
  unfold sX6_chargeOf
  rw [gd_t (by decide), gd_t ht, b0, p_hasSub (by decide) a2 h10 (by omega), bnd_s, if_pos g0]
  dsimp only
  rw [if_neg (by decide), b0, gd_t (vin_n (by omega) (by decide)), cl_n (by omega)]
  show sX6_chargeOf_B24 19 t (gI Z 26 (nC N i 0)) Z = _
  rw [(aU _ (by omega)).2.1]
  unfold sX6_chargeOf_B24 chg
  rw [b2, b4, ad_n1, pk_mul, nm_d]
  simp only [eq_nl (show nU N (nC N i 0) 1 < 2 ^ 31 by omega) (show 0 < 2 ^ 31 by decide), eq_nl (show nU N (nC N i 0) 1 < 2 ^ 31 by omega) (show 1 < 2 ^ 31 by decide)]
  by_cases c : nU N (nC N i 0) 1 = 0
  · rw [if_pos c, if_pos c]; rfl
  · rw [if_neg c, if_neg c]
    by_cases c2 : nU N (nC N i 0) 1 = 1
    · rw [if_pos c2, if_pos c2]
    · rw [if_neg c2, if_neg c2, ad_n1, show (2 : Int32) = nI 2 from rfl, pk_div (by omega) (by decide) (by decide)]
theorem m_charge {N : NN} {Z : ZZ} {W i : Nat} (hA : rA N Z 1) (hI : iN N W) (hW : W ≤ 7000) (hi : i < N 3) : sX8_chargeOf (nI i) Z = some (nI (chg N i), Z) := by
  obtain ⟨g0, g1, g2, g3, g4, g5⟩ := hI.2.2.2.2.2.1 i hi
  have h10 := hI.1.2.2.1
  have h5 := hI.1.2.2.2.1
  have h16 := hI.1.2.1
  have hu := (hI.2.2.2.1 (nC N i 0) g0).2
  have hp := prod_le hI hi
  unfold sX8_chargeOf
  rw [p_c_x (x := 0) hA (o := 0) (by omega) rfl, bnd_s, p_u_x (x := 1) hA (o := 1) (by omega) rfl, bnd_s, nm_d, p_c_x (x := 2) hA (o := 2) (by omega) rfl, bnd_s, m_len hA (by omega) g4 (fun j hj => by have := (g5 j hj).1; omega), bnd_s, ad_n1, pk_mul, nm_d]
  unfold chg
  simp only [eq_nl (show nU N (nC N i 0) 1 < 2 ^ 31 by omega) (show 0 < 2 ^ 31 by decide), eq_nl (show nU N (nC N i 0) 1 < 2 ^ 31 by omega) (show 1 < 2 ^ 31 by decide)]
  by_cases c : nU N (nC N i 0) 1 = 0
  · rw [if_pos c, if_pos c]; rfl
  · rw [if_neg c, if_neg c]
    by_cases c2 : nU N (nC N i 0) 1 = 1
    · rw [if_pos c2, if_pos c2]
    · rw [if_neg c2, if_neg c2, ad_n1, show (2 : Int32) = nI 2 from rfl, pk_div (by omega) (by decide) (by decide)]
def eN1 (N : NN) (i ch : Nat) : NN := sN (sN (sN (sU N (nC N i 0) 2 (nU N (nC N i 0) 2 + ch)) 5 (N 5 + ch)) 4 (N 4 + 1)) 3 (N 3 - 1)
def eSh (M : NN) (i k : Nat) : NN := fun q => if 118 + 12 * i ≤ q ∧ q < k then M (q + 12) else M q
def eZr (M : NN) (k z : Nat) : NN := fun q => if 118 + 12 * k ≤ q ∧ q < 118 + 12 * k + z then 0 else M q
def eNd (N : NN) (i ch : Nat) : NN := eZr (eSh (eN1 N i ch) i (118 + 12 * (N 3 - 1))) (N 3 - 1) 12
def ix (i k : Nat) : Nat := if k < i then k else k + 1
theorem eSh_s (M : NN) (i k : Nat) (h : 118 + 12 * i ≤ k) : sN (eSh M i k) k (M (k + 12)) = eSh M i (k + 1) := by
  funext q
  unfold sN eSh
  by_cases c : q = k
  · rw [if_pos c, if_pos (show 118 + 12 * i ≤ q ∧ q < k + 1 by omega), c]
  · rw [if_neg c]
    by_cases c2 : 118 + 12 * i ≤ q ∧ q < k
    · rw [if_pos c2, if_pos (show 118 + 12 * i ≤ q ∧ q < k + 1 by omega)]
    · rw [if_neg c2, if_neg (show ¬ (118 + 12 * i ≤ q ∧ q < k + 1) by omega)]
theorem eSh_0 (M : NN) (i : Nat) : eSh M i (118 + 12 * i) = M := by
  funext q
  unfold eSh
  rw [if_neg (by omega)]
theorem eZr_s (M : NN) (k z : Nat) : sC (eZr M k z) k z 0 = eZr M k (z + 1) := by
  funext q
  unfold sC sN eZr
  by_cases c : q = 118 + 12 * k + z
  · rw [if_pos c, if_pos (show 118 + 12 * k ≤ q ∧ q < 118 + 12 * k + (z + 1) by omega)]
  · rw [if_neg c]
    by_cases c2 : 118 + 12 * k ≤ q ∧ q < 118 + 12 * k + z
    · rw [if_pos c2, if_pos (show 118 + 12 * k ≤ q ∧ q < 118 + 12 * k + (z + 1) by omega)]
    · rw [if_neg c2, if_neg (show ¬ (118 + 12 * k ≤ q ∧ q < 118 + 12 * k + (z + 1)) by omega)]
theorem eZr_0 (M : NN) (k : Nat) : eZr M k 0 = M := by
  funext q
  unfold eZr
  rw [if_neg (by omega)]
theorem m_end_Z {M : NN} {x y : Int32} {k : Nat} (hM : M 3 = k) (hk : k ≤ 4) : ∀ (e z n : Nat) (Z : ZZ), z + e = 12 → e < n → rA (eZr M k z) Z 1 → ∃ Z', sX8_ends_L105 x n y (nI z) Z = some (y, Z') ∧ rA (eZr M k 12) Z' 1 ∧ only1 Z Z' := by
  intro e
  induction e with
  | zero =>
    intro z n Z hz hn hA
    obtain ⟨n, rfl⟩ : ∃ q, n = q + 1 := ⟨n - 1, by omega⟩
    have hz2 : z = 12 := by omega
    subst hz2
    exact ⟨Z, by rw [sX8_ends_L105, if_pos (by decide)], hA, only1_rf Z⟩
  | succ e ih =>
    intro z n Z hz hn hA
    obtain ⟨n, rfl⟩ : ∃ q, n = q + 1 := ⟨n - 1, by omega⟩
    have e3 : eZr M k z 3 = k := by
      unfold eZr
      rw [if_neg (by omega), hM]
    obtain ⟨Z1, c1, r1, o1⟩ := m_setC (v := 0) (x := nI z) (i := k) (o := z) hA (by omega) rfl
    rw [eZr_s] at r1
    obtain ⟨Z', a1, a2, a3⟩ := ih (z + 1) n Z1 (by omega) (by omega) r1
    refine ⟨Z', ?_, a2, only1_tr o1 a3⟩
    rw [sX8_ends_L105, if_neg (lge (show z < 12 by omega) (by decide)), gd_t (by decide), g3 hA, e3, show sX8_setCall (nI k) (nI z) 0 Z = some Z1 from c1, bnd_s, nm_d, ad_n1]
    exact a1
theorem a12 (x : Nat) : (118 : Int32) + 12 * nI x = nI (118 + 12 * x) := by
  rw [show (118 : Int32) = nI 118 from rfl, show (12 : Int32) = nI 12 from rfl, pk_mul, nI_add]
theorem m_end_L {M : NN} {i : Nat} {y : Int32} (h4 : M 3 ≤ 4) : ∀ (e k n : Nat) (Z : ZZ), k + e = 118 + 12 * M 3 → e < n → 118 + 12 * i ≤ k → rA (eSh M i k) Z 1 → ∃ Z', sX8_ends_L66 (nI i) n y (nI k) Z = some (y, Z') ∧ rA (eZr (eSh M i (118 + 12 * M 3)) (M 3) 12) Z' 1 ∧ only1 Z Z' := by
  intro e
  induction e with
  | zero =>
    intro k n Z hk hn hik hA
    obtain ⟨n, rfl⟩ : ∃ q, n = q + 1 := ⟨n - 1, by omega⟩
    have e3 : eSh M i k 3 = M 3 := if_neg (by omega)
    have hk2 : k = 118 + 12 * M 3 := by omega
    obtain ⟨Z', a1, a2, a3⟩ := m_end_Z (M := eSh M i (118 + 12 * M 3)) (x := nI i) (y := y) (k := M 3) (if_neg (by omega)) h4 12 0 3000 Z (by omega) (by omega) (by rw [eZr_0, ← hk2]; exact hA)
    refine ⟨Z', ?_, a2, a3⟩
    rw [sX8_ends_L66, gd_t (by decide), g3 hA, e3, a12, if_pos (nI_le (by omega) (by omega))]
    exact a1
  | succ e ih =>
    intro k n Z hk hn hik hA
    obtain ⟨n, rfl⟩ : ∃ q, n = q + 1 := ⟨n - 1, by omega⟩
    have e3 : eSh M i k 3 = M 3 := if_neg (by omega)
    have e12 : eSh M i k (k + 12) = M (k + 12) := if_neg (by omega)
    have r1 : rA (eSh M i (k + 1)) (pI Z 1 k (nI (M (k + 12)))) 1 := by
      rw [← eSh_s M i k hik]; exact rA_s hA
    obtain ⟨Z', a1, a2, a3⟩ := ih (k + 1) n _ (by omega) (by omega) (by omega) r1
    refine ⟨Z', ?_, a2, only1_tr (only1_pI _ _ _) a3⟩
    rw [sX8_ends_L66, gd_t (by decide), g3 hA, e3, a12, if_neg (nI_ge (by omega) (by omega)), show (12 : Int32) = nI 12 from rfl, nI_add, gd_t (vin_n (by omega) (by decide)), gd_t (vin_n (by omega) (by decide)), cl_n (by omega), cl_n (by omega), hA _ (by omega), e12, nm_d, nm_d, ad_n1]
    exact a1
theorem m_end {N : NN} {Z : ZZ} {W i : Nat} (hA : rA N Z 1) (hI : iN N W) (hW : W ≤ 7000) (hi : i < N 3) : ∃ Z', sX8_ends (nI i) Z = some (nI (chg N i), Z') ∧ rA (eNd N i (chg N i)) Z' 1 ∧ only1 Z Z' := by
  obtain ⟨g00, -⟩ := hI.2.2.2.2.2.1 i hi
  have h10 := hI.1.2.2.1
  have h5 := hI.1.2.2.2.1
  have v2 : (88 + (3 * nI (nC N i 0))) + 2 = nI (88 + 3 * nC N i 0 + 2) := by
    rw [show (88 : Int32) = nI 88 from rfl, show (3 : Int32) = nI 3 from rfl, show (2 : Int32) = nI 2 from rfl, pk_mul, nI_add, nI_add]
  have r1 : rA (sU N (nC N i 0) 2 (nU N (nC N i 0) 2 + chg N i)) (pI Z 1 (88 + 3 * nC N i 0 + 2) (nI (nU N (nC N i 0) 2 + chg N i))) 1 := rA_s hA
  have r2 := rA_s (k := 5) (v := N 5 + chg N i) r1
  have r3 := rA_s (k := 4) (v := N 4 + 1) r2
  have r4 : rA (eN1 N i (chg N i)) _ 1 := rA_s (k := 3) (v := N 3 - 1) r3
  have e5 : (sU N (nC N i 0) 2 (nU N (nC N i 0) 2 + chg N i)) 5 = N 5 := sU_0 (by decide)
  have e4 : (sN (sU N (nC N i 0) 2 (nU N (nC N i 0) 2 + chg N i)) 5 (N 5 + chg N i)) 4 = N 4 := by rw [sN_n (by decide), sU_0 (by decide)]
  have e3 : (sN (sN (sU N (nC N i 0) 2 (nU N (nC N i 0) 2 + chg N i)) 5 (N 5 + chg N i)) 4 (N 4 + 1)) 3 = N 3 := by rw [sN_n (by decide), sN_n (by decide), sU_0 (by decide)]
  have em : eN1 N i (chg N i) 3 = N 3 - 1 := sN_s _ _ _
  obtain ⟨Z', a1, a2, a3⟩ := m_end_L (M := eN1 N i (chg N i)) (i := i) (y := nI (chg N i)) (by omega) (12 * (N 3 - 1 - i)) (118 + 12 * i) 3000 _ (by omega) (by omega) (Nat.le_refl _) (by rw [eSh_0]; exact r4)
  rw [em] at a2
  refine ⟨Z', ?_, a2, only1_tr (only1_tr (only1_tr (only1_tr (only1_pI _ _ _) (only1_pI _ _ _)) (only1_pI _ _ _)) (only1_pI _ _ _)) a3⟩
  unfold sX8_ends
  rw [m_charge hA hI hW hi, bnd_s, nm_d, p_c_x (x := 0) hA (o := 0) (by omega) rfl, bnd_s, v2, gd_t (vin_n (by omega) (by decide)), gd_t (vin_n (by omega) (by decide)), cl_n (by omega), hA _ (by omega), show N (88 + 3 * nC N i 0 + 2) = nU N (nC N i 0) 2 from rfl, nI_add, nm_d]
  rw [gd_t (by decide), gd_t (by decide), g5 r1, e5, nI_add, show ((5 : Int32).toNatClampNeg) = 5 from by decide, nm_d]
  rw [gd_t (by decide), gd_t (by decide), g4 r2, e4, ad_n1, show ((4 : Int32).toNatClampNeg) = 4 from by decide, nm_d]
  rw [gd_t (by decide), gd_t (by decide), g3 r3, e3, show nI (N 3) - 1 = nI (N 3 - 1) from pk_sub (b := 1) (by omega), show ((3 : Int32).toNatClampNeg) = 3 from by decide, nm_d, a12, nm_d]
  exact a1
theorem en_facts {N : NN} {i ch : Nat} (hi : i < N 3) (hc : nC N i 0 < 10) :
    (∀ k o, k < N 3 - 1 → o < 12 → nC (eNd N i ch) k o = nC N (ix i k) o) ∧
    (∀ j q, j < 16 → q < 5 → nT (eNd N i ch) j q = nT N j q) ∧
    (∀ j q, j < 10 → q < 3 → nU (eNd N i ch) j q = if j = nC N i 0 ∧ q = 2 then nU N j q + ch else nU N j q) ∧
    eNd N i ch 3 = N 3 - 1 ∧ eNd N i ch 4 = N 4 + 1 ∧ eNd N i ch 5 = N 5 + ch ∧ (∀ k, k < 3 → eNd N i ch k = N k) := by
  have hM : ∀ q, 118 ≤ q → eN1 N i ch q = N q := fun q hq => by
    unfold eN1
    rw [sN_n (by omega), sN_n (by omega), sN_n (by omega)]
    exact sN_n (by omega)
  have hL : ∀ q, q < 118 → eNd N i ch q = eN1 N i ch q := fun q hq => by
    unfold eNd eZr eSh
    rw [if_neg (by omega), if_neg (by omega)]
  have hm : ∀ q, q < 118 → 5 < q → eN1 N i ch q = sU N (nC N i 0) 2 (nU N (nC N i 0) 2 + ch) q := fun q _ hq => by
    unfold eN1
    rw [sN_n (by omega), sN_n (by omega), sN_n (by omega)]
  refine ⟨fun k o hk ho => ?_, fun j q hj hq => ?_, fun j q hj hq => ?_, ?_, ?_, ?_, fun k hk => ?_⟩
  · unfold nC eNd eZr eSh ix
    rw [if_neg (by omega)]
    by_cases c : k < i
    · rw [if_neg (by omega), if_pos c, hM _ (by omega)]
    · rw [if_pos (by omega), if_neg c, hM _ (by omega)]
      congr 1
      omega
  · unfold nT
    rw [hL _ (by omega), hm _ (by omega) (by omega)]
    exact sN_n (by omega)
  · have e : nU (eNd N i ch) j q = nU (sU N (nC N i 0) 2 (nU N (nC N i 0) 2 + ch)) j q := by
      show eNd N i ch (88 + 3 * j + q) = sU N (nC N i 0) 2 (nU N (nC N i 0) 2 + ch) (88 + 3 * j + q)
      rw [hL _ (by omega), hm _ (by omega) (by omega)]
    rw [e, nU_sU (by decide) hq]
    by_cases c : j = nC N i 0 ∧ q = 2
    · rw [if_pos c, if_pos c, c.1, c.2]
    · rw [if_neg c, if_neg c]
  · rw [hL _ (by decide)]; exact sN_s _ _ _
  · rw [hL _ (by decide)]; unfold eN1; rw [sN_n (by decide)]; exact sN_s _ _ _
  · rw [hL _ (by decide)]; unfold eN1; rw [sN_n (by decide), sN_n (by decide)]; exact sN_s _ _ _
  · rw [hL _ (by omega)]; unfold eN1; rw [sN_n (by omega), sN_n (by omega), sN_n (by omega)]; exact sU_0 (by omega)
theorem sumf_del {g : Nat → Nat} {i : Nat} : ∀ n, i ≤ n → sumf (fun k => g (ix i k)) n + g i = sumf g (n + 1) := by
  intro n
  induction n with
  | zero =>
    intro h
    have : i = 0 := by omega
    subst this
    rfl
  | succ n ih =>
    intro h
    by_cases c : i = n + 1
    · rw [sumf_congr (g := g) (fun k hk => by unfold ix; rw [if_pos (by omega)]), c]
      rfl
    · have h1 := ih (by omega)
      have e : ix i n = n + 1 := by unfold ix; rw [if_neg (by omega)]
      have e2 : sumf g (n + 1 + 1) = sumf g (n + 1) + g (n + 1) := rfl
      have e3 : sumf (fun k => g (ix i k)) (n + 1) = sumf (fun k => g (ix i k)) n + g (ix i n) := rfl
      rw [e2, e3, e]; omega
theorem sumf_upd {g : Nat → Nat} {x ch : Nat} : ∀ n, x < n → sumf (fun j => if j = x then g j + ch else g j) n = sumf g n + ch := by
  intro n
  induction n with
  | zero => intro h; omega
  | succ n ih =>
    intro h
    have e : sumf (fun j => if j = x then g j + ch else g j) (n + 1) = sumf (fun j => if j = x then g j + ch else g j) n + (if n = x then g n + ch else g n) := rfl
    have e2 : sumf g (n + 1) = sumf g n + g n := rfl
    rw [e, e2]
    by_cases c : n = x
    · rw [if_pos c, sumf_congr (g := g) (fun k hk => if_neg (by omega))]; omega
    · rw [if_neg c, ih (by omega)]; omega
theorem ix_lt {i k n : Nat} (hi : i < n) (hk : k < n - 1) : ix i k < n := by
  unfold ix; split <;> omega
theorem ix_ne {i k : Nat} : ix i k ≠ i := by
  unfold ix; split <;> omega
theorem ix_inj {i k j : Nat} (h : k ≠ j) : ix i k ≠ ix i j := by
  unfold ix; split <;> split <;> omega
theorem iN_end {N : NN} {W i : Nat} (hI : iN N W) (hi : i < N 3) : iN (eNd N i (chg N i)) (W + 1) := by
  have hch := chg_le hI hi
  obtain ⟨⟨h0, h1, h2, h3, h4⟩, hT, hTz, hU, hUz, hC, hD, hS, hB⟩ := hI
  have hc10 : nC N i 0 < N 2 := (hC i hi).1
  obtain ⟨fC, fT, fU, e3, e4, e5, ek⟩ := en_facts (ch := chg N i) hi (show nC N i 0 < 10 by omega)
  have e0 := ek 0 (by decide)
  have e1 := ek 1 (by decide)
  have e2 := ek 2 (by decide)
  have hon : ∀ k, k < N 3 - 1 → onC (eNd N i (chg N i)) k = onC N (ix i k) := fun k hk => onC_of (by
    obtain ⟨-, -, -, -, g, -⟩ := hC _ (ix_lt hi hk)
    exact g) (fun o ho => fC k o hk ho)
  unfold iN
  simp only [e0, e1, e2, e3, e4, e5]
  refine ⟨⟨h0, h1, h2, by omega, by omega⟩, fun i hi => ?_, fun i i1 i2 o ho => ?_, fun i hi => ?_, fun i i1 i2 o ho => ?_, fun k hk => ?_, fun j k hj hk hjk => ?_, ?_, ?_⟩
  · rw [fT i 0 (by omega) (by decide), fT i 1 (by omega) (by decide), fT i 2 (by omega) (by decide), fT i 3 (by omega) (by decide), fT i 4 (by omega) (by decide)]
    obtain ⟨a, b, c, d, e, f, g⟩ := hT i hi
    exact ⟨a, b, c, d, e, f, by omega⟩
  · rw [fT i o i2 ho]; exact hTz i i1 i2 o ho
  · rw [fU i 0 (by omega) (by decide), fU i 1 (by omega) (by decide), if_neg (by omega), if_neg (by omega)]; exact hU i hi
  · rw [fU i o i2 ho, if_neg (by omega)]; exact hUz i i1 i2 o ho
  · obtain ⟨g0, g1, g2, g3, g4, g5⟩ := hC _ (ix_lt hi hk)
    rw [fC k 0 hk (by decide), fC k 1 hk (by decide), fC k 2 hk (by decide), fC k 3 hk (by decide)]
    refine ⟨g0, g1, g2, by omega, g4, fun j hj => ?_⟩
    rw [fC k _ hk (by omega), fT _ 3 (by have := (g5 j hj).1; omega) (by decide)]
    exact g5 j hj
  · rw [fC j 0 hj (by decide), fC j 1 hj (by decide), fC k 0 hk (by decide), fC k 1 hk (by decide), hon j hj, hon k hk]
    exact hD _ _ (ix_lt hi hj) (ix_lt hi hk) (ix_inj hjk)
  · rw [sumf_congr (g := fun j => if j = nC N i 0 then nU N j 2 + chg N i else nU N j 2) (fun j hj => by rw [fU j 2 (by omega) (by decide)]; simp), sumf_upd (g := fun j => nU N j 2) _ hc10, hS]
  · have e : sumf (fun k => 25 + 141 * nC (eNd N i (chg N i)) k 2) (N 3 - 1) = sumf (fun k => 25 + 141 * nC N (ix i k) 2) (N 3 - 1) := sumf_congr (fun k hk => by rw [fC k 2 hk (by decide)])
    have e2 : sumf (fun k => 25 + 141 * nC N (ix i k) 2) (N 3 - 1) + (25 + 141 * nC N i 2) = sumf (fun q => 25 + 141 * nC N q 2) (N 3) := by
      have := sumf_del (g := fun q => 25 + 141 * nC N q 2) (i := i) (N 3 - 1) (by omega)
      rw [show N 3 - 1 + 1 = N 3 by omega] at this
      exact this
    rw [e]
    omega
/-! the class ends a call -/
theorem p_cCopy {Z : ZZ} {t0 t1 : Nat} (h0 : shC t0 = 17) (h1 : shC t1 = 17) (hne : t1 ≠ t0) : ∃ Z', sX1_copyFrom t0 t1 Z = some Z' ∧ (∀ N k, cA N Z t1 k → nC N k 3 ≤ 7 → cA N Z' t0 k) ∧ (∀ k j, k ≠ t0 → k ≠ t0 + 1 → gI Z' k j = gI Z k j) ∧ ∀ k, gL Z' k = gL Z k := by
  have s0 := sh_X1_route h0
  have s1 := sh_X1_route h1
  have n1 : t1 + 1 ≠ t0 := fun e => by rw [e, h0] at s1; exact absurd s1 (by decide)
  have n2 : t0 + 1 ≠ t1 := fun e => by rw [e, h1] at s0; exact absurd s0 (by decide)
  refine ⟨pC (pI (pI (pI (pI (pI Z t0 0 (gI Z t1 0)) t0 1 (gI Z t1 1)) t0 2 (gI Z t1 2)) t0 3 (gI Z t1 3)) t0 4 (gI Z t1 4)) (t1 + 1) 0 (t0 + 1) 0 (imin 7 7), ?_, fun N k hA h7 => ?_, fun k j q1 q2 => ?_, fun _ => rfl⟩
  · unfold sX1_copyFrom sX7_copyRow_11_11
    simp only [nm_d, gI_pI_k _ _ _ _ hne]
    rw [gd_t h0, gd_t h1, gd_t s1, gd_t s0, gd_t (by decide), bnd_s]
  · obtain ⟨b0, b1, b2, b3, b4, b5⟩ := hA
    have hx : ∀ j, gI (pC (pI (pI (pI (pI (pI Z t0 0 (gI Z t1 0)) t0 1 (gI Z t1 1)) t0 2 (gI Z t1 2)) t0 3 (gI Z t1 3)) t0 4 (gI Z t1 4)) (t1 + 1) 0 (t0 + 1) 0 (imin 7 7)) t0 j = gI (pI (pI (pI (pI (pI Z t0 0 (gI Z t1 0)) t0 1 (gI Z t1 1)) t0 2 (gI Z t1 2)) t0 3 (gI Z t1 3)) t0 4 (gI Z t1 4)) t0 j := fun j => by
      rw [gI_pC im7, if_neg (by omega)]
    refine ⟨?_, ?_, ?_, ?_, ?_, fun j hj => ?_⟩
    · rw [hx, gI_pI_j _ _ _ _ (by decide), gI_pI_j _ _ _ _ (by decide), gI_pI_j _ _ _ _ (by decide), gI_pI_j _ _ _ _ (by decide), gI_pI_s]; exact b0
    · rw [hx, gI_pI_j _ _ _ _ (by decide), gI_pI_j _ _ _ _ (by decide), gI_pI_j _ _ _ _ (by decide), gI_pI_s]; exact b1
    · rw [hx, gI_pI_j _ _ _ _ (by decide), gI_pI_j _ _ _ _ (by decide), gI_pI_s]; exact b2
    · rw [hx, gI_pI_j _ _ _ _ (by decide), gI_pI_s]; exact b3
    · rw [hx, gI_pI_s]; exact b4
    · rw [gI_pC im7, if_pos ⟨rfl, by omega⟩, gI_pI_k _ _ _ _ n1, gI_pI_k _ _ _ _ n1, gI_pI_k _ _ _ _ n1, gI_pI_k _ _ _ _ n1, gI_pI_k _ _ _ _ n1]; exact b5 j hj
  · rw [gI_pC im7, if_neg (fun q => q2 q.1), gI_pI_k _ _ _ _ q1, gI_pI_k _ _ _ _ q1, gI_pI_k _ _ _ _ q1, gI_pI_k _ _ _ _ q1, gI_pI_k _ _ _ _ q1]
theorem c_end_L {N : NN} {i c : Nat} {y : Int32} (hc : c ≤ 4) (h7 : ∀ k, k ≤ c → nC N k 3 ≤ 7) : ∀ (e k n : Nat) (Z : ZZ), k + e = c → e < n → i ≤ k → gI Z 19 5 = nI c → (∀ j, j < k → cA N Z (29 + 2 * j) (ix i j)) → (∀ j, k ≤ j → j ≤ c → cA N Z (29 + 2 * j) j) →
    ∃ Z', sX6_endCall_L87 19 (nI i) n y (nI k) Z = some (y, Z') ∧ (∀ j, j < c → cA N Z' (29 + 2 * j) (ix i j)) ∧ (∀ k j, k < 29 ∨ 38 < k → gI Z' k j = gI Z k j) ∧ ∀ k, gL Z' k = gL Z k := by
  intro e
  induction e with
  | zero =>
    intro k n Z hk hn hik h5 hlo hhi
    obtain ⟨n, rfl⟩ : ∃ q, n = q + 1 := ⟨n - 1, by omega⟩
    refine ⟨Z, ?_, fun j hj => hlo j (by omega), fun _ _ _ => rfl, fun _ => rfl⟩
    rw [sX6_endCall_L87, h5, if_pos (nI_le (by omega) (by omega))]
  | succ e ih =>
    intro k n Z hk hn hik h5 hlo hhi
    obtain ⟨n, rfl⟩ : ∃ q, n = q + 1 := ⟨n - 1, by omega⟩
    obtain ⟨Z1, c1, cc, ck, cl⟩ := p_cCopy (Z := Z) (t0 := 29 + 2 * k) (t1 := 29 + 2 * (k + 1)) (sh29 (by omega)) (sh29 (by omega)) (by omega)
    have mv : ∀ j q, j ≠ k → cA N Z (29 + 2 * j) q → cA N Z1 (29 + 2 * j) q := fun j q hj hA => by
      obtain ⟨b0, b1, b2, b3, b4, b5⟩ := hA
      refine ⟨?_, ?_, ?_, ?_, ?_, fun x hx => ?_⟩
      · rw [ck _ _ (by omega) (by omega)]; exact b0
      · rw [ck _ _ (by omega) (by omega)]; exact b1
      · rw [ck _ _ (by omega) (by omega)]; exact b2
      · rw [ck _ _ (by omega) (by omega)]; exact b3
      · rw [ck _ _ (by omega) (by omega)]; exact b4
      · rw [ck _ _ (by omega) (by omega)]; exact b5 x hx
    obtain ⟨Z', a1, a2, a3, a4⟩ := ih (k + 1) n Z1 (by omega) (by omega) (by omega) (by rw [ck _ _ (by omega) (by omega)]; exact h5) (fun j hj => by
      by_cases q : j = k
      · subst q
        have e : ix i j = j + 1 := by unfold ix; rw [if_neg (by omega)]
        rw [e]
        exact cc N (j + 1) (hhi (j + 1) (by omega) (by omega)) (h7 _ (by omega))
      · exact mv j _ q (hlo j (by omega))) (fun j h1 h2 => mv j j (by omega) (hhi j (by omega) h2))
    refine ⟨Z', ?_, a2, fun q j hq => by rw [a3 q j hq]; exact ck q j (by omega) (by omega), fun q => (a4 q).trans (cl q)⟩
    rw [sX6_endCall_L87, h5, if_neg (nI_ge (by omega) (by omega)), gd_t (vin_n (by omega) (by decide)), ad_n1, gd_t (vin_n (by omega) (by decide)), elC19 (by omega), elC19 (by omega), c1, bnd_s, nm_d]
    exact a1
theorem c_end {N : NN} {Z : ZZ} {W i : Nat} (hB : rB N Z 19) (hI : iN N W) (hW : W ≤ 7000) (hi : i < N 3) : ∃ Z', sX6_endCall 19 (nI i) Z = some (nI (chg N i), Z') ∧ rB (eNd N i (chg N i)) Z' 19 ∧ onlyP Z Z' := by
  obtain ⟨⟨a0, a1, a2, a3, a4, a5⟩, am, aT, aU, aC⟩ := rB19.1 hB
  have hI0 := hI
  obtain ⟨⟨h0, h1, h2, h3, h4⟩, hT, hTz, hU, hUz, hC, hD, hS, hBd⟩ := hI
  obtain ⟨g00, -, -, gm, -, -⟩ := hC i hi
  have hch := chg_le hI0 hi
  obtain ⟨fC, fT, fU, e3, e4, e5, ek⟩ := en_facts (ch := chg N i) hi (show nC N i 0 < 10 by omega)
  have hcA : cA N Z (29 + 2 * i) i := aC i hi
  generalize hZ1 : pI (pI (pL (pI Z 27 (nC N i 0) (nI (nU N (nC N i 0) 2 + chg N i))) 19 (lN (N 5 + chg N i))) 19 8 (nI (N 4 + 1))) 19 5 (nI (N 3 - 1)) = Z1
  have k1 : ∀ k j, k ≠ 27 → k ≠ 19 → gI Z1 k j = gI Z k j := fun k j q1 q2 => by
    rw [← hZ1, gI_pI_k _ _ _ _ q2, gI_pI_k _ _ _ _ q2, gI_pL, gI_pI_k _ _ _ _ q1]
  have k5 : gI Z1 19 5 = nI (N 3 - 1) := by rw [← hZ1, gI_pI_s]
  have k8 : gI Z1 19 8 = nI (N 4 + 1) := by rw [← hZ1, gI_pI_j _ _ _ _ (by decide), gI_pI_s]
  have k19 : gI Z1 19 1 = gI Z 19 1 := by rw [← hZ1, gI_pI_j _ _ _ _ (by decide), gI_pI_j _ _ _ _ (by decide), gI_pL, gI_pI_k _ _ _ _ (by decide)]
  have kL : gL Z1 19 = lN (N 5 + chg N i) := by rw [← hZ1, gL_pI, gL_pI, gL_pL, if_pos rfl]
  have kL2 : ∀ k, k ≠ 19 → gL Z1 k = gL Z k := fun k hk => by rw [← hZ1, gL_pI, gL_pI, gL_pL, if_neg hk]; rfl
  have k27 : ∀ j, j < 10 → gI Z1 27 j = nI (nU (eNd N i (chg N i)) j 2) := fun j hj => by
    rw [← hZ1, gI_pI_k _ _ _ _ (by decide), gI_pI_k _ _ _ _ (by decide), gI_pL, fU j 2 hj (by decide)]
    by_cases c : j = nC N i 0
    · rw [c, gI_pI_s, if_pos ⟨rfl, rfl⟩]
    · rw [gI_pI_j _ _ _ _ c, if_neg (fun q => c q.1)]; exact (aU j hj).2.2
  obtain ⟨Z', b1, b2, b3, b4⟩ := c_end_L (N := N) (i := i) (c := N 3 - 1) (y := nI (chg N i)) (by omega) (fun k hk => by
    obtain ⟨-, -, -, -, g, -⟩ := hC k (by omega)
    exact g) (N 3 - 1 - i) i 3000 Z1 (by omega) (by omega) (Nat.le_refl _) k5 (fun j hj => by
      have := aC j (by omega)
      have e : ix i j = j := by unfold ix; rw [if_pos hj]
      rw [e]
      obtain ⟨b0, b1, b2, b3, b4, b5⟩ := this
      refine ⟨?_, ?_, ?_, ?_, ?_, fun x hx => ?_⟩
      · rw [k1 _ _ (by omega) (by omega)]; exact b0
      · rw [k1 _ _ (by omega) (by omega)]; exact b1
      · rw [k1 _ _ (by omega) (by omega)]; exact b2
      · rw [k1 _ _ (by omega) (by omega)]; exact b3
      · rw [k1 _ _ (by omega) (by omega)]; exact b4
      · rw [k1 _ _ (by omega) (by omega)]; exact b5 x hx) (fun j h1 h2 => by
      obtain ⟨b0, b1, b2, b3, b4, b5⟩ := aC j (by omega)
      refine ⟨?_, ?_, ?_, ?_, ?_, fun x hx => ?_⟩
      · rw [k1 _ _ (by omega) (by omega)]; exact b0
      · rw [k1 _ _ (by omega) (by omega)]; exact b1
      · rw [k1 _ _ (by omega) (by omega)]; exact b2
      · rw [k1 _ _ (by omega) (by omega)]; exact b3
      · rw [k1 _ _ (by omega) (by omega)]; exact b4
      · rw [k1 _ _ (by omega) (by omega)]; exact b5 x hx)
  have k2 : ∀ k j, k < 29 → k ≠ 27 → k ≠ 19 → gI Z' k j = gI Z k j := fun k j q0 q1 q2 => by
    rw [b3 k j (Or.inl q0)]; exact k1 k j q1 q2
  refine ⟨Z', ?_, rB19.2 ?_, ⟨fun k j hk => by rw [b3 k j (by omega)]; exact k1 k j (by omega) (by omega), fun k hk => (b4 k).trans (kL2 k hk)⟩⟩
  · unfold sX6_endCall
    rw [gd_t (by decide), if_neg (nI_pos (by omega)), a3, if_pos (nI_lt hi (by omega)), gd_t (vin_n (by omega) (by decide)), elC19 (by omega), c_charge hB hI0 hW hi (sh29 (by omega)) hcA, bnd_s, nm_d, gd_t (vin_n (by omega) (by decide)), hcA.1, nm_d, p_hasSub (by decide) a2 h2 (by omega), bnd_s, if_pos g00]
    dsimp only
    rw [if_neg (by decide), gd_t (vin_n (by omega) (by decide)), gd_t (vin_n (by omega) (by decide)), cl_n (by omega)]
    show nm (pI Z 27 (nC N i 0) (gI Z 27 (nC N i 0) + nI (chg N i))) _ = _
    rw [(aU _ (by omega)).2.2, nI_add, nm_d]
    unfold sX6_endCall_B53
    rw [gL_pI, a5, nI_l (by omega), lN_add, nm_d, gI_pL, gI_pI_k _ _ _ _ (by decide), a4, ad_n1, nm_d, gI_pI_j _ _ _ _ (by decide), gI_pL, gI_pI_k _ _ _ _ (by decide), a3, show nI (N 3) - 1 = nI (N 3 - 1) from pk_sub (b := 1) (by omega), nm_d, hZ1]
    exact b1
  · refine ⟨⟨?_, ?_, ?_, ?_, ?_, ?_⟩, ?_, fun j hj => ?_, fun j hj => ?_, fun j hj => ?_⟩
    · rw [k2 _ _ (by decide) (by decide) (by decide), ek 0 (by decide)]; exact a0
    · rw [k2 _ _ (by decide) (by decide) (by decide), ek 1 (by decide)]; exact a1
    · rw [b3 _ _ (by decide), k19, ek 2 (by decide)]; exact a2
    · rw [b3 _ _ (by decide), k5, e3]
    · rw [b3 _ _ (by decide), k8, e4]
    · rw [b4, kL, e5]
    · rw [k2 _ _ (by decide) (by decide) (by decide), msk_congr (q := fun i => decide (nT N i 3 = 1)) (fun i hi => by rw [fT i 3 hi (by decide)])]; exact am
    · rw [k2 _ _ (by decide) (by decide) (by decide), k2 _ _ (by decide) (by decide) (by decide), k2 _ _ (by decide) (by decide) (by decide), k2 _ _ (by decide) (by decide) (by decide), fT j 0 hj (by decide), fT j 1 hj (by decide), fT j 2 hj (by decide), fT j 4 hj (by decide)]; exact aT j hj
    · rw [k2 _ _ (by decide) (by decide) (by decide), k2 _ _ (by decide) (by decide) (by decide), b3 _ _ (by decide), k27 j hj, fU j 0 hj (by decide), fU j 1 hj (by decide), if_neg (by omega), if_neg (by omega)]
      exact ⟨(aU j hj).1, (aU j hj).2.1, rfl⟩
    · rw [e3] at hj
      obtain ⟨b0, b1, b2, b3, b4, b5⟩ := b2 j hj
      obtain ⟨-, -, -, -, g7, -⟩ := hC _ (ix_lt hi hj)
      refine ⟨?_, ?_, ?_, ?_, ?_, fun x hx => ?_⟩
      · rw [fC j _ hj (by decide)]; exact b0
      · rw [fC j _ hj (by decide)]; exact b1
      · rw [fC j _ hj (by decide)]; exact b2
      · rw [fC j _ hj (by decide)]; exact b3
      · rw [cLen_of hI0 (ix_lt hi hj) (fun o ho => fC j o hj ho) (fun x hx => fT x 2 (by omega) (by decide))]; exact b4
      · rw [fC j _ hj (by decide)] at hx
        rw [fC j _ hj (by omega)]; exact b5 x hx
