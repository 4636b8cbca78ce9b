/-! the reference's route is the class's route -/
/-- nothing but far, hops, found and the number found changed -/
def onlyF (Z Z' : ZZ) : Prop := (∀ k j, k ≠ 6 → k ≠ 7 → k ≠ 8 → (k = 0 → j ≠ 13) → gI Z' k j = gI Z k j) ∧ ∀ k, gL Z' k = gL Z k
theorem onlyF_rf (Z : ZZ) : onlyF Z Z := ⟨fun _ _ _ _ _ _ => rfl, fun _ => rfl⟩
theorem onlyF_tr {A B C : ZZ} (h1 : onlyF A B) (h2 : onlyF B C) : onlyF A C := ⟨fun k j a b c d => (h2.1 k j a b c d).trans (h1.1 k j a b c d), fun k => (h2.2 k).trans (h1.2 k)⟩
theorem onlyF_67 {A B : ZZ} (h : only67 A B) : onlyF A B := ⟨fun k j a b _ _ => h.1 k j a b, h.2⟩
theorem gI_pI_o (Z : ZZ) {q j k i : Nat} (x : Int32) (h : k = q → i ≠ j) : gI (pI Z q j x) k i = gI Z k i := by
  by_cases c : k = q
  · subst c; exact gI_pI_j _ _ _ _ (h rfl)
  · exact gI_pI_k _ _ _ _ c
theorem onlyF_8 (Z : ZZ) (j : Nat) (x : Int32) : onlyF Z (pI Z 8 j x) := ⟨fun k i _ _ c _ => gI_pI_k _ _ _ _ c, fun _ => rfl⟩
theorem onlyF_13 (Z : ZZ) (x : Int32) : onlyF Z (pI Z 0 13 x) := ⟨fun k i _ _ _ d => gI_pI_o _ _ d, fun _ => rfl⟩
theorem rA_F {N : NN} {Z Z' : ZZ} {q : Nat} (h : rA N Z q) (h0 : 0 < q) (hq : q < 6) (ho : onlyF Z Z') : rA N Z' q := fun j hj => by
  rw [ho.1 _ _ (by omega) (by omega) (by omega) (by omega)]; exact h j hj
/-- far and hops hold the distance -/
def rH (d : Nat → Nat) (Z : ZZ) : Prop := ∀ v, v < 8 → (d v < 1000000 → gI Z 6 v = nI (d v / 8) ∧ gI Z 7 v = nI (d v % 8) ∧ d v / 8 ≤ 5120) ∧ (¬ d v < 1000000 → gI Z 6 v = nI 9999)
theorem rH_o {d : Nat → Nat} {Z Z' : ZZ} (h : rH d Z) (h6 : ∀ v, gI Z' 6 v = gI Z 6 v) (h7 : ∀ v, gI Z' 7 v = gI Z 7 v) : rH d Z' := fun v hv => by
  rw [h6, h7]; exact h v hv
theorem rH_8 {d : Nat → Nat} {Z : ZZ} (h : rH d Z) (j : Nat) (x : Int32) : rH d (pI Z 8 j x) := rH_o h (fun v => gI_pI_k _ _ _ _ (by decide)) (fun v => gI_pI_k _ _ _ _ (by decide))
theorem rH_13 {d : Nat → Nat} {Z : ZZ} (h : rH d Z) (x : Int32) : rH d (pI Z 0 13 x) := rH_o h (fun v => gI_pI_k _ _ _ _ (by decide)) (fun v => gI_pI_k _ _ _ _ (by decide))
theorem p_finds_in {N : NN} {Z : ZZ} {W c g v : Nat} {d : Nat → Nat} {x1 x2 : Int32} {k28 : Int32 → ZZ → Option (Int32 × ZZ)} (hA : rA N Z 1) (hI : iN N W) (hg : g < N 0) (hc : c < N 3 ∨ 5 ≤ c) (hd : isD N (frE N c) g d) (hH : rH d Z) (hv : v < N 0) (hf : d v < 1000000) (hlt : ft N (frE N c) d v < N 1) : ∀ (e i n : Nat), i + e = ft N (frE N c) d v → e < n →
    sX8_finds_L37 x1 x2 (cI c) k28 n (nI v) (nI i) Z = sX8_finds_B120 x1 x2 (cI c) k28 (nI v) (nI (ft N (frE N c) d v)) Z := by
  have h16 := hI.1.2.1
  have h8 := hI.1.1
  have hfnd := fnd_lt (p := tB N (frE N c) d v) (n := N 1) hlt
  have step : ∀ i n, i < N 1 → sX8_finds_L37 x1 x2 (cI c) k28 (n + 1) (nI v) (nI i) Z = if tB N (frE N c) d v i = true then sX8_finds_B120 x1 x2 (cI c) k28 (nI v) (nI i) Z else sX8_finds_L37 x1 x2 (cI c) k28 n (nI v) (nI (i + 1)) Z := by
    intro i n hi
    obtain ⟨q0, q1, q2, q3, q4, -⟩ := hI.2.1 i hi
    rw [sX8_finds_L37, p_isFree hA hI hi hc, bnd_s]
    unfold tB
    cases hp : frE N c i with
    | false =>
      simp only [Bool.false_eq_true, if_false, Bool.false_and]
      rw [if_pos trivial, nm_d, ad_n1]
    | true =>
      simp only [if_true, Bool.true_and]
      rw [if_neg (by decide), p_touches hA hI hi (by omega), bnd_s]
      by_cases ht : nT N i 0 = v ∨ nT N i 1 = v
      · have ho := oth_lt (v := v) hI hi
        have he : edgeG K8 N (frE N c) v (oth N i v) (K8 (nT N i 2)) := ⟨i, hi, hp, rfl, ends_oth ht⟩
        obtain ⟨f1, -⟩ := dec8_f hI hg (isD_G hd) hf he
        obtain ⟨a1, a2, a3⟩ := (hH v (by omega)).1 hf
        obtain ⟨b1, b2, b3⟩ := (hH _ (show oth N i v < 8 by omega)).1 f1
        simp only [if_pos ht, decide_eq_true ht, Bool.true_and, decide_eq_true_eq]
        rw [if_neg (by decide), gd_t (vin_n (by omega) (by decide)), p_t2 hA (by omega), bnd_s, p_beyond hA hI hi ht, bnd_s, gd_t (vin_n (by omega) (by decide)), cl_n (by omega), cl_n (by omega), a1, b1, nI_add]
        simp only [eq_nn (show d v / 8 < 2 ^ 31 by omega) (show nT N i 2 + d (oth N i v) / 8 < 2 ^ 31 by omega)]
        by_cases c1 : d v / 8 = nT N i 2 + d (oth N i v) / 8
        · rw [if_pos c1, gd_t (vin_n (by omega) (by decide)), p_beyond hA hI hi ht, bnd_s, gd_t (vin_n (by omega) (by decide)), cl_n (by omega), a2, b2, show (1 : Int32) = nI 1 from rfl, nI_add]
          simp only [eq_nn (show d v % 8 < 2 ^ 31 by omega) (show 1 + d (oth N i v) % 8 < 2 ^ 31 by omega)]
          by_cases c2 : d v % 8 = 1 + d (oth N i v) % 8
          · rw [if_pos c2, if_pos (by omega)]
          · rw [if_neg c2, if_neg (fun q => by
              have := (dec8_t hI hg (isD_G hd) hv ho f1 q hf).2
              omega), nm_d]
            rw [nI_add]
        · rw [if_neg c1, if_neg (fun q => by
            have := (dec8_t hI hg (isD_G hd) hv ho f1 q hf).1
            omega), nm_d, ad_n1]
      · simp only [if_neg ht, decide_eq_false ht, Bool.false_and, Bool.false_eq_true, if_false]
        rw [if_pos trivial, nm_d, ad_n1]
  intro e
  induction e with
  | zero =>
    intro i n hi hn
    obtain ⟨n, rfl⟩ : ∃ q, n = q + 1 := ⟨n - 1, by omega⟩
    have hie : i = ft N (frE N c) d v := by omega
    rw [step i n (by omega), hie, if_pos (show tB N (frE N c) d v (ft N (frE N c) d v) = true from hfnd.1)]
  | succ e ih =>
    intro i n hi hn
    obtain ⟨n, rfl⟩ : ∃ q, n = q + 1 := ⟨n - 1, by omega⟩
    rw [step i n (by omega), if_neg (by rw [hfnd.2 i (by unfold ft at hi; omega)]; decide)]
    exact ih (i + 1) n (by omega) (by omega)
theorem p_finds_L {N : NN} {W c s g m : Nat} {d : Nat → Nat} {x1 : Int32} (hI : iN N W) (hg : g < N 0) (hc : c < N 3 ∨ 5 ≤ c) (hd : isD N (frE N c) g d) (hm7 : m ≤ 7) : ∀ (e k n : Nat) (Z : ZZ) (v : Nat), k + e = m → e < n → rA N Z 1 → rH d Z → rtV N (frE N c) d s k = v → v < N 0 → d v < 1000000 → d v % 8 + k = m → (∀ j, j < k → gI Z 8 j = nI (rtT N (frE N c) d s j)) → gI Z 0 13 = nI k →
    ∃ Z', sX8_finds_L28 x1 (nI g) (cI c) n (nI v) Z = some (1, Z') ∧ (∀ j, j < m → gI Z' 8 j = nI (rtT N (frE N c) d s j)) ∧ gI Z' 0 13 = nI m ∧ onlyF Z Z' ∧ rH d Z' := by
  have h16 := hI.1.2.1
  have h8 := hI.1.1
  intro e
  induction e with
  | zero =>
    intro k n Z v hk hn hA hH hrv hv hf hd8 hrt hcn
    obtain ⟨n, rfl⟩ : ∃ q, n = q + 1 := ⟨n - 1, by omega⟩
    have hkm : k = m := by omega
    subst hkm
    have hvg : v = g := (dec8 hI hg (isD_G hd) _ v hv hf (Nat.le_refl _)).2.2 (by omega)
    subst hvg
    exact ⟨Z, by rw [sX8_finds_L28, if_pos rfl], hrt, hcn, onlyF_rf Z, hH⟩
  | succ e ih =>
    intro k n Z v hk hn hA hH hrv hv hf hd8 hrt hcn
    obtain ⟨n, rfl⟩ : ∃ q, n = q + 1 := ⟨n - 1, by omega⟩
    have hvg : v ≠ g := by
      intro q
      subst q
      rw [hd.1] at hd8; omega
    obtain ⟨f1, f2, f3, f4⟩ := ft_lt hI hd (by omega) hf hvg
    obtain ⟨s1, s2, s3, s4⟩ := rt_step hI hg hd hv hf hvg
    have o1 : onlyF Z (pI (pI Z 8 k (nI (ft N (frE N c) d v))) 0 13 (nI (k + 1))) := onlyF_tr (onlyF_8 _ _ _) (onlyF_13 _ _)
    have hA1 := rA_F hA (by omega) (by omega) o1
    obtain ⟨Z', a1, a2, a3, a4, a5⟩ := ih (k + 1) n _ (oth N (ft N (frE N c) d v) v) (by omega) (by omega) hA1 (rH_13 (rH_8 hH _ _) _) (by rw [rtV, hrv]) s1 s2 (by omega) (fun j hj => by
      rw [gI_pI_k _ _ _ _ (by decide)]
      by_cases q : j = k
      · subst q
        rw [gI_pI_s]; unfold rtT; rw [hrv]
      · rw [gI_pI_j _ _ _ _ q]; exact hrt j (by omega)) (gI_pI_s _ _ _ _)
    refine ⟨Z', ?_, a2, a3, onlyF_tr o1 a4, a5⟩
    rw [sX8_finds_L28, if_neg (by rw [eq_nn (by omega) (by omega)]; exact hvg)]
    show sX8_finds_L37 x1 (nI g) (cI c) _ 3000 (nI v) (nI 0) Z = _
    rw [p_finds_in hA hI hg hc hd hH hv hf f1 (ft N (frE N c) d v) 0 3000 (by omega) (by omega)]
    unfold sX8_finds_B120
    rw [hcn, gd_t (vin_n (by omega) (by decide)), nm_d, cl_n (by omega), gI_pI_k _ _ _ _ (by decide), hcn, ad_n1, nm_d, p_beyond hA1 hI f1 (ends_is hI f1 f3).1, bnd_s, nm_d]
    exact a1
theorem p_finds {N : NN} {Z : ZZ} {W c s g : Nat} {d : Nat → Nat} (hA : rA N Z 1) (hI : iN N W) (hs : s < N 0) (hg : g < N 0) (hc : c < N 3 ∨ 5 ≤ c) (hd : isD N (frE N c) g d) :
    ∃ Z', sX8_finds (nI s) (nI g) (cI c) Z = some (if d s < 1000000 then 1 else 0, Z') ∧ onlyF Z Z' ∧ rH d Z' ∧
      (d s < 1000000 → gI Z' 0 13 = nI (d s % 8) ∧ ∀ j, j < d s % 8 → gI Z' 8 j = nI (rtT N (frE N c) d s j)) := by
  have h8 := hI.1.1
  obtain ⟨Z1, m1, m2, m3⟩ := p_measures hA hI hg hc hd
  have hH : rH d (pI Z1 0 13 0) := rH_13 m3 _
  have o1 : onlyF Z (pI Z1 0 13 0) := onlyF_tr (onlyF_67 m2) (onlyF_13 _ _)
  unfold sX8_finds
  rw [m1, bnd_s, nm_d, gd_t (vin_n (by omega) (by decide)), cl_n (by omega)]
  by_cases c1 : d s < 1000000
  · obtain ⟨a1, a2, a3⟩ := (hH s (by omega)).1 c1
    obtain ⟨Z', b1, b2, b3, b4, b5⟩ := p_finds_L (x1 := nI s) (s := s) (m := d s % 8) hI hg hc hd (by omega) (d s % 8) 0 3000 (pI Z1 0 13 0) s (by omega) (by omega) (rA_F hA (by omega) (by omega) o1) hH rfl hs c1 (by omega) (fun j hj => by omega) (gI_pI_s _ _ _ _)
    refine ⟨Z', ?_, onlyF_tr o1 b4, b5, fun _ => ⟨b3, b2⟩⟩
    rw [a1]
    show (if nI (d s / 8) = nI 9999 then _ else _) = _
    rw [if_neg (by rw [eq_nn (by omega) (by omega)]; omega), if_pos c1]
    exact b1
  · refine ⟨pI Z1 0 13 0, ?_, o1, hH, fun q => absurd q c1⟩
    rw [(hH s (by omega)).2 c1, if_pos (by decide), if_neg c1]
