theorem wf_1401 : Cond.methodLink "Switchboard" 403 ⟨"java/lang/StringBuilder", "charAt", "(I)C"⟩ ∈ WT := wt_of (i := 1401) (by decide +kernel) rfl
/-! the class's line: writeCalls, charAt, and what is refused -/
theorem ar_C16 {dA : Nat → ClassId} {a : Nat → Nat} {t : Nat} (h : shC t = 16) (z : Nat → Int32) (l9 : Int64) : cellC dA a t z l9 = .inl (dA 2, 5, .inr (.inr (.inr (.inr (fun i => some (a (t + 1 + 2 * i))))))) := by unfold cellC; generalize shC t = q at h; subst h; rfl
abbrev rmL2 : Room := ({ frames := 10, cells := 40, slots := 6400, locals := 300 } : Room)
set_option maxHeartbeats 4000000 in
set_option maxRecDepth 100000 in
theorem kL_wc {l : Launch} {D : va_G} {dA : Nat → ClassId} {sa : String → Nat → Nat} (hl : l.stackTraces = false) {a : Nat → Nat} {N : NN} {W : Nat} {Z : ZZ} {lw : LW} {v cap : Nat} {f : Nat → Int32} {ml : Int32} (hW : W ≤ 7000) (hB : rB N Z 19) (hI : iN N W) (h1 : lw.1 ≤ cap) (h2 : cap ≤ 160) (hf : okb f) (ht : ∀ j, j < lw.1 → f j = nI (lw.2 j)) : CPi l D dA sa yX7_writeCalls (wz yX7_writeCalls cX7_writeCalls 3 (some .int)) rmL2 [.ref (a 0)] (cwC dA a Z ++ sbW dA (a 300) v cap f lw.1 ml) (fun r w => r = nI (txC N lw.2 (N 3)).1 ∧ ∃ ws, sbT dA (a 300) (txC N lw.2 (N 3)) ws ∧ w = cwC dA a Z ++ ws) := by
  refine xm_pi hl (by decide +kernel) (Nat.le_of_ble_eq_true rfl) rfl ?_
  intro p e s m args below meth c A Q hC hR
  show xv p l e rmL2 s m args below meth c D A 3 Q (cwC dA a Z ++ sbW dA (a 300) v cap f lw.1 ml) 0 0 0 [(0, .ref (a 0))] []
  have h5 := hI.1.2.2.2.1
  have h10 := hI.1.2.2.1
  have bc := (rB19.1 hB).1.2.2.2.1
  refine xv_aload_n (pc := 0) hC dX7_writeCalls_0 0 rfl rfl ?_
  refine xv_g7 (pc := 1) (q0 := 0) (b := a (0)) (fs := fsX7 a 0 (Z.1 0) (Z.2 0)) hC dX7_writeCalls_1 (cw_at (by omega) (ob_X7 (rfl : shC 0 = 1) _ _)) 7 (by decide) wf_317 rfl ?_
  refine xv_iconst (v := 0) (pc := 4) hC dX7_writeCalls_4 (by decide) ?_
  refine xv_callVpv (As := [.int (0)]) (pc := 5) (pre := cwC dA a Z) (post := []) (w0 := (sbW dA (a 300) v cap f lw.1 ml)) hC (kS_bsl hl h1 h2 hf ht) fV_J4_setLength_d00df wf_485 ⟨0, 9, _, _, _, rfl, rfl⟩ rfl ⟨(Nat.le_of_ble_eq_true rfl), (Nat.le_of_ble_eq_true rfl)⟩ rfl (Nat.le_of_ble_eq_true rfl) dX7_writeCalls_5 ⟨(Nat.le_of_ble_eq_true rfl), (Nat.le_of_ble_eq_true rfl)⟩ (by rw [List.append_nil]) (fun w1 h9 => ?_)
  obtain ⟨v_9, cap_9, f_9, ml_9, rfl, hA_9, hB_9, hC_9, hD_9⟩ := h9
  rw [List.append_nil]
  refine xv_iconst (v := 0) (pc := 8) hC dX7_writeCalls_8 (by decide) ?_
  refine xv_istore_n (pc := 9) (lv' := [(1, .int (nI 0)), (0, .ref (a 0))]) hC dX7_writeCalls_9 rfl (by decide) rfl ?_
  suffices loop : ∀ (e9 k9 vX capX : Nat) (fX : Nat → Int32) (mlX : Int32) (cells slots : Nat), k9 + e9 = N 3 → cells ≤ 1 + 6 * k9 → slots ≤ 160 + 960 * k9 → (txC N lw.2 k9).1 ≤ capX → capX ≤ 160 → okb fX → (∀ j, j < (txC N lw.2 k9).1 → fX j = nI ((txC N lw.2 k9).2 j)) → xv p l e rmL2 s m args below meth c D A 3 Q (cwC dA a Z ++ sbW dA (a 300) vX capX fX (txC N lw.2 k9).1 mlX) cells slots 10 [(1, .int (nI k9)), (0, .ref (a 0))] [] from loop (N 3) 0 _ _ _ _ _ _ (by omega) (Nat.le_of_ble_eq_true rfl) (Nat.le_of_ble_eq_true rfl) hA_9 hB_9 hC_9 hD_9
  intro e9
  induction e9 with
  | zero =>
    intro k9 vX capX fX mlX cells slots hk hc9 hs9 g1 g2 g3 g4
    obtain rfl : k9 = N 3 := by omega
    refine xv_iload_n (pc := 10) hC dX7_writeCalls_10 0 rfl rfl ?_
    refine xv_aload_n (pc := 11) hC dX7_writeCalls_11 1 rfl rfl ?_
    refine xv_g7 (pc := 12) (q0 := 0) (b := a (0)) (fs := fsX7 a 0 (Z.1 0) (Z.2 0)) hC dX7_writeCalls_12 (cw_at (by omega) (ob_X7 (rfl : shC 0 = 1) _ _)) 0 (by decide) wf_310 rfl ?_
    refine xv_g6 (pc := 15) (q0 := 19) (b := a (19)) (fs := fsX6 a 19 (Z.1 19) (Z.2 19)) hC dX7_writeCalls_15 (cw_at (by omega) (ob_X6 (rfl : shC 19 = 13) _ _)) 5 (by decide) wf_136 rfl ?_
    rw [show (Z.1 19 5 : Int32) = nI (N 3) from bc]
    refine xv_icmp_ge (tgt := 87) (pc := 18) hC dX7_writeCalls_18 (by decide) (fun _ => ?_) (fun c9 => absurd (nI_le (Nat.le_refl (N 3)) (show N 3 < 2 ^ 31 by omega)) c9)
    refine xv_aload_n (pc := 87) hC dX7_writeCalls_87 1 rfl rfl ?_
    refine xv_g7 (pc := 88) (q0 := 0) (b := a (0)) (fs := fsX7 a 0 (Z.1 0) (Z.2 0)) hC dX7_writeCalls_88 (cw_at (by omega) (ob_X7 (rfl : shC 0 = 1) _ _)) 7 (by decide) wf_317 rfl ?_
    refine xv_callVi (As := []) (pc := 91) (pre := cwC dA a Z) (post := []) (w0 := sbW dA (a 300) vX capX fX (txC N lw.2 (N 3)).1 mlX) (w1 := sbW dA (a 300) vX capX fX (txC N lw.2 (N 3)).1 mlX) hC (kS_ble hl) fV_J4_length_8abf5 wf_853 ⟨0, 9, _, _, _, rfl, rfl⟩ rfl ⟨(Nat.le_of_ble_eq_true rfl), (Nat.le_of_ble_eq_true rfl)⟩ rfl (Nat.le_of_ble_eq_true rfl) dX7_writeCalls_91 ⟨by show cells + 0 ≤ 40; omega, by show slots + 0 ≤ 6400; omega⟩ (by rw [List.append_nil]) rfl ?_
    rw [List.append_nil]
    exact hR _ _ _ _ _ _ ⟨rfl, _, ⟨vX, capX, fX, mlX, rfl, g1, g2, g3, g4⟩, rfl⟩ (by show cells + 0 ≤ 40; omega) (by show slots + 0 ≤ 6400; omega) dX7_writeCalls_94
  | succ e9 ih =>
    intro k9 vX capX fX mlX cells slots hk hc9 hs9 g1 g2 g3 g4
    obtain ⟨q0, q1, -, q2, -⟩ := hI.2.2.2.2.2.1 k9 (by omega)
    obtain ⟨b0, b1, b2, -⟩ := (rB19.1 hB).2.2.2.2 k9 (by omega)
    have sh9 : shC (29 + 2 * k9) = 17 := shC_call (b := 19) rfl (by omega)
    have hxl := txC_l hI lw.2 k9 (by omega)
    have l0 := dl_1 (show nC N k9 0 < 10 by omega)
    have l1 := dl_1 (show nC N k9 1 < 10 by omega)
    have l2 := (dl_b (nC N k9 2)).2
    have body : ∀ (LY : LW) (vX capX : Nat) (fX : Nat → Int32) (mlX : Int32) (cells slots : Nat), LY = (if k9 = 0 then txC N lw.2 k9 else psh (txC N lw.2 k9) 32) → cells ≤ 2 + 6 * k9 → slots ≤ 320 + 960 * k9 → LY.1 ≤ capX → capX ≤ 160 → okb fX → (∀ j, j < LY.1 → fX j = nI (LY.2 j)) → xv p l e rmL2 s m args below meth c D A 3 Q (cwC dA a Z ++ sbW dA (a 300) vX capX fX LY.1 mlX) cells slots 35 [(1, .int (nI k9)), (0, .ref (a 0))] [] := by
      intro LY vX capX fX mlX cells slots hLY hc9 hs9 g1 g2 g3 g4
      have hly : LY.1 ≤ 12 * k9 + 1 := by
        rw [hLY]
        split
        · omega
        · rw [psh_1]; omega
      refine xv_aload_n (pc := 35) hC dX7_writeCalls_35 1 rfl rfl ?_
      refine xv_g7 (pc := 36) (q0 := 0) (b := a (0)) (fs := fsX7 a 0 (Z.1 0) (Z.2 0)) hC dX7_writeCalls_36 (cw_at (by omega) (ob_X7 (rfl : shC 0 = 1) _ _)) 0 (by decide) wf_310 rfl ?_
      refine xv_g6 (pc := 39) (q0 := 19) (b := a (19)) (fs := fsX6 a 19 (Z.1 19) (Z.2 19)) hC dX7_writeCalls_39 (cw_at (by omega) (ob_X6 (rfl : shC 19 = 13) _ _)) 6 (by decide) wf_138 rfl ?_
      refine xv_iload_n (pc := 42) hC dX7_writeCalls_42 0 rfl rfl ?_
      refine xv_aald (pc := 43) (q0 := 28) (t0 := 2) (n := 5) (y := a (29 + 2 * k9)) (Cn := "Switchboard$Call") hC dX7_writeCalls_43 rfl (cw_at (by omega) (ar_C16 (rfl : shC 28 = 16) _ _)) (vin_n (by omega) (by decide)) (by rw [cl_n (by omega)]) ?_
      refine xv_astore_n (pc := 44) (lv' := [(2, .ref (a (29 + 2 * k9))), (1, .int (nI k9)), (0, .ref (a 0))]) hC dX7_writeCalls_44 rfl (by decide) rfl ?_
      refine xv_aload_n (pc := 45) hC dX7_writeCalls_45 2 rfl rfl ?_
      refine xv_g7 (pc := 46) (q0 := 0) (b := a (0)) (fs := fsX7 a 0 (Z.1 0) (Z.2 0)) hC dX7_writeCalls_46 (cw_at (by omega) (ob_X7 (rfl : shC 0 = 1) _ _)) 7 (by decide) wf_317 rfl ?_
      refine xv_aload_n (pc := 49) hC dX7_writeCalls_49 0 rfl rfl ?_
      refine xv_g1 (pc := 50) (q0 := 29 + 2 * k9) (b := a (29 + 2 * k9)) (fs := fsX1 a (29 + 2 * k9) (Z.1 (29 + 2 * k9)) (Z.2 (29 + 2 * k9))) hC dX7_writeCalls_50 (cw_at (by omega) (ob_X1 sh9 _ _)) 0 (by decide) wf_98 rfl ?_
      rw [show (Z.1 (29 + 2 * k9) 0 : Int32) = nI (nC N k9 0) from b0]
      have n1 : (pnum LY (nC N k9 0)).1 = LY.1 + 1 := by rw [pnum_1, l0]
      have n2 : (psh (pnum LY (nC N k9 0)) 62).1 = LY.1 + 2 := by rw [psh_1, n1]
      have n3 : (pnum (psh (pnum LY (nC N k9 0)) 62) (nC N k9 1)).1 = LY.1 + 3 := by rw [pnum_1, l1, n2]
      have n4 : (psh (pnum (psh (pnum LY (nC N k9 0)) 62) (nC N k9 1)) 58).1 = LY.1 + 4 := by rw [psh_1, n3]
      refine xv_callVpr (As := [.int (nI (nC N k9 0))]) (pc := 53) (pre := cwC dA a Z) (post := []) (w0 := (sbW dA (a 300) vX capX fX LY.1 mlX)) hC (kS_bpi hl g1 g2 g3 g4 (by omega) (by omega)) fV_J4_append_bf812 wf_852 ⟨0, 9, _, _, _, rfl, rfl⟩ rfl ⟨(Nat.le_of_ble_eq_true rfl), (Nat.le_of_ble_eq_true rfl)⟩ rfl (Nat.le_of_ble_eq_true rfl) dX7_writeCalls_53 ⟨by dsimp only [rmS7, rmL2]; omega, by dsimp only [rmS7, rmL2]; omega⟩ (by rw [List.append_nil]) (fun w1 a9 h9 => ?_)
      obtain ⟨rfl, v_10, cap_10, f_10, ml_10, rfl, hA_10, hB_10, hC_10, hD_10⟩ := h9
      rw [List.append_nil]
      refine xv_bipush (v := 62) (pc := 56) hC dX7_writeCalls_56 (by decide) ?_
      refine xv_callVpr (As := [.int (nI 62)]) (pc := 58) (pre := cwC dA a Z) (post := []) (w0 := (sbW dA (a 300) v_10 cap_10 f_10 (pnum LY (nC N k9 0)).1 ml_10)) hC (kS_bpc hl hA_10 hB_10 hC_10 hD_10 (by omega) (by rw [n1]; omega)) fV_J4_append_cf468 wf_830 ⟨0, 9, _, _, _, rfl, rfl⟩ rfl ⟨(Nat.le_of_ble_eq_true rfl), (Nat.le_of_ble_eq_true rfl)⟩ rfl (Nat.le_of_ble_eq_true rfl) dX7_writeCalls_58 ⟨by dsimp only [rmS7, rmL2]; omega, by dsimp only [rmS7, rmL2]; omega⟩ (by rw [List.append_nil]) (fun w1 a9 h9 => ?_)
      obtain ⟨rfl, v_11, cap_11, f_11, ml_11, rfl, hA_11, hB_11, hC_11, hD_11⟩ := h9
      rw [List.append_nil]
      refine xv_aload_n (pc := 61) hC dX7_writeCalls_61 0 rfl rfl ?_
      refine xv_g1 (pc := 62) (q0 := 29 + 2 * k9) (b := a (29 + 2 * k9)) (fs := fsX1 a (29 + 2 * k9) (Z.1 (29 + 2 * k9)) (Z.2 (29 + 2 * k9))) hC dX7_writeCalls_62 (cw_at (by omega) (ob_X1 sh9 _ _)) 1 (by decide) wf_101 rfl ?_
      rw [show (Z.1 (29 + 2 * k9) 1 : Int32) = nI (nC N k9 1) from b1]
      refine xv_callVpr (As := [.int (nI (nC N k9 1))]) (pc := 65) (pre := cwC dA a Z) (post := []) (w0 := (sbW dA (a 300) v_11 cap_11 f_11 (psh (pnum LY (nC N k9 0)) 62).1 ml_11)) hC (kS_bpi hl hA_11 hB_11 hC_11 hD_11 (by omega) (by rw [n2]; omega)) fV_J4_append_bf812 wf_852 ⟨0, 9, _, _, _, rfl, rfl⟩ rfl ⟨(Nat.le_of_ble_eq_true rfl), (Nat.le_of_ble_eq_true rfl)⟩ rfl (Nat.le_of_ble_eq_true rfl) dX7_writeCalls_65 ⟨by dsimp only [rmS7, rmL2]; omega, by dsimp only [rmS7, rmL2]; omega⟩ (by rw [List.append_nil]) (fun w1 a9 h9 => ?_)
      obtain ⟨rfl, v_12, cap_12, f_12, ml_12, rfl, hA_12, hB_12, hC_12, hD_12⟩ := h9
      rw [List.append_nil]
      refine xv_bipush (v := 58) (pc := 68) hC dX7_writeCalls_68 (by decide) ?_
      refine xv_callVpr (As := [.int (nI 58)]) (pc := 70) (pre := cwC dA a Z) (post := []) (w0 := (sbW dA (a 300) v_12 cap_12 f_12 (pnum (psh (pnum LY (nC N k9 0)) 62) (nC N k9 1)).1 ml_12)) hC (kS_bpc hl hA_12 hB_12 hC_12 hD_12 (by omega) (by rw [n3]; omega)) fV_J4_append_cf468 wf_830 ⟨0, 9, _, _, _, rfl, rfl⟩ rfl ⟨(Nat.le_of_ble_eq_true rfl), (Nat.le_of_ble_eq_true rfl)⟩ rfl (Nat.le_of_ble_eq_true rfl) dX7_writeCalls_70 ⟨by dsimp only [rmS7, rmL2]; omega, by dsimp only [rmS7, rmL2]; omega⟩ (by rw [List.append_nil]) (fun w1 a9 h9 => ?_)
      obtain ⟨rfl, v_13, cap_13, f_13, ml_13, rfl, hA_13, hB_13, hC_13, hD_13⟩ := h9
      rw [List.append_nil]
      refine xv_aload_n (pc := 73) hC dX7_writeCalls_73 0 rfl rfl ?_
      refine xv_g1 (pc := 74) (q0 := 29 + 2 * k9) (b := a (29 + 2 * k9)) (fs := fsX1 a (29 + 2 * k9) (Z.1 (29 + 2 * k9)) (Z.2 (29 + 2 * k9))) hC dX7_writeCalls_74 (cw_at (by omega) (ob_X1 sh9 _ _)) 2 (by decide) wf_104 rfl ?_
      rw [show (Z.1 (29 + 2 * k9) 2 : Int32) = nI (nC N k9 2) from b2]
      refine xv_callVpr (As := [.int (nI (nC N k9 2))]) (pc := 77) (pre := cwC dA a Z) (post := []) (w0 := (sbW dA (a 300) v_13 cap_13 f_13 (psh (pnum (psh (pnum LY (nC N k9 0)) 62) (nC N k9 1)) 58).1 ml_13)) hC (kS_bpi hl hA_13 hB_13 hC_13 hD_13 (by omega) (by rw [n4]; omega)) fV_J4_append_bf812 wf_852 ⟨0, 9, _, _, _, rfl, rfl⟩ rfl ⟨(Nat.le_of_ble_eq_true rfl), (Nat.le_of_ble_eq_true rfl)⟩ rfl (Nat.le_of_ble_eq_true rfl) dX7_writeCalls_77 ⟨by dsimp only [rmS7, rmL2]; omega, by dsimp only [rmS7, rmL2]; omega⟩ (by rw [List.append_nil]) (fun w1 a9 h9 => ?_)
      obtain ⟨rfl, v_14, cap_14, f_14, ml_14, rfl, hA_14, hB_14, hC_14, hD_14⟩ := h9
      rw [List.append_nil]
      refine xv_pop (pc := 80) hC dX7_writeCalls_80 rfl ?_
      refine xv_iinc (pc := 81) (v := nI (k9 + 1)) (lv' := [(1, .int (nI (k9 + 1))), (2, .ref (a (29 + 2 * k9))), (0, .ref (a 0))]) hC dX7_writeCalls_81 1 rfl (nI_1 k9) (by decide) rfl ?_
      refine xv_goto (tgt := 10) (pc := 84) hC dX7_writeCalls_84 (by decide) ?_
      refine xv_sub [0, 2] (lv' := [(1, .int (nI (k9 + 1))), (0, .ref (a 0))]) rfl ?_
      have hE : (pnum (psh (pnum (psh (pnum LY (nC N k9 0)) 62) (nC N k9 1)) 58) (nC N k9 2)) = txC N lw.2 (k9 + 1) := by unfold txC; rw [← hLY]
      rw [hE] at hA_14 hD_14 ⊢
      exact ih (k9 + 1) _ _ _ _ _ _ (by omega) (by dsimp only [rmS7]; omega) (by dsimp only [rmS7]; omega) hA_14 hB_14 hC_14 hD_14
    refine xv_iload_n (pc := 10) hC dX7_writeCalls_10 0 rfl rfl ?_
    refine xv_aload_n (pc := 11) hC dX7_writeCalls_11 1 rfl rfl ?_
    refine xv_g7 (pc := 12) (q0 := 0) (b := a (0)) (fs := fsX7 a 0 (Z.1 0) (Z.2 0)) hC dX7_writeCalls_12 (cw_at (by omega) (ob_X7 (rfl : shC 0 = 1) _ _)) 0 (by decide) wf_310 rfl ?_
    refine xv_g6 (pc := 15) (q0 := 19) (b := a (19)) (fs := fsX6 a 19 (Z.1 19) (Z.2 19)) hC dX7_writeCalls_15 (cw_at (by omega) (ob_X6 (rfl : shC 19 = 13) _ _)) 5 (by decide) wf_136 rfl ?_
    rw [show (Z.1 19 5 : Int32) = nI (N 3) from bc]
    refine xv_icmp_ge (tgt := 87) (pc := 18) hC dX7_writeCalls_18 (by decide) (fun c9 => absurd c9 (nI_ge (show k9 < N 3 by omega) (show N 3 < 2 ^ 31 by omega))) (fun _ => ?_)
    refine xv_iload_n (pc := 21) hC dX7_writeCalls_21 0 rfl rfl ?_
    by_cases c0 : k9 = 0
    · refine xv_if_le (tgt := 35) (pc := 22) hC dX7_writeCalls_22 (by decide) (fun _ => ?_) (fun c9 => absurd (show nI k9 ≤ 0 by rw [c0]; decide) c9)
      exact body _ _ _ _ _ _ _ (by rw [if_pos c0]) (by omega) (by omega) g1 g2 g3 g4
    · refine xv_if_le (tgt := 35) (pc := 22) hC dX7_writeCalls_22 (by decide) (fun c9 => absurd c9 (nI_nle (show 0 < k9 by omega) (by omega))) (fun _ => ?_)
      refine xv_aload_n (pc := 25) hC dX7_writeCalls_25 1 rfl rfl ?_
      refine xv_g7 (pc := 26) (q0 := 0) (b := a (0)) (fs := fsX7 a 0 (Z.1 0) (Z.2 0)) hC dX7_writeCalls_26 (cw_at (by omega) (ob_X7 (rfl : shC 0 = 1) _ _)) 7 (by decide) wf_317 rfl ?_
      refine xv_bipush (v := 32) (pc := 29) hC dX7_writeCalls_29 (by decide) ?_
      refine xv_callVpr (As := [.int (nI 32)]) (pc := 31) (pre := cwC dA a Z) (post := []) (w0 := (sbW dA (a 300) vX capX fX (txC N lw.2 k9).1 mlX)) hC (kS_bpc hl g1 g2 g3 g4 (by omega) (by omega)) fV_J4_append_cf468 wf_830 ⟨0, 9, _, _, _, rfl, rfl⟩ rfl ⟨(Nat.le_of_ble_eq_true rfl), (Nat.le_of_ble_eq_true rfl)⟩ rfl (Nat.le_of_ble_eq_true rfl) dX7_writeCalls_31 ⟨by dsimp only [rmS7, rmL2]; omega, by dsimp only [rmS7, rmL2]; omega⟩ (by rw [List.append_nil]) (fun w1 a9 h9 => ?_)
      obtain ⟨rfl, v_15, cap_15, f_15, ml_15, rfl, hA_15, hB_15, hC_15, hD_15⟩ := h9
      rw [List.append_nil]
      refine xv_pop (pc := 34) hC dX7_writeCalls_34 rfl ?_
      exact body _ _ _ _ _ _ _ (by rw [if_neg c0]) (by dsimp only [rmS7]; omega) (by dsimp only [rmS7]; omega) hA_15 hB_15 hC_15 hD_15
abbrev rmL3 : Room := ({ frames := 10, cells := 2, slots := 12, locals := 300 } : Room)
set_option maxHeartbeats 4000000 in
set_option maxRecDepth 100000 in
theorem kL_ch_t {l : Launch} {D : va_G} {dA : Nat → ClassId} {sa : String → Nat → Nat} (hl : l.stackTraces = false) {a : Nat → Nat} {Z : ZZ} {v cap n : Nat} {f : Nat → Int32} {ml : Int32} {i9 t9 : Nat} (h1 : i9 < n) (h2 : n ≤ cap) (h3 : cap ≤ 160) (h4 : f i9 = nI t9) (h5 : t9 < 128) : CXi l D dA sa yX7_charAt (wz yX7_charAt cX7_charAt 2 (some .char)) rmL3 [.ref (a 0), .int (nI i9)] (cwC dA a Z ++ sbW dA (a 300) v cap f n ml) (.inr (nI t9)) (cwC dA a Z ++ sbW dA (a 300) v cap f n ml) := by
  refine xm_xz hl (by decide +kernel) (Nat.le_of_ble_eq_true rfl) rfl ?_
  intro p e s m args below meth c A Q hC hR hT hTw hTq hTqw hO
  show xv p l e rmL3 s m args below meth c D A 2 Q (cwC dA a Z ++ sbW dA (a 300) v cap f n ml) 0 0 0 [(0, .ref (a 0)), (1, .int (nI i9))] []
  refine xv_iload_n (pc := 0) hC dX7_charAt_0 1 rfl rfl ?_
  refine xv_if_lt (tgt := 15) (pc := 1) hC dX7_charAt_1 (by decide) (fun c9 => absurd c9 (nI_pos (show i9 < 2 ^ 31 by omega))) (fun _ => ?_)
  refine xv_iload_n (pc := 4) hC dX7_charAt_4 1 rfl rfl ?_
  refine xv_aload_n (pc := 5) hC dX7_charAt_5 0 rfl rfl ?_
  refine xv_g7 (pc := 6) (q0 := 0) (b := a (0)) (fs := fsX7 a 0 (Z.1 0) (Z.2 0)) hC dX7_charAt_6 (cw_at (by omega) (ob_X7 (rfl : shC 0 = 1) _ _)) 7 (by decide) wf_317 rfl ?_
  refine xv_callVi (As := []) (pc := 9) (pre := cwC dA a Z) (post := []) (w0 := sbW dA (a 300) v cap f n ml) (w1 := sbW dA (a 300) v cap f n ml) hC (kS_ble hl) fV_J4_length_8abf5 wf_853 ⟨0, 9, _, _, _, rfl, rfl⟩ rfl ⟨(Nat.le_of_ble_eq_true rfl), (Nat.le_of_ble_eq_true rfl)⟩ rfl (Nat.le_of_ble_eq_true rfl) dX7_charAt_9 ⟨(Nat.le_of_ble_eq_true rfl), (Nat.le_of_ble_eq_true rfl)⟩ (by rw [List.append_nil]) rfl ?_
  rw [List.append_nil]
  refine xv_icmp_lt (tgt := 26) (pc := 12) hC dX7_charAt_12 (by decide) (fun _ => ?_) (fun c9 => absurd (nI_lt h1 (show n < 2 ^ 31 by omega)) c9)
  refine xv_aload_n (pc := 26) hC dX7_charAt_26 0 rfl rfl ?_
  refine xv_g7 (pc := 27) (q0 := 0) (b := a (0)) (fs := fsX7 a 0 (Z.1 0) (Z.2 0)) hC dX7_charAt_27 (cw_at (by omega) (ob_X7 (rfl : shC 0 = 1) _ _)) 7 (by decide) wf_317 rfl ?_
  refine xv_iload_n (pc := 30) hC dX7_charAt_30 1 rfl rfl ?_
  refine xv_callVi (As := [.int (nI i9)]) (pc := 31) (pre := cwC dA a Z) (post := []) (w0 := sbW dA (a 300) v cap f n ml) (w1 := sbW dA (a 300) v cap f n ml) hC (kS_bch hl h1 h2 h3 h4 h5) fV_J4_charAt_5068e wf_1401 ⟨0, 9, _, _, _, rfl, rfl⟩ rfl ⟨(Nat.le_of_ble_eq_true rfl), (Nat.le_of_ble_eq_true rfl)⟩ rfl (Nat.le_of_ble_eq_true rfl) dX7_charAt_31 ⟨(Nat.le_of_ble_eq_true rfl), (Nat.le_of_ble_eq_true rfl)⟩ (by rw [List.append_nil]) rfl ?_
  rw [List.append_nil]
  have h9 := ic_b t9 h5
  exact hR _ _ _ _ _ rfl (by have h8 := h9.1; rw [h9.2] at h8; exact h8) (Nat.le_of_ble_eq_true rfl) (Nat.le_of_ble_eq_true rfl) dX7_charAt_34
set_option maxHeartbeats 4000000 in
set_option maxRecDepth 100000 in
theorem kL_ch_f {l : Launch} {D : va_G} {dA : Nat → ClassId} {sa : String → Nat → Nat} (hl : l.stackTraces = false) {a : Nat → Nat} {Z : ZZ} {v cap n : Nat} {f : Nat → Int32} {ml : Int32} {x : Int32} (hx : x < 0 ∨ nI n ≤ x) : CXi l D dA sa yX7_charAt (wz yX7_charAt cX7_charAt 2 (some .char)) rmL3 [.ref (a 0), .int x] (cwC dA a Z ++ sbW dA (a 300) v cap f n ml) (.inl 1) (cwC dA a Z ++ sbW dA (a 300) v cap f n ml) := by
  refine xm_xz hl (by decide +kernel) (Nat.le_of_ble_eq_true rfl) rfl ?_
  intro p e s m args below meth c A Q hC hR hT hTw hTq hTqw hO
  show xv p l e rmL3 s m args below meth c D A 2 Q (cwC dA a Z ++ sbW dA (a 300) v cap f n ml) 0 0 0 [(0, .ref (a 0)), (1, .int x)] []
  refine xv_iload_n (pc := 0) hC dX7_charAt_0 1 rfl rfl ?_
  refine xv_if_lt (tgt := 15) (pc := 1) hC dX7_charAt_1 (by decide) (fun _ => ?_) (fun c0 => ?_)
  · exact hTw _ _ 15 1 _ _ _ _ _ _ rfl ⟨dX7_charAt_15, dX7_charAt_18, dX7_charAt_19, dX7_charAt_22, dX7_charAt_25⟩ tw_X7_90 (by decide +kernel : (_, 401, "the line has no such index") ∈ xe_S) (Nat.le_of_ble_eq_true rfl) (Nat.le_of_ble_eq_true rfl) (Nat.le_of_ble_eq_true rfl) (Nat.le_of_ble_eq_true rfl)
  · refine xv_iload_n (pc := 4) hC dX7_charAt_4 1 rfl rfl ?_
    refine xv_aload_n (pc := 5) hC dX7_charAt_5 0 rfl rfl ?_
    refine xv_g7 (pc := 6) (q0 := 0) (b := a (0)) (fs := fsX7 a 0 (Z.1 0) (Z.2 0)) hC dX7_charAt_6 (cw_at (by omega) (ob_X7 (rfl : shC 0 = 1) _ _)) 7 (by decide) wf_317 rfl ?_
    refine xv_callVi (As := []) (pc := 9) (pre := cwC dA a Z) (post := []) (w0 := sbW dA (a 300) v cap f n ml) (w1 := sbW dA (a 300) v cap f n ml) hC (kS_ble hl) fV_J4_length_8abf5 wf_853 ⟨0, 9, _, _, _, rfl, rfl⟩ rfl ⟨(Nat.le_of_ble_eq_true rfl), (Nat.le_of_ble_eq_true rfl)⟩ rfl (Nat.le_of_ble_eq_true rfl) dX7_charAt_9 ⟨(Nat.le_of_ble_eq_true rfl), (Nat.le_of_ble_eq_true rfl)⟩ (by rw [List.append_nil]) rfl ?_
    rw [List.append_nil]
    refine xv_icmp_lt (tgt := 26) (pc := 12) hC dX7_charAt_12 (by decide) (fun c9 => absurd c9 (show ¬ x < nI n by rcases hx with h | h; exact absurd h c0; exact Int32.not_lt.mpr h)) (fun _ => ?_)
    exact hTw _ _ 15 1 _ _ _ _ _ _ rfl ⟨dX7_charAt_15, dX7_charAt_18, dX7_charAt_19, dX7_charAt_22, dX7_charAt_25⟩ tw_X7_90 (by decide +kernel : (_, 401, "the line has no such index") ∈ xe_S) (Nat.le_of_ble_eq_true rfl) (Nat.le_of_ble_eq_true rfl) (Nat.le_of_ble_eq_true rfl) (Nat.le_of_ble_eq_true rfl)
set_option maxRecDepth 100000 in
theorem kL_wt_f {l : Launch} {D : va_G} {dA : Nat → ClassId} {sa : String → Nat → Nat} (hl : l.stackTraces = false) {a : Nat → Nat} {N : NN} {Z : ZZ} {x : Int32} {post : va_W} (hB : rB N Z 19) (hx : viB x (N 1) = false) : CXi l D dA sa yX7_writeTrunk (wz yX7_writeTrunk cX7_writeTrunk 4 (some .int)) rmL1 [.ref (a 0), .int x] (cwC dA a Z ++ post) (.inl 1) (cwC dA a Z ++ post) := by
  refine xm_xi hl (by decide +kernel) (Nat.le_of_ble_eq_true rfl) rfl ?_
  intro p e s m args below meth c A Q hC hR hT hTw hTq hTqw hO
  show xv p l e rmL1 s m args below meth c D A 4 Q (cwC dA a Z ++ post) 0 0 0 [(0, .ref (a 0)), (1, .int x)] []
  refine xv_aload_n (pc := 0) hC dX7_writeTrunk_0 0 rfl rfl ?_
  refine xv_iload_n (pc := 1) hC dX7_writeTrunk_1 1 rfl rfl ?_
  refine xv_callVxv (As := [.int x]) (pc := 2) (pre := []) (w0 := cwC dA a Z) (w1 := cwC dA a Z) (post := post) (w2 := cwC dA a Z ++ post) hC (kX7_needTrunk hl (nt_f hB hx)) fV_X7_needTrunk wf_1139 (rc_X7 (rfl : shC 0 = 1)) rfl ⟨(Nat.le_of_ble_eq_true rfl), (Nat.le_of_ble_eq_true rfl)⟩ rfl (Nat.le_of_ble_eq_true rfl) dX7_writeTrunk_2 ⟨(Nat.le_of_ble_eq_true rfl), (Nat.le_of_ble_eq_true rfl)⟩ rfl rfl (fun k9 hk9 => ?_) (fun hk9 => by cases hk9)
  cases hk9
  exact hO _ _ _ _ _ _ rfl (Nat.le_of_ble_eq_true rfl) (Nat.le_of_ble_eq_true rfl)
