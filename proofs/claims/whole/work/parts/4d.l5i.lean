theorem wf_299 : Cond.fieldLink "java/lang/AbstractStringBuilder" 79 "java/lang/AbstractStringBuilder" "count" "I" ∈ WT := wt_of (i := 299) (by decide +kernel) rfl
theorem wf_511 : Cond.methodLink "java/lang/AbstractStringBuilder" 100 ⟨"java/lang/AbstractStringBuilder", "ensureCapacityInternal", "(I)V"⟩ ∈ WT := wt_of (i := 511) (by decide +kernel) rfl
theorem wf_544 : Cond.methodLink "java/lang/AbstractStringBuilder" 83 ⟨"java/lang/AbstractStringBuilder", "isLatin1", "()Z"⟩ ∈ WT := wt_of (i := 544) (by decide +kernel) rfl
theorem wf_837 : Cond.methodLink "java/lang/AbstractStringBuilder" 191 ⟨"java/lang/StringLatin1", "canEncode", "(C)Z"⟩ ∈ WT := wt_of (i := 837) (by decide +kernel) rfl
theorem wf_625 : Cond.methodLink "java/lang/AbstractStringBuilder" 245 ⟨"java/lang/Integer", "stringSize", "(I)I"⟩ ∈ WT := wt_of (i := 625) (by decide +kernel) rfl
theorem wf_628 : Cond.methodLink "java/lang/AbstractStringBuilder" 248 ⟨"java/lang/Integer", "getChars", "(II[B)I"⟩ ∈ WT := wt_of (i := 628) (by decide +kernel) rfl
theorem wf_297 : Cond.fieldLink "java/lang/AbstractStringBuilder" 73 "java/lang/AbstractStringBuilder" "maybeLatin1" "Z" ∈ WT := wt_of (i := 297) (by decide +kernel) rfl
theorem wf_1408 : Cond.methodLink "java/lang/AbstractStringBuilder" 138 ⟨"java/lang/Math", "min", "(II)I"⟩ ∈ WT := wt_of (i := 1408) (by decide +kernel) rfl
theorem wf_1409 : Cond.methodLink "java/lang/AbstractStringBuilder" 144 ⟨"java/lang/String", "checkIndex", "(II)V"⟩ ∈ WT := wt_of (i := 1409) (by decide +kernel) rfl
theorem wf_834 : Cond.methodLink "java/lang/StringBuilder" 50 ⟨"java/lang/AbstractStringBuilder", "append", "(C)Ljava/lang/AbstractStringBuilder;"⟩ ∈ WT := wt_of (i := 834) (by decide +kernel) rfl
theorem wf_622 : Cond.methodLink "java/lang/StringBuilder" 53 ⟨"java/lang/AbstractStringBuilder", "append", "(I)Ljava/lang/AbstractStringBuilder;"⟩ ∈ WT := wt_of (i := 622) (by decide +kernel) rfl
theorem wf_489 : Cond.methodLink "java/lang/StringBuilder" 333 ⟨"java/lang/AbstractStringBuilder", "setLength", "(I)V"⟩ ∈ WT := wt_of (i := 489) (by decide +kernel) rfl
theorem wf_667 : Cond.methodLink "java/lang/StringBuilder" 343 ⟨"java/lang/AbstractStringBuilder", "length", "()I"⟩ ∈ WT := wt_of (i := 667) (by decide +kernel) rfl
theorem wf_1405 : Cond.methodLink "java/lang/StringBuilder" 329 ⟨"java/lang/AbstractStringBuilder", "charAt", "(I)C"⟩ ∈ WT := wt_of (i := 1405) (by decide +kernel) rfl
/-! the JDK's walks: append, setLength, length, charAt -/
/-- the builder b holds the line lw -/
def sbT (dA : Nat → ClassId) (b : Nat) (lw : LW) (w : va_W) : Prop := ∃ (v cap : Nat) (f : Nat → Int32) (ml : Int32), w = sbW dA b v cap f lw.1 ml ∧ lw.1 ≤ cap ∧ cap ≤ 160 ∧ okb f ∧ ∀ j, j < lw.1 → f j = nI (lw.2 j)
theorem ic_b : ∀ t : Nat, t < 128 → narrow .char (.int (ichar (nI t &&& 255))) = .int (nI t) ∧ ichar (nI t &&& 255) = nI t := by decide +kernel
abbrev rmS5 : Room := ({ frames := 4, cells := 1, slots := 160, locals := 130 } : Room)
set_option maxRecDepth 100000 in
theorem kS_apc {l : Launch} {D : va_G} {dA : Nat → ClassId} {sa : String → Nat → Nat} (hl : l.stackTraces = false) {b v cap : Nat} {f : Nat → Int32} {ml : Int32} {lw : LW} (h1 : lw.1 ≤ cap) (h2 : cap ≤ 160) (hf : okb f) (ht : ∀ j, j < lw.1 → f j = nI (lw.2 j)) {ch : Nat} (hc : ch < 128) (h3 : lw.1 + 1 ≤ 80) : CPr l D dA sa ⟨"java/lang/AbstractStringBuilder", "append", "(C)Ljava/lang/AbstractStringBuilder;"⟩ (wz ⟨"java/lang/AbstractStringBuilder", "append", "(C)Ljava/lang/AbstractStringBuilder;"⟩ prog_12_method_31_code 2 (some (.object "java/lang/AbstractStringBuilder"))) rmS5 [.ref b, .int (nI ch)] (sbW dA b v cap f lw.1 ml) (fun w a => a = b ∧ sbT dA b (psh lw ch) w) := by
  refine xm_pr hl (by decide +kernel) (Nat.le_of_ble_eq_true rfl) rfl (Or.inl ⟨_, rfl⟩) ?_
  intro p e s m args below meth c A Q hC hR
  show xv p l e rmS5 s m args below meth c D A 2 Q (sbW dA b v cap f lw.1 ml) 0 0 0 [(0, .ref b), (1, .int (nI ch))] []
  refine xv_aload_n (pc := 0) hC dS_apc_0 0 rfl rfl ?_
  refine xv_aload_n (pc := 1) hC dS_apc_1 0 rfl rfl ?_
  refine xv_sg (pc := 2) (q0 := 0) hC dS_apc_2 rfl 3 (by decide) wf_299 rfl ?_
  refine xv_iconst (v := 1) (pc := 5) hC dS_apc_5 (by decide) ?_
  refine xv_iadd (pc := 6) hC dS_apc_6 ?_
  rw [nI_1]
  refine xv_callUpv (As := [.int (nI (lw.1 + 1))]) (pc := 7) (pre := []) (post := []) (w0 := (sbW dA b v cap f lw.1 ml)) (C := RJ4) hC (kS_ens (q9 := lw.1 + 1) hl h2 (by omega) hf) fQ_ens wf_511 ⟨0, 9, _, _, _, rfl, rfl⟩ rfl ⟨(Nat.le_of_ble_eq_true rfl), (Nat.le_of_ble_eq_true rfl)⟩ rfl (Nat.le_of_ble_eq_true rfl) dS_apc_7 ⟨(Nat.le_of_ble_eq_true rfl), (Nat.le_of_ble_eq_true rfl)⟩ (by simp) (fun w1 h9 => ?_)
  obtain ⟨v1, cap1, f1, rfl, e1, e2, e3, e4, e5⟩ := h9
  show xv p l e rmS5 s m args below meth c D A 2 Q (sbW dA b v1 cap1 f1 lw.1 ml) 1 160 10 [(0, .ref b), (1, .int (nI ch))] []
  refine xv_aload_n (pc := 10) hC dS_apc_10 0 rfl rfl ?_
  refine xv_callUi (As := []) (pc := 11) (pre := []) (post := []) (w0 := (sbW dA b v1 cap1 f1 lw.1 ml)) (w2 := (sbW dA b v1 cap1 f1 lw.1 ml)) (C := RJ4) hC (kS_lat hl) fU_lat wf_544 ⟨0, 9, _, _, _, rfl, rfl⟩ rfl ⟨(Nat.le_of_ble_eq_true rfl), (Nat.le_of_ble_eq_true rfl)⟩ rfl (Nat.le_of_ble_eq_true rfl) dS_apc_11 ⟨(Nat.le_of_ble_eq_true rfl), (Nat.le_of_ble_eq_true rfl)⟩ (by simp) (by simp) ?_
  refine xv_if_eq (tgt := 45) (pc := 14) hC dS_apc_14 (by decide) (fun c9 => absurd c9 (show ¬ (1 : Int32) = 0 by decide)) (fun _ => ?_)
  refine xv_iload_n (pc := 17) hC dS_apc_17 1 rfl rfl ?_
  refine xv_callSi0 (As := [.int (nI ch)]) (pc := 18) hC (kS_can hl (by omega)) fS_J1_canEncode_fc78d wf_837 rfl ⟨(Nat.le_of_ble_eq_true rfl), (Nat.le_of_ble_eq_true rfl)⟩ rfl (Nat.le_of_ble_eq_true rfl) dS_apc_18 ⟨(Nat.le_of_ble_eq_true rfl), (Nat.le_of_ble_eq_true rfl)⟩ ?_
  refine xv_if_eq (tgt := 45) (pc := 21) hC dS_apc_21 (by decide) (fun c9 => absurd c9 (show ¬ (1 : Int32) = 0 by decide)) (fun _ => ?_)
  refine xv_aload_n (pc := 24) hC dS_apc_24 0 rfl rfl ?_
  refine xv_sg (pc := 25) (q0 := 0) hC dS_apc_25 rfl 0 (by decide) wf_295 rfl ?_
  refine xv_aload_n (pc := 28) hC dS_apc_28 0 rfl rfl ?_
  refine xv_dup (pc := 29) hC dS_apc_29 rfl ?_
  refine xv_sg (pc := 30) (q0 := 0) hC dS_apc_30 rfl 3 (by decide) wf_299 rfl ?_
  refine xv_dup_x1 (pc := 33) hC dS_apc_33 rfl rfl ?_
  refine xv_iconst (v := 1) (pc := 34) hC dS_apc_34 (by decide) ?_
  refine xv_iadd (pc := 35) hC dS_apc_35 ?_
  rw [nI_1]
  refine xv_sp (pc := 36) (q0 := 0) (fs := [.ref v1, .int 0, .int ml, .int (nI lw.1)]) (vl := .int (nI (lw.1 + 1))) (ty := .int) (w2 := sbW dA b v1 cap1 f1 (lw.1 + 1) ml) hC dS_apc_36 rfl 3 (by decide) wf_299 rfl (by decide +kernel) rfl rfl (Nat.le_of_ble_eq_true rfl) rfl ?_
  refine xv_iload_n (pc := 39) hC dS_apc_39 1 rfl rfl ?_
  refine xv_i2b (v := nI ch) (pc := 40) hC dS_apc_40 (nar_b hc) ?_
  refine xv_bast (pc := 41) (q0 := 1) (w2 := sbW dA b v1 cap1 (upd f1 lw.1 (nI ch)) (lw.1 + 1) ml) hC dS_apc_41 rfl (vin_n (by omega) (by omega)) (by rw [cl_n (by omega), nar_b hc]; rfl) ?_
  refine xv_goto (tgt := 75) (pc := 42) hC dS_apc_42 (by decide) ?_
  refine xv_aload_n (pc := 75) hC dS_apc_75 0 rfl rfl ?_
  refine hR _ _ _ _ _ _ ⟨rfl, v1, cap1, _, ml, rfl, by show lw.1 + 1 ≤ cap1; omega, e3, okb_upd e4 hc, fun j hj => ?_⟩ (Nat.le_of_ble_eq_true rfl) (Nat.le_of_ble_eq_true rfl) dS_apc_76
  have hj : j < lw.1 + 1 := hj
  unfold upd psh
  dsimp only
  by_cases e : j = lw.1
  · rw [if_pos e, if_pos e]
  · rw [if_neg e, if_neg e, e5 j (by omega)]; exact ht j (by omega)
set_option maxRecDepth 100000 in
theorem kS_api {l : Launch} {D : va_G} {dA : Nat → ClassId} {sa : String → Nat → Nat} (hl : l.stackTraces = false) {b v cap : Nat} {f : Nat → Int32} {ml : Int32} {lw : LW} (h1 : lw.1 ≤ cap) (h2 : cap ≤ 160) (hf : okb f) (ht : ∀ j, j < lw.1 → f j = nI (lw.2 j)) {v9 : Nat} (hv : v9 < 10 ^ 7) (h3 : lw.1 + dl v9 ≤ 80) : CPr l D dA sa ⟨"java/lang/AbstractStringBuilder", "append", "(I)Ljava/lang/AbstractStringBuilder;"⟩ (wz ⟨"java/lang/AbstractStringBuilder", "append", "(I)Ljava/lang/AbstractStringBuilder;"⟩ prog_12_method_32_code 4 (some (.object "java/lang/AbstractStringBuilder"))) rmS5 [.ref b, .int (nI v9)] (sbW dA b v cap f lw.1 ml) (fun w a => a = b ∧ sbT dA b (pnum lw v9) w) := by
  refine xm_pr hl (by decide +kernel) (Nat.le_of_ble_eq_true rfl) rfl (Or.inl ⟨_, rfl⟩) ?_
  intro p e s m args below meth c A Q hC hR
  show xv p l e rmS5 s m args below meth c D A 4 Q (sbW dA b v cap f lw.1 ml) 0 0 0 [(0, .ref b), (1, .int (nI v9))] []
  refine xv_aload_n (pc := 0) hC dS_api_0 0 rfl rfl ?_
  refine xv_sg (pc := 1) (q0 := 0) hC dS_api_1 rfl 3 (by decide) wf_299 rfl ?_
  refine xv_istore_n (pc := 4) (lv' := [(2, .int (nI lw.1)), (0, .ref b), (1, .int (nI v9))]) hC dS_api_4 rfl (by decide) rfl ?_
  refine xv_iload_n (pc := 5) hC dS_api_5 0 rfl rfl ?_
  refine xv_iload_n (pc := 6) hC dS_api_6 2 rfl rfl ?_
  refine xv_callSi0 (As := [.int (nI v9)]) (pc := 7) hC (kS_siz hl hv) fS_J6_stringSize_0f7a4 wf_625 rfl ⟨(Nat.le_of_ble_eq_true rfl), (Nat.le_of_ble_eq_true rfl)⟩ rfl (Nat.le_of_ble_eq_true rfl) dS_api_7 ⟨(Nat.le_of_ble_eq_true rfl), (Nat.le_of_ble_eq_true rfl)⟩ ?_
  refine xv_iadd (pc := 10) hC dS_api_10 ?_
  rw [nI_add]
  refine xv_istore_n (pc := 11) (lv' := [(3, .int (nI (lw.1 + dl v9))), (2, .int (nI lw.1)), (0, .ref b), (1, .int (nI v9))]) hC dS_api_11 rfl (by decide) rfl ?_
  refine xv_aload_n (pc := 12) hC dS_api_12 2 rfl rfl ?_
  refine xv_iload_n (pc := 13) hC dS_api_13 0 rfl rfl ?_
  refine xv_callUpv (As := [.int (nI (lw.1 + dl v9))]) (pc := 14) (pre := []) (post := []) (w0 := (sbW dA b v cap f lw.1 ml)) (C := RJ4) hC (kS_ens (q9 := lw.1 + dl v9) hl h2 (by omega) hf) fQ_ens wf_511 ⟨0, 9, _, _, _, rfl, rfl⟩ rfl ⟨(Nat.le_of_ble_eq_true rfl), (Nat.le_of_ble_eq_true rfl)⟩ rfl (Nat.le_of_ble_eq_true rfl) dS_api_14 ⟨(Nat.le_of_ble_eq_true rfl), (Nat.le_of_ble_eq_true rfl)⟩ (by simp) (fun w1 h9 => ?_)
  obtain ⟨v1, cap1, f1, rfl, e1, e2, e3, e4, e5⟩ := h9
  show xv p l e rmS5 s m args below meth c D A 4 Q (sbW dA b v1 cap1 f1 lw.1 ml) 1 160 17 [(3, .int (nI (lw.1 + dl v9))), (2, .int (nI lw.1)), (0, .ref b), (1, .int (nI v9))] []
  refine xv_aload_n (pc := 17) hC dS_api_17 2 rfl rfl ?_
  refine xv_callUi (As := []) (pc := 18) (pre := []) (post := []) (w0 := (sbW dA b v1 cap1 f1 lw.1 ml)) (w2 := (sbW dA b v1 cap1 f1 lw.1 ml)) (C := RJ4) hC (kS_lat hl) fU_lat wf_544 ⟨0, 9, _, _, _, rfl, rfl⟩ rfl ⟨(Nat.le_of_ble_eq_true rfl), (Nat.le_of_ble_eq_true rfl)⟩ rfl (Nat.le_of_ble_eq_true rfl) dS_api_18 ⟨(Nat.le_of_ble_eq_true rfl), (Nat.le_of_ble_eq_true rfl)⟩ (by simp) (by simp) ?_
  refine xv_if_eq (tgt := 37) (pc := 21) hC dS_api_21 (by decide) (fun c9 => absurd c9 (show ¬ (1 : Int32) = 0 by decide)) (fun _ => ?_)
  refine xv_iload_n (pc := 24) hC dS_api_24 3 rfl rfl ?_
  refine xv_iload_n (pc := 25) hC dS_api_25 0 rfl rfl ?_
  refine xv_aload_n (pc := 26) hC dS_api_26 2 rfl rfl ?_
  refine xv_sg (pc := 27) (q0 := 0) hC dS_api_27 rfl 0 (by decide) wf_295 rfl ?_
  refine xv_callSi (As := [.int (nI v9), .int (nI (lw.1 + dl v9)), .ref v1]) (pc := 30) (pre := [(b, .inr (9, [.ref v1, .int 0, .int ml, .int (nI lw.1)]))]) (post := []) (w0 := [(v1, .inl (dA 6, cap1, .inl f1))]) (w2 := sbW dA b v1 cap1 (fgd f1 v9 (lw.1 + dl v9)) lw.1 ml) hC (kS_gch hl hv (by omega) e1 e3) fS_J6_getChars_ba4f3 wf_628 rfl ⟨(Nat.le_of_ble_eq_true rfl), (Nat.le_of_ble_eq_true rfl)⟩ rfl (Nat.le_of_ble_eq_true rfl) dS_api_30 ⟨(Nat.le_of_ble_eq_true rfl), (Nat.le_of_ble_eq_true rfl)⟩ rfl rfl ?_
  refine xv_pop (pc := 33) hC dS_api_33 rfl ?_
  refine xv_goto (tgt := 48) (pc := 34) hC dS_api_34 (by decide) ?_
  refine xv_aload_n (pc := 48) hC dS_api_48 2 rfl rfl ?_
  refine xv_iload_n (pc := 49) hC dS_api_49 0 rfl rfl ?_
  refine xv_sp (pc := 50) (q0 := 0) (fs := [.ref v1, .int 0, .int ml, .int (nI lw.1)]) (vl := .int (nI (lw.1 + dl v9))) (ty := .int) (w2 := sbW dA b v1 cap1 (fgd f1 v9 (lw.1 + dl v9)) (lw.1 + dl v9) ml) hC dS_api_50 rfl 3 (by decide) wf_299 rfl (by decide +kernel) rfl rfl (Nat.le_of_ble_eq_true rfl) rfl ?_
  refine xv_aload_n (pc := 53) hC dS_api_53 2 rfl rfl ?_
  refine hR _ _ _ _ _ _ ⟨rfl, v1, cap1, _, ml, rfl, e1, e3, okb_fgd e4, fun j hj => ?_⟩ (Nat.le_of_ble_eq_true rfl) (Nat.le_of_ble_eq_true rfl) dS_api_54
  have hj : j < lw.1 + dl v9 := hj
  unfold fgd pnum pdg
  dsimp only
  by_cases e : lw.1 ≤ j ∧ j < lw.1 + dl v9
  · rw [if_pos e, if_pos (by omega)]
  · rw [if_neg e, if_neg (by omega), e5 j (by omega)]; exact ht j (by omega)
set_option maxRecDepth 100000 in
theorem kS_sle {l : Launch} {D : va_G} {dA : Nat → ClassId} {sa : String → Nat → Nat} (hl : l.stackTraces = false) {b v cap : Nat} {f : Nat → Int32} {ml : Int32} {lw : LW} (h1 : lw.1 ≤ cap) (h2 : cap ≤ 160) (hf : okb f) (ht : ∀ j, j < lw.1 → f j = nI (lw.2 j)) : CPv l D dA sa ⟨"java/lang/AbstractStringBuilder", "setLength", "(I)V"⟩ (wz ⟨"java/lang/AbstractStringBuilder", "setLength", "(I)V"⟩ prog_12_method_13_code 2 none) rmS5 [.ref b, .int 0] (sbW dA b v cap f lw.1 ml) (sbT dA b (0, lw.2)) := by
  refine xm_pv hl (by decide +kernel) (Nat.le_of_ble_eq_true rfl) rfl ?_
  intro p e s m args below meth c A Q hC hR
  show xv p l e rmS5 s m args below meth c D A 2 Q (sbW dA b v cap f lw.1 ml) 0 0 0 [(0, .ref b), (1, .int 0)] []
  refine xv_iload_n (pc := 0) hC dS_sle_0 1 rfl rfl ?_
  refine xv_if_ge (tgt := 13) (pc := 1) hC dS_sle_1 (by decide) (fun _ => ?_) (fun c9 => absurd (show (0 : Int32) ≤ 0 by decide) c9)
  refine xv_aload_n (pc := 13) hC dS_sle_13 0 rfl rfl ?_
  refine xv_iload_n (pc := 14) hC dS_sle_14 1 rfl rfl ?_
  refine xv_callUpv (As := [.int (0)]) (pc := 15) (pre := []) (post := []) (w0 := (sbW dA b v cap f lw.1 ml)) (C := RJ4) hC (kS_ens (q9 := 0) hl h2 (by omega) hf) fQ_ens wf_511 ⟨0, 9, _, _, _, rfl, rfl⟩ rfl ⟨(Nat.le_of_ble_eq_true rfl), (Nat.le_of_ble_eq_true rfl)⟩ rfl (Nat.le_of_ble_eq_true rfl) dS_sle_15 ⟨(Nat.le_of_ble_eq_true rfl), (Nat.le_of_ble_eq_true rfl)⟩ (by simp) (fun w1 h9 => ?_)
  obtain ⟨v1, cap1, f1, rfl, e1, e2, e3, e4, e5⟩ := h9
  show xv p l e rmS5 s m args below meth c D A 2 Q (sbW dA b v1 cap1 f1 lw.1 ml) 1 160 18 [(0, .ref b), (1, .int 0)] []
  refine xv_aload_n (pc := 18) hC dS_sle_18 0 rfl rfl ?_
  refine xv_sg (pc := 19) (q0 := 0) hC dS_sle_19 rfl 3 (by decide) wf_299 rfl ?_
  refine xv_iload_n (pc := 22) hC dS_sle_22 1 rfl rfl ?_
  refine xv_icmp_ge (tgt := 63) (pc := 23) hC dS_sle_23 (by decide) (fun _ => ?_) (fun c9 => absurd (nI_pos' (show lw.1 < 2 ^ 31 by omega)) c9)
  refine xv_aload_n (pc := 63) hC dS_sle_63 0 rfl rfl ?_
  refine xv_sg (pc := 64) (q0 := 0) hC dS_sle_64 rfl 3 (by decide) wf_299 rfl ?_
  refine xv_iload_n (pc := 67) hC dS_sle_67 1 rfl rfl ?_
  have fin : ∀ ml1 : Int32, xv p l e rmS5 s m args below meth c D A 2 Q (sbW dA b v1 cap1 f1 lw.1 ml1) 1 160 76 [(0, .ref b), (1, .int 0)] [] := fun ml1 => by
    refine xv_aload_n (pc := 76) hC dS_sle_76 0 rfl rfl ?_
    refine xv_iload_n (pc := 77) hC dS_sle_77 1 rfl rfl ?_
    refine xv_sp (pc := 78) (q0 := 0) (fs := [.ref v1, .int 0, .int ml1, .int (nI lw.1)]) (vl := .int 0) (ty := .int) (w2 := sbW dA b v1 cap1 f1 0 ml1) hC dS_sle_78 rfl 3 (by decide) wf_299 rfl (by decide +kernel) rfl rfl (Nat.le_of_ble_eq_true rfl) rfl ?_
    exact hR _ _ _ _ _ ⟨v1, cap1, f1, ml1, rfl, Nat.zero_le _, e3, e4, fun j hj => absurd hj (Nat.not_lt_zero j)⟩ (Nat.le_of_ble_eq_true rfl) (Nat.le_of_ble_eq_true rfl) dS_sle_81
  refine xv_icmp_le (tgt := 76) (pc := 68) hC dS_sle_68 (by decide) (fun _ => fin ml) (fun _ => ?_)
  refine xv_aload_n (pc := 71) hC dS_sle_71 0 rfl rfl ?_
  refine xv_iconst (v := 1) (pc := 72) hC dS_sle_72 (by decide) ?_
  refine xv_sp (pc := 73) (q0 := 0) (fs := [.ref v1, .int 0, .int ml, .int (nI lw.1)]) (vl := .int 1) (ty := .boolean) (w2 := sbW dA b v1 cap1 f1 lw.1 1) hC dS_sle_73 rfl 2 (by decide) wf_297 rfl (by decide +kernel) rfl rfl (Nat.le_of_ble_eq_true rfl) rfl ?_
  exact fin 1
set_option maxRecDepth 100000 in
theorem kS_len {l : Launch} {D : va_G} {dA : Nat → ClassId} {sa : String → Nat → Nat} (hl : l.stackTraces = false) {b v cap n : Nat} {f : Nat → Int32} {ml : Int32} : CTi l D dA sa ⟨"java/lang/AbstractStringBuilder", "length", "()I"⟩ (wz ⟨"java/lang/AbstractStringBuilder", "length", "()I"⟩ prog_12_method_6_code 1 (some .int)) rmJ0 [.ref b] (sbW dA b v cap f n ml) (nI n) (sbW dA b v cap f n ml) := by
  refine xm_i hl (by decide +kernel) (Nat.le_of_ble_eq_true rfl) rfl ?_
  intro p e s m args below meth c A Q hC hR
  show xv p l e rmJ0 s m args below meth c D A 1 Q (sbW dA b v cap f n ml) 0 0 0 [(0, .ref b)] []
  refine xv_aload_n (pc := 0) hC dS_len_0 0 rfl rfl ?_
  refine xv_sg (pc := 1) (q0 := 0) hC dS_len_1 rfl 3 (by decide) wf_299 rfl ?_
  exact hR _ _ _ _ (Nat.le_of_ble_eq_true rfl) (Nat.le_of_ble_eq_true rfl) dS_len_4
abbrev rmS6 : Room := ({ frames := 2, cells := 0, slots := 0, locals := 60 } : Room)
set_option maxRecDepth 100000 in
theorem kS_cha {l : Launch} {D : va_G} {dA : Nat → ClassId} {sa : String → Nat → Nat} (hl : l.stackTraces = false) {b v cap n : Nat} {f : Nat → Int32} {ml : Int32} {i9 t9 : Nat} (h1 : i9 < n) (h2 : n ≤ cap) (h3 : cap ≤ 160) (h4 : f i9 = nI t9) (h5 : t9 < 128) : CTi l D dA sa ⟨"java/lang/AbstractStringBuilder", "charAt", "(I)C"⟩ (wz ⟨"java/lang/AbstractStringBuilder", "charAt", "(I)C"⟩ prog_12_method_14_code 5 (some .char)) rmS6 [.ref b, .int (nI i9)] (sbW dA b v cap f n ml) (nI t9) (sbW dA b v cap f n ml) := by
  refine xm_z hl (by decide +kernel) (Nat.le_of_ble_eq_true rfl) rfl ?_
  intro p e s m args below meth c A Q hC hR
  show xv p l e rmS6 s m args below meth c D A 5 Q (sbW dA b v cap f n ml) 0 0 0 [(0, .ref b), (1, .int (nI i9))] []
  refine xv_aload_n (pc := 0) hC dS_cha_0 0 rfl rfl ?_
  refine xv_sg (pc := 1) (q0 := 0) hC dS_cha_1 rfl 1 (by decide) wf_296 rfl ?_
  refine xv_istore_n (pc := 4) (lv' := [(2, .int 0), (0, .ref b), (1, .int (nI i9))]) hC dS_cha_4 rfl (by decide) rfl ?_
  refine xv_aload_n (pc := 5) hC dS_cha_5 1 rfl rfl ?_
  refine xv_sg (pc := 6) (q0 := 0) hC dS_cha_6 rfl 0 (by decide) wf_295 rfl ?_
  refine xv_astore_n (pc := 9) (lv' := [(3, .ref v), (2, .int 0), (0, .ref b), (1, .int (nI i9))]) hC dS_cha_9 rfl (by decide) rfl ?_
  refine xv_aload_n (pc := 10) hC dS_cha_10 2 rfl rfl ?_
  refine xv_sg (pc := 11) (q0 := 0) hC dS_cha_11 rfl 3 (by decide) wf_299 rfl ?_
  refine xv_aload_n (pc := 14) hC dS_cha_14 0 rfl rfl ?_
  refine xv_blen (pc := 15) (q0 := 1) hC dS_cha_15 rfl ?_
  refine xv_iload_n (pc := 16) hC dS_cha_16 1 rfl rfl ?_
  refine xv_ishr (pc := 17) hC dS_cha_17 ?_
  rw [sh0]
  refine xv_immin (pc := 18) hC dS_cha_18 wf_1408 fm_min (Nat.le_of_ble_eq_true rfl) (Nat.le_of_ble_eq_true rfl) (Nat.le_of_ble_eq_true rfl) (Nat.le_of_ble_eq_true rfl) ?_
  rw [imin_nn (by omega) (by omega), Nat.min_eq_left h2]
  refine xv_istore (pc := 21) (lv' := [(4, .int (nI n)), (3, .ref v), (2, .int 0), (0, .ref b), (1, .int (nI i9))]) hC dS_cha_21 (by decide) rfl ?_
  refine xv_iload_n (pc := 23) hC dS_cha_23 4 rfl rfl ?_
  refine xv_iload (pc := 24) hC dS_cha_24 0 rfl ?_
  refine xv_callSv0 (As := [.int (nI i9), .int (nI n)]) (pc := 26) hC (kJ_chk hl (nI_pos (by omega)) (nI_lt h1 (by omega))) fS_J0_checkIndex_df160 wf_1409 rfl ⟨(Nat.le_of_ble_eq_true rfl), (Nat.le_of_ble_eq_true rfl)⟩ rfl (Nat.le_of_ble_eq_true rfl) dS_cha_26 ⟨(Nat.le_of_ble_eq_true rfl), (Nat.le_of_ble_eq_true rfl)⟩ ?_
  refine xv_iload_n (pc := 29) hC dS_cha_29 2 rfl rfl ?_
  refine xv_if_ne (tgt := 42) (pc := 30) hC dS_cha_30 (by decide) (fun c9 => absurd c9 (show ¬ ¬ (0 : Int32) = 0 by decide)) (fun _ => ?_)
  refine xv_aload_n (pc := 33) hC dS_cha_33 1 rfl rfl ?_
  refine xv_iload_n (pc := 34) hC dS_cha_34 4 rfl rfl ?_
  refine xv_bald (pc := 35) (q0 := 1) hC dS_cha_35 rfl (vin_n (by omega) (by omega)) ?_
  rw [cl_n (by omega), h4]
  refine xv_sipush (v := 255) (pc := 36) hC dS_cha_36 (by decide) ?_
  refine xv_iand (pc := 39) hC dS_cha_39 ?_
  refine xv_i2c (pc := 40) hC dS_cha_40 ?_
  show xv p l e rmS6 s m args below meth c D A 5 Q (sbW dA b v cap f n ml) _ _ _ _ [.int (ichar (nI t9 &&& 255))]
  have h9 := ic_b t9 h5
  rw [h9.2]
  exact hR _ _ _ _ (by have h8 := h9.1; rw [h9.2] at h8; exact h8) (Nat.le_of_ble_eq_true rfl) (Nat.le_of_ble_eq_true rfl) dS_cha_41
abbrev rmS7 : Room := ({ frames := 5, cells := 1, slots := 160, locals := 170 } : Room)
set_option maxRecDepth 100000 in
theorem kS_bpc {l : Launch} {D : va_G} {dA : Nat → ClassId} {sa : String → Nat → Nat} (hl : l.stackTraces = false) {b v cap : Nat} {f : Nat → Int32} {ml : Int32} {lw : LW} (h1 : lw.1 ≤ cap) (h2 : cap ≤ 160) (hf : okb f) (ht : ∀ j, j < lw.1 → f j = nI (lw.2 j)) {ch : Nat} (hc : ch < 128) (h3 : lw.1 + 1 ≤ 80) : CPr l D dA sa ⟨"java/lang/StringBuilder", "append", "(C)Ljava/lang/StringBuilder;"⟩ (wz ⟨"java/lang/StringBuilder", "append", "(C)Ljava/lang/StringBuilder;"⟩ prog_28_method_14_code 2 (some (.object "java/lang/StringBuilder"))) rmS7 [.ref b, .int (nI ch)] (sbW dA b v cap f lw.1 ml) (fun w a => a = b ∧ sbT dA b (psh lw ch) w) := by
  refine xm_pr hl (by decide +kernel) (Nat.le_of_ble_eq_true rfl) rfl (Or.inl ⟨_, rfl⟩) ?_
  intro p e s m args below meth c A Q hC hR
  show xv p l e rmS7 s m args below meth c D A 2 Q (sbW dA b v cap f lw.1 ml) 0 0 0 [(0, .ref b), (1, .int (nI ch))] []
  refine xv_aload_n (pc := 0) hC dS_bpc_0 0 rfl rfl ?_
  refine xv_iload_n (pc := 1) hC dS_bpc_1 1 rfl rfl ?_
  refine xv_callPpr (As := [.int (nI ch)]) (pc := 2) (pre := []) (post := []) (w0 := (sbW dA b v cap f lw.1 ml)) (ci := 9) hC rfl (kS_apc hl h1 h2 hf ht hc h3) fP_apc wf_834 ⟨0, 9, _, _, _, rfl, rfl⟩ rfl ⟨(Nat.le_of_ble_eq_true rfl), (Nat.le_of_ble_eq_true rfl)⟩ rfl (Nat.le_of_ble_eq_true rfl) dS_bpc_2 ⟨(Nat.le_of_ble_eq_true rfl), (Nat.le_of_ble_eq_true rfl)⟩ (by simp) (fun w1 a h9 => ?_)
  obtain ⟨rfl, h9⟩ := h9
  rw [List.append_nil, List.nil_append]
  refine xv_pop (pc := 5) hC dS_bpc_5 rfl ?_
  refine xv_aload_n (pc := 6) hC dS_bpc_6 0 rfl rfl ?_
  exact hR _ _ _ _ _ _ ⟨rfl, h9⟩ (Nat.le_of_ble_eq_true rfl) (Nat.le_of_ble_eq_true rfl) dS_bpc_7
set_option maxRecDepth 100000 in
theorem kS_bpi {l : Launch} {D : va_G} {dA : Nat → ClassId} {sa : String → Nat → Nat} (hl : l.stackTraces = false) {b v cap : Nat} {f : Nat → Int32} {ml : Int32} {lw : LW} (h1 : lw.1 ≤ cap) (h2 : cap ≤ 160) (hf : okb f) (ht : ∀ j, j < lw.1 → f j = nI (lw.2 j)) {v9 : Nat} (hv : v9 < 10 ^ 7) (h3 : lw.1 + dl v9 ≤ 80) : CPr l D dA sa ⟨"java/lang/StringBuilder", "append", "(I)Ljava/lang/StringBuilder;"⟩ (wz ⟨"java/lang/StringBuilder", "append", "(I)Ljava/lang/StringBuilder;"⟩ prog_28_method_15_code 2 (some (.object "java/lang/StringBuilder"))) rmS7 [.ref b, .int (nI v9)] (sbW dA b v cap f lw.1 ml) (fun w a => a = b ∧ sbT dA b (pnum lw v9) w) := by
  refine xm_pr hl (by decide +kernel) (Nat.le_of_ble_eq_true rfl) rfl (Or.inl ⟨_, rfl⟩) ?_
  intro p e s m args below meth c A Q hC hR
  show xv p l e rmS7 s m args below meth c D A 2 Q (sbW dA b v cap f lw.1 ml) 0 0 0 [(0, .ref b), (1, .int (nI v9))] []
  refine xv_aload_n (pc := 0) hC dS_bpi_0 0 rfl rfl ?_
  refine xv_iload_n (pc := 1) hC dS_bpi_1 1 rfl rfl ?_
  refine xv_callPpr (As := [.int (nI v9)]) (pc := 2) (pre := []) (post := []) (w0 := (sbW dA b v cap f lw.1 ml)) (ci := 9) hC rfl (kS_api hl h1 h2 hf ht hv h3) fP_api wf_622 ⟨0, 9, _, _, _, rfl, rfl⟩ rfl ⟨(Nat.le_of_ble_eq_true rfl), (Nat.le_of_ble_eq_true rfl)⟩ rfl (Nat.le_of_ble_eq_true rfl) dS_bpi_2 ⟨(Nat.le_of_ble_eq_true rfl), (Nat.le_of_ble_eq_true rfl)⟩ (by simp) (fun w1 a h9 => ?_)
  obtain ⟨rfl, h9⟩ := h9
  rw [List.append_nil, List.nil_append]
  refine xv_pop (pc := 5) hC dS_bpi_5 rfl ?_
  refine xv_aload_n (pc := 6) hC dS_bpi_6 0 rfl rfl ?_
  exact hR _ _ _ _ _ _ ⟨rfl, h9⟩ (Nat.le_of_ble_eq_true rfl) (Nat.le_of_ble_eq_true rfl) dS_bpi_7
set_option maxRecDepth 100000 in
theorem kS_bsl {l : Launch} {D : va_G} {dA : Nat → ClassId} {sa : String → Nat → Nat} (hl : l.stackTraces = false) {b v cap : Nat} {f : Nat → Int32} {ml : Int32} {lw : LW} (h1 : lw.1 ≤ cap) (h2 : cap ≤ 160) (hf : okb f) (ht : ∀ j, j < lw.1 → f j = nI (lw.2 j)) : CPv l D dA sa ⟨"java/lang/StringBuilder", "setLength", "(I)V"⟩ (wz ⟨"java/lang/StringBuilder", "setLength", "(I)V"⟩ prog_28_method_89_code 2 none) rmS7 [.ref b, .int 0] (sbW dA b v cap f lw.1 ml) (sbT dA b (0, lw.2)) := by
  refine xm_pv hl (by decide +kernel) (Nat.le_of_ble_eq_true rfl) rfl ?_
  intro p e s m args below meth c A Q hC hR
  show xv p l e rmS7 s m args below meth c D A 2 Q (sbW dA b v cap f lw.1 ml) 0 0 0 [(0, .ref b), (1, .int 0)] []
  refine xv_aload_n (pc := 0) hC dS_bsl_0 0 rfl rfl ?_
  refine xv_iload_n (pc := 1) hC dS_bsl_1 1 rfl rfl ?_
  refine xv_callPpv (As := [.int 0]) (pc := 2) (pre := []) (post := []) (w0 := (sbW dA b v cap f lw.1 ml)) (ci := 9) hC rfl (kS_sle hl h1 h2 hf ht) fP_sle wf_489 ⟨0, 9, _, _, _, rfl, rfl⟩ rfl ⟨(Nat.le_of_ble_eq_true rfl), (Nat.le_of_ble_eq_true rfl)⟩ rfl (Nat.le_of_ble_eq_true rfl) dS_bsl_2 ⟨(Nat.le_of_ble_eq_true rfl), (Nat.le_of_ble_eq_true rfl)⟩ (by simp) (fun w1 h9 => ?_)
  rw [List.append_nil, List.nil_append]
  exact hR _ _ _ _ _ h9 (Nat.le_of_ble_eq_true rfl) (Nat.le_of_ble_eq_true rfl) dS_bsl_5
abbrev rmS8 : Room := ({ frames := 3, cells := 0, slots := 0, locals := 90 } : Room)
set_option maxRecDepth 100000 in
theorem kS_ble {l : Launch} {D : va_G} {dA : Nat → ClassId} {sa : String → Nat → Nat} (hl : l.stackTraces = false) {b v cap n : Nat} {f : Nat → Int32} {ml : Int32} : CTi l D dA sa ⟨"java/lang/StringBuilder", "length", "()I"⟩ (wz ⟨"java/lang/StringBuilder", "length", "()I"⟩ prog_28_method_93_code 1 (some .int)) rmS8 [.ref b] (sbW dA b v cap f n ml) (nI n) (sbW dA b v cap f n ml) := by
  refine xm_i hl (by decide +kernel) (Nat.le_of_ble_eq_true rfl) rfl ?_
  intro p e s m args below meth c A Q hC hR
  show xv p l e rmS8 s m args below meth c D A 1 Q (sbW dA b v cap f n ml) 0 0 0 [(0, .ref b)] []
  refine xv_aload_n (pc := 0) hC dS_ble_0 0 rfl rfl ?_
  refine xv_callPi (As := []) (pc := 1) (pre := []) (post := []) (w0 := (sbW dA b v cap f n ml)) (w2 := (sbW dA b v cap f n ml)) (ci := 9) hC rfl (kS_len hl) fP_len wf_667 ⟨0, 9, _, _, _, rfl, rfl⟩ rfl ⟨(Nat.le_of_ble_eq_true rfl), (Nat.le_of_ble_eq_true rfl)⟩ rfl (Nat.le_of_ble_eq_true rfl) dS_ble_1 ⟨(Nat.le_of_ble_eq_true rfl), (Nat.le_of_ble_eq_true rfl)⟩ (by simp) (by simp) ?_
  exact hR _ _ _ _ (Nat.le_of_ble_eq_true rfl) (Nat.le_of_ble_eq_true rfl) dS_ble_4
set_option maxRecDepth 100000 in
theorem kS_bch {l : Launch} {D : va_G} {dA : Nat → ClassId} {sa : String → Nat → Nat} (hl : l.stackTraces = false) {b v cap n : Nat} {f : Nat → Int32} {ml : Int32} {i9 t9 : Nat} (h1 : i9 < n) (h2 : n ≤ cap) (h3 : cap ≤ 160) (h4 : f i9 = nI t9) (h5 : t9 < 128) : CTi l D dA sa ⟨"java/lang/StringBuilder", "charAt", "(I)C"⟩ (wz ⟨"java/lang/StringBuilder", "charAt", "(I)C"⟩ prog_28_method_88_code 2 (some .char)) rmS8 [.ref b, .int (nI i9)] (sbW dA b v cap f n ml) (nI t9) (sbW dA b v cap f n ml) := by
  refine xm_z hl (by decide +kernel) (Nat.le_of_ble_eq_true rfl) rfl ?_
  intro p e s m args below meth c A Q hC hR
  show xv p l e rmS8 s m args below meth c D A 2 Q (sbW dA b v cap f n ml) 0 0 0 [(0, .ref b), (1, .int (nI i9))] []
  refine xv_aload_n (pc := 0) hC dS_bch_0 0 rfl rfl ?_
  refine xv_iload_n (pc := 1) hC dS_bch_1 1 rfl rfl ?_
  refine xv_callPi (As := [.int (nI i9)]) (pc := 2) (pre := []) (post := []) (w0 := (sbW dA b v cap f n ml)) (w2 := (sbW dA b v cap f n ml)) (ci := 9) hC rfl (kS_cha hl h1 h2 h3 h4 h5) fP_cha wf_1405 ⟨0, 9, _, _, _, rfl, rfl⟩ rfl ⟨(Nat.le_of_ble_eq_true rfl), (Nat.le_of_ble_eq_true rfl)⟩ rfl (Nat.le_of_ble_eq_true rfl) dS_bch_2 ⟨(Nat.le_of_ble_eq_true rfl), (Nat.le_of_ble_eq_true rfl)⟩ (by simp) (by simp) ?_
  have h9 := ic_b t9 h5
  exact hR _ _ _ _ (by have h8 := h9.1; rw [h9.2] at h8; exact h8) (Nat.le_of_ble_eq_true rfl) (Nat.le_of_ble_eq_true rfl) dS_bch_5
