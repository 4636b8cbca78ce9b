theorem dJs_pchk_0 : decode prog_40_method_11_code 0 = .ok (.iload_n 0, 1) := by decide +kernel
theorem dJs_pchk_1 : decode prog_40_method_11_code 1 = .ok (.ifCond .lt 8, 3) := by decide +kernel
theorem dJs_pchk_4 : decode prog_40_method_11_code 4 = .ok (.iload_n 0, 1) := by decide +kernel
theorem dJs_pchk_5 : decode prog_40_method_11_code 5 = .ok (.iload_n 1, 1) := by decide +kernel
theorem dJs_pchk_6 : decode prog_40_method_11_code 6 = .ok (.if_icmp .lt 10, 3) := by decide +kernel
theorem dJs_pchk_9 : decode prog_40_method_11_code 9 = .ok (.aload_n 2, 1) := by decide +kernel
theorem dJs_pchk_10 : decode prog_40_method_11_code 10 = .ok (.iload_n 0, 1) := by decide +kernel
theorem dJs_pchk_11 : decode prog_40_method_11_code 11 = .ok (.iload_n 1, 1) := by decide +kernel
theorem dJs_pchk_12 : decode prog_40_method_11_code 12 = .ok (.invokestatic 95, 3) := by decide +kernel
theorem dJs_pchk_15 : decode prog_40_method_11_code 15 = .ok (.athrow, 1) := by decide +kernel
theorem dJs_pchk_16 : decode prog_40_method_11_code 16 = .ok (.iload_n 0, 1) := by decide +kernel
theorem dJs_pchk_17 : decode prog_40_method_11_code 17 = .ok (.ireturn, 1) := by decide +kernel
theorem dJs_chk_0 : decode prog_27_method_155_code 0 = .ok (.iload_n 0, 1) := by decide +kernel
theorem dJs_chk_1 : decode prog_27_method_155_code 1 = .ok (.iload_n 1, 1) := by decide +kernel
theorem dJs_chk_2 : decode prog_27_method_155_code 2 = .ok (.getstatic 1053, 3) := by decide +kernel
theorem dJs_chk_5 : decode prog_27_method_155_code 5 = .ok (.invokestatic 1059, 3) := by decide +kernel
theorem dJs_chk_8 : decode prog_27_method_155_code 8 = .ok (.pop, 1) := by decide +kernel
theorem dJs_chk_9 : decode prog_27_method_155_code 9 = .ok (.return_, 1) := by decide +kernel
theorem dJs_cod_0 : decode prog_27_method_152_code 0 = .ok (.getstatic 38, 3) := by decide +kernel
theorem dJs_cod_3 : decode prog_27_method_152_code 3 = .ok (.ifCond .eq 10, 3) := by decide +kernel
theorem dJs_cod_6 : decode prog_27_method_152_code 6 = .ok (.aload_n 0, 1) := by decide +kernel
theorem dJs_cod_7 : decode prog_27_method_152_code 7 = .ok (.getfield 15, 3) := by decide +kernel
theorem dJs_cod_10 : decode prog_27_method_152_code 10 = .ok (.goto 4, 3) := by decide +kernel
theorem dJs_cod_13 : decode prog_27_method_152_code 13 = .ok (.iconst 1, 1) := by decide +kernel
theorem dJs_cod_14 : decode prog_27_method_152_code 14 = .ok (.ireturn, 1) := by decide +kernel
theorem dJs_lat_0 : decode prog_27_method_154_code 0 = .ok (.getstatic 38, 3) := by decide +kernel
theorem dJs_lat_3 : decode prog_27_method_154_code 3 = .ok (.ifCond .eq 14, 3) := by decide +kernel
theorem dJs_lat_6 : decode prog_27_method_154_code 6 = .ok (.aload_n 0, 1) := by decide +kernel
theorem dJs_lat_7 : decode prog_27_method_154_code 7 = .ok (.getfield 15, 3) := by decide +kernel
theorem dJs_lat_10 : decode prog_27_method_154_code 10 = .ok (.ifCond .ne 7, 3) := by decide +kernel
theorem dJs_lat_13 : decode prog_27_method_154_code 13 = .ok (.iconst 1, 1) := by decide +kernel
theorem dJs_lat_14 : decode prog_27_method_154_code 14 = .ok (.goto 4, 3) := by decide +kernel
theorem dJs_lat_17 : decode prog_27_method_154_code 17 = .ok (.iconst 0, 1) := by decide +kernel
theorem dJs_lat_18 : decode prog_27_method_154_code 18 = .ok (.ireturn, 1) := by decide +kernel
theorem dJs_len_0 : decode prog_27_method_54_code 0 = .ok (.aload_n 0, 1) := by decide +kernel
theorem dJs_len_1 : decode prog_27_method_54_code 1 = .ok (.getfield 9, 3) := by decide +kernel
theorem dJs_len_4 : decode prog_27_method_54_code 4 = .ok (.arraylength, 1) := by decide +kernel
theorem dJs_len_5 : decode prog_27_method_54_code 5 = .ok (.aload_n 0, 1) := by decide +kernel
theorem dJs_len_6 : decode prog_27_method_54_code 6 = .ok (.invokevirtual 335, 3) := by decide +kernel
theorem dJs_len_9 : decode prog_27_method_54_code 9 = .ok (.ishr, 1) := by decide +kernel
theorem dJs_len_10 : decode prog_27_method_54_code 10 = .ok (.ireturn, 1) := by decide +kernel
theorem dJs_cha_0 : decode prog_27_method_56_code 0 = .ok (.aload_n 0, 1) := by decide +kernel
theorem dJs_cha_1 : decode prog_27_method_56_code 1 = .ok (.invokevirtual 492, 3) := by decide +kernel
theorem dJs_cha_4 : decode prog_27_method_56_code 4 = .ok (.ifCond .eq 12, 3) := by decide +kernel
theorem dJs_cha_7 : decode prog_27_method_56_code 7 = .ok (.aload_n 0, 1) := by decide +kernel
theorem dJs_cha_8 : decode prog_27_method_56_code 8 = .ok (.getfield 9, 3) := by decide +kernel
theorem dJs_cha_11 : decode prog_27_method_56_code 11 = .ok (.iload_n 1, 1) := by decide +kernel
theorem dJs_cha_12 : decode prog_27_method_56_code 12 = .ok (.invokestatic 495, 3) := by decide +kernel
theorem dJs_cha_15 : decode prog_27_method_56_code 15 = .ok (.ireturn, 1) := by decide +kernel
theorem dJs_cha_16 : decode prog_27_method_56_code 16 = .ok (.aload_n 0, 1) := by decide +kernel
theorem dJs_cha_17 : decode prog_27_method_56_code 17 = .ok (.getfield 9, 3) := by decide +kernel
theorem dJs_cha_20 : decode prog_27_method_56_code 20 = .ok (.iload_n 1, 1) := by decide +kernel
theorem dJs_cha_21 : decode prog_27_method_56_code 21 = .ok (.invokestatic 498, 3) := by decide +kernel
theorem dJs_cha_24 : decode prog_27_method_56_code 24 = .ok (.ireturn, 1) := by decide +kernel
theorem dJs_lch_0 : decode prog_30_method_2_code 0 = .ok (.iload_n 1, 1) := by decide +kernel
theorem dJs_lch_1 : decode prog_30_method_2_code 1 = .ok (.aload_n 0, 1) := by decide +kernel
theorem dJs_lch_2 : decode prog_30_method_2_code 2 = .ok (.arraylength, 1) := by decide +kernel
theorem dJs_lch_3 : decode prog_30_method_2_code 3 = .ok (.invokestatic 9, 3) := by decide +kernel
theorem dJs_lch_6 : decode prog_30_method_2_code 6 = .ok (.aload_n 0, 1) := by decide +kernel
theorem dJs_lch_7 : decode prog_30_method_2_code 7 = .ok (.iload_n 1, 1) := by decide +kernel
theorem dJs_lch_8 : decode prog_30_method_2_code 8 = .ok (.baload, 1) := by decide +kernel
theorem dJs_lch_9 : decode prog_30_method_2_code 9 = .ok (.sipush 255, 3) := by decide +kernel
theorem dJs_lch_12 : decode prog_30_method_2_code 12 = .ok (.iand, 1) := by decide +kernel
theorem dJs_lch_13 : decode prog_30_method_2_code 13 = .ok (.i2c, 1) := by decide +kernel
theorem dJs_lch_14 : decode prog_30_method_2_code 14 = .ok (.ireturn, 1) := by decide +kernel
abbrev rmJ0 : Room := { frames := 0, cells := 0, slots := 0, locals := 0 }
set_option maxRecDepth 100000 in
theorem kJ_pchk_n {l : Launch} {D : va_G} {dA : Nat → ClassId} {sa : String → Nat → Nat} {w : va_W} (hl : l.stackTraces = false) {t : Nat} {i n : Int32} (h1 : ¬ i < 0) (h2 : i < n) : CTi l D dA sa ⟨"jdk/internal/util/Preconditions", "checkIndex", "(IILjava/util/function/BiFunction;)I"⟩ (wz ⟨"jdk/internal/util/Preconditions", "checkIndex", "(IILjava/util/function/BiFunction;)I"⟩ prog_40_method_11_code 3 (some .int)) rmJ0 [.int i, .int n, .null] w i w := by
  refine xm_i hl (by decide +kernel) (Nat.le_of_ble_eq_true rfl) rfl ?_
  intro p e s m args below meth c A Q hC hR
  show xv p l e rmJ0 s m args below meth c D A 3 Q w 0 0 0 [(0, .int i), (1, .int n), (2, .null)] []
  refine xv_iload_n (pc := 0) hC dJs_pchk_0 0 rfl rfl ?_
  refine xv_if_lt (tgt := 9) (pc := 1) hC dJs_pchk_1 (by decide) (fun c1 => absurd c1 h1) (fun c1 => ?_)
  refine xv_iload_n (pc := 4) hC dJs_pchk_4 0 rfl rfl ?_
  refine xv_iload_n (pc := 5) hC dJs_pchk_5 1 rfl rfl ?_
  refine xv_icmp_lt (tgt := 16) (pc := 6) hC dJs_pchk_6 (by decide) (fun c2 => ?_) (fun c2 => absurd h2 c2)
  refine xv_iload_n (pc := 16) hC dJs_pchk_16 0 rfl rfl ?_
  exact hR _ _ _ _ (Nat.le_of_ble_eq_true rfl) (Nat.le_of_ble_eq_true rfl) dJs_pchk_17
set_option maxRecDepth 100000 in
theorem kJ_pchk_r {l : Launch} {D : va_G} {dA : Nat → ClassId} {sa : String → Nat → Nat} {w : va_W} (hl : l.stackTraces = false) {t : Nat} {i n : Int32} (h1 : ¬ i < 0) (h2 : i < n) : CTi l D dA sa ⟨"jdk/internal/util/Preconditions", "checkIndex", "(IILjava/util/function/BiFunction;)I"⟩ (wz ⟨"jdk/internal/util/Preconditions", "checkIndex", "(IILjava/util/function/BiFunction;)I"⟩ prog_40_method_11_code 3 (some .int)) rmJ0 [.int i, .int n, .ref t] w i w := by
  refine xm_i hl (by decide +kernel) (Nat.le_of_ble_eq_true rfl) rfl ?_
  intro p e s m args below meth c A Q hC hR
  show xv p l e rmJ0 s m args below meth c D A 3 Q w 0 0 0 [(0, .int i), (1, .int n), (2, .ref t)] []
  refine xv_iload_n (pc := 0) hC dJs_pchk_0 0 rfl rfl ?_
  refine xv_if_lt (tgt := 9) (pc := 1) hC dJs_pchk_1 (by decide) (fun c1 => absurd c1 h1) (fun c1 => ?_)
  refine xv_iload_n (pc := 4) hC dJs_pchk_4 0 rfl rfl ?_
  refine xv_iload_n (pc := 5) hC dJs_pchk_5 1 rfl rfl ?_
  refine xv_icmp_lt (tgt := 16) (pc := 6) hC dJs_pchk_6 (by decide) (fun c2 => ?_) (fun c2 => absurd h2 c2)
  refine xv_iload_n (pc := 16) hC dJs_pchk_16 0 rfl rfl ?_
  exact hR _ _ _ _ (Nat.le_of_ble_eq_true rfl) (Nat.le_of_ble_eq_true rfl) dJs_pchk_17
abbrev rmJ1 : Room := ({ frames := 1, cells := 0, slots := 0, locals := 22 } : Room)
set_option maxRecDepth 100000 in
theorem kJ_chk {l : Launch} {D : va_G} {dA : Nat → ClassId} {sa : String → Nat → Nat} {w : va_W} (hl : l.stackTraces = false) {i n : Int32} (h1 : ¬ i < 0) (h2 : i < n) : CTv l D dA sa ⟨"java/lang/String", "checkIndex", "(II)V"⟩ (wz ⟨"java/lang/String", "checkIndex", "(II)V"⟩ prog_27_method_155_code 2 none) rmJ1 [.int i, .int n] w w := by
  refine xm_v hl (by decide +kernel) (Nat.le_of_ble_eq_true rfl) rfl ?_
  intro p e s m args below meth c A Q hC hR
  show xv p l e rmJ1 s m args below meth c D A 2 Q w 0 0 0 [(0, .int i), (1, .int n)] []
  refine xv_iload_n (pc := 0) hC dJs_chk_0 0 rfl rfl ?_
  refine xv_iload_n (pc := 1) hC dJs_chk_1 1 rfl rfl ?_
  refine xv_gsf (pc := 2) hC dJs_chk_2 wf_561 (fun v hv => ?_)
  rcases hv with rfl | ⟨t, rfl⟩
  · refine xv_callSi0 (As := [.int i, .int n, .null]) (pc := 5) hC (kJ_pchk_n (t := 0) hl h1 h2) fS_J3_checkIndex_8e157 wf_849 rfl ⟨(Nat.le_of_ble_eq_true rfl), (Nat.le_of_ble_eq_true rfl)⟩ rfl (Nat.le_of_ble_eq_true rfl) dJs_chk_5 ⟨(Nat.le_of_ble_eq_true rfl), (Nat.le_of_ble_eq_true rfl)⟩ ?_
    refine xv_pop (pc := 8) hC dJs_chk_8 rfl ?_
    exact hR _ _ _ _ (Nat.le_of_ble_eq_true rfl) (Nat.le_of_ble_eq_true rfl) dJs_chk_9
  · refine xv_callSi0 (As := [.int i, .int n, .ref t]) (pc := 5) hC (kJ_pchk_r (t := t) hl h1 h2) fS_J3_checkIndex_8e157 wf_849 rfl ⟨(Nat.le_of_ble_eq_true rfl), (Nat.le_of_ble_eq_true rfl)⟩ rfl (Nat.le_of_ble_eq_true rfl) dJs_chk_5 ⟨(Nat.le_of_ble_eq_true rfl), (Nat.le_of_ble_eq_true rfl)⟩ ?_
    refine xv_pop (pc := 8) hC dJs_chk_8 rfl ?_
    exact hR _ _ _ _ (Nat.le_of_ble_eq_true rfl) (Nat.le_of_ble_eq_true rfl) dJs_chk_9
set_option maxRecDepth 100000 in
theorem kJ_cod {l : Launch} {D : va_G} {dA : Nat → ClassId} {sa : String → Nat → Nat} {w : va_W} (hl : l.stackTraces = false) {i9 : Nat} (hi9 : i9 < 9) : CTi l D dA sa ⟨"java/lang/String", "coder", "()B"⟩ (wz ⟨"java/lang/String", "coder", "()B"⟩ prog_27_method_152_code 1 (some .byte)) rmJ0 [.ref (adS sa i9)] w 0 w := by
  refine xm_z hl (by decide +kernel) (Nat.le_of_ble_eq_true rfl) rfl ?_
  intro p e s m args below meth c A Q hC hR
  show xv p l e rmJ0 s m args below meth c D A 1 Q w 0 0 0 [(0, .ref (adS sa i9))] []
  refine xv_gcs (pc := 0) hC dJs_cod_0 wf_583 ?_
  refine xv_if_eq (tgt := 13) (pc := 3) hC dJs_cod_3 (by decide) (fun c1 => absurd c1 (by decide)) (fun c1 => ?_)
  refine xv_aload_n (pc := 6) hC dJs_cod_6 0 rfl rfl ?_
  refine xv_scod (pc := 7) hC dJs_cod_7 hi9 wf_770 ?_
  refine xv_goto (tgt := 14) (pc := 10) hC dJs_cod_10 (by decide) ?_
  exact hR _ _ _ _ (by decide) (Nat.le_of_ble_eq_true rfl) (Nat.le_of_ble_eq_true rfl) dJs_cod_14
set_option maxRecDepth 100000 in
theorem kJ_lat {l : Launch} {D : va_G} {dA : Nat → ClassId} {sa : String → Nat → Nat} {w : va_W} (hl : l.stackTraces = false) {i9 : Nat} (hi9 : i9 < 9) : CTi l D dA sa ⟨"java/lang/String", "isLatin1", "()Z"⟩ (wz ⟨"java/lang/String", "isLatin1", "()Z"⟩ prog_27_method_154_code 1 (some .boolean)) rmJ0 [.ref (adS sa i9)] w 1 w := by
  refine xm_z hl (by decide +kernel) (Nat.le_of_ble_eq_true rfl) rfl ?_
  intro p e s m args below meth c A Q hC hR
  show xv p l e rmJ0 s m args below meth c D A 1 Q w 0 0 0 [(0, .ref (adS sa i9))] []
  refine xv_gcs (pc := 0) hC dJs_lat_0 wf_583 ?_
  refine xv_if_eq (tgt := 17) (pc := 3) hC dJs_lat_3 (by decide) (fun c1 => absurd c1 (by decide)) (fun c1 => ?_)
  refine xv_aload_n (pc := 6) hC dJs_lat_6 0 rfl rfl ?_
  refine xv_scod (pc := 7) hC dJs_lat_7 hi9 wf_770 ?_
  refine xv_if_ne (tgt := 17) (pc := 10) hC dJs_lat_10 (by decide) (fun c1 => absurd rfl c1) (fun c1 => ?_)
  refine xv_iconst (v := 1) (pc := 13) hC dJs_lat_13 (by decide) ?_
  refine xv_goto (tgt := 18) (pc := 14) hC dJs_lat_14 (by decide) ?_
  exact hR _ _ _ _ (by decide) (Nat.le_of_ble_eq_true rfl) (Nat.le_of_ble_eq_true rfl) dJs_lat_18
abbrev rmJ2 : Room := ({ frames := 1, cells := 0, slots := 0, locals := 20 } : Room)
set_option maxRecDepth 100000 in
theorem kJ_len {l : Launch} {D : va_G} {dA : Nat → ClassId} {sa : String → Nat → Nat} {w : va_W} (hl : l.stackTraces = false) {i9 : Nat} (hi9 : i9 < 9) : CTi l D dA sa ⟨"java/lang/String", "length", "()I"⟩ (wz ⟨"java/lang/String", "length", "()I"⟩ prog_27_method_54_code 1 (some .int)) rmJ2 [.ref (adS sa i9)] w ((nI (xe_sl.getD i9 0)) >>> ((0 : Int32) &&& 31)) w := by
  refine xm_i hl (by decide +kernel) (Nat.le_of_ble_eq_true rfl) rfl ?_
  intro p e s m args below meth c A Q hC hR
  show xv p l e rmJ2 s m args below meth c D A 1 Q w 0 0 0 [(0, .ref (adS sa i9))] []
  refine xv_aload_n (pc := 0) hC dJs_len_0 0 rfl rfl ?_
  refine xv_sval (pc := 1) hC dJs_len_1 hi9 wf_769 ?_
  refine xv_slen (pc := 4) hC dJs_len_4 hi9 ?_
  refine xv_aload_n (pc := 5) hC dJs_len_5 0 rfl rfl ?_
  refine xv_callTi0 (As := []) (pc := 6) hC (kJ_cod hl hi9) fV_J0_coder_7d493 wf_579 rfl hi9 rfl rfl ⟨(Nat.le_of_ble_eq_true rfl), (Nat.le_of_ble_eq_true rfl)⟩ rfl (Nat.le_of_ble_eq_true rfl) dJs_len_6 ⟨(Nat.le_of_ble_eq_true rfl), (Nat.le_of_ble_eq_true rfl)⟩ ?_
  refine xv_ishr (pc := 9) hC dJs_len_9 ?_
  exact hR _ _ _ _ (Nat.le_of_ble_eq_true rfl) (Nat.le_of_ble_eq_true rfl) dJs_len_10
abbrev rmJ3 : Room := ({ frames := 2, cells := 0, slots := 0, locals := 44 } : Room)
set_option maxRecDepth 100000 in
theorem kJ_lch {l : Launch} {D : va_G} {dA : Nat → ClassId} {sa : String → Nat → Nat} {w : va_W} (hl : l.stackTraces = false) {i9 : Nat} (hi9 : i9 < 9) {i : Int32} (h1 : ¬ i < 0) (h2 : i < nI (xe_sl.getD i9 0)) (h3 : vin i (xe_sl.getD i9 0) = true) (h4 : nch (ichar (((xe_sb.getD i9 []).getD i.toNatClampNeg 0) &&& 255)) = true) : CTi l D dA sa ⟨"java/lang/StringLatin1", "charAt", "([BI)C"⟩ (wz ⟨"java/lang/StringLatin1", "charAt", "([BI)C"⟩ prog_30_method_2_code 2 (some .char)) rmJ3 [.ref (sa "V" i9), .int i] w (ichar (((xe_sb.getD i9 []).getD i.toNatClampNeg 0) &&& 255)) w := by
  refine xm_z hl (by decide +kernel) (Nat.le_of_ble_eq_true rfl) rfl ?_
  intro p e s m args below meth c A Q hC hR
  show xv p l e rmJ3 s m args below meth c D A 2 Q w 0 0 0 [(0, .ref (sa "V" i9)), (1, .int i)] []
  refine xv_iload_n (pc := 0) hC dJs_lch_0 1 rfl rfl ?_
  refine xv_aload_n (pc := 1) hC dJs_lch_1 0 rfl rfl ?_
  refine xv_slen (pc := 2) hC dJs_lch_2 hi9 ?_
  refine xv_callSv0 (As := [.int i, .int (nI (xe_sl.getD i9 0))]) (pc := 3) hC (kJ_chk hl h1 h2) fS_J0_checkIndex_df160 wf_1474 rfl ⟨(Nat.le_of_ble_eq_true rfl), (Nat.le_of_ble_eq_true rfl)⟩ rfl (Nat.le_of_ble_eq_true rfl) dJs_lch_3 ⟨(Nat.le_of_ble_eq_true rfl), (Nat.le_of_ble_eq_true rfl)⟩ ?_
  refine xv_aload_n (pc := 6) hC dJs_lch_6 0 rfl rfl ?_
  refine xv_iload_n (pc := 7) hC dJs_lch_7 1 rfl rfl ?_
  refine xv_sbld (pc := 8) hC dJs_lch_8 hi9 h3 ?_
  refine xv_sipush (v := 255) (pc := 9) hC dJs_lch_9 (by decide) ?_
  refine xv_iand (pc := 12) hC dJs_lch_12 ?_
  refine xv_i2c (pc := 13) hC dJs_lch_13 ?_
  exact hR _ _ _ _ (nch_n h4) (Nat.le_of_ble_eq_true rfl) (Nat.le_of_ble_eq_true rfl) dJs_lch_14
abbrev rmJ4 : Room := ({ frames := 3, cells := 0, slots := 0, locals := 66 } : Room)
set_option maxRecDepth 100000 in
theorem kJ_cha {l : Launch} {D : va_G} {dA : Nat → ClassId} {sa : String → Nat → Nat} {w : va_W} (hl : l.stackTraces = false) {i9 : Nat} (hi9 : i9 < 9) {i : Int32} (h1 : ¬ i < 0) (h2 : i < nI (xe_sl.getD i9 0)) (h3 : vin i (xe_sl.getD i9 0) = true) (h4 : nch (ichar (((xe_sb.getD i9 []).getD i.toNatClampNeg 0) &&& 255)) = true) : CTi l D dA sa ⟨"java/lang/String", "charAt", "(I)C"⟩ (wz ⟨"java/lang/String", "charAt", "(I)C"⟩ prog_27_method_56_code 2 (some .char)) rmJ4 [.ref (adS sa i9), .int i] w (ichar (((xe_sb.getD i9 []).getD i.toNatClampNeg 0) &&& 255)) w := by
  refine xm_z hl (by decide +kernel) (Nat.le_of_ble_eq_true rfl) rfl ?_
  intro p e s m args below meth c A Q hC hR
  show xv p l e rmJ4 s m args below meth c D A 2 Q w 0 0 0 [(0, .ref (adS sa i9)), (1, .int i)] []
  refine xv_aload_n (pc := 0) hC dJs_cha_0 0 rfl rfl ?_
  refine xv_callTi0 (As := []) (pc := 1) hC (kJ_lat hl hi9) fV_J0_isLatin1_aae02 wf_1467 rfl hi9 rfl rfl ⟨(Nat.le_of_ble_eq_true rfl), (Nat.le_of_ble_eq_true rfl)⟩ rfl (Nat.le_of_ble_eq_true rfl) dJs_cha_1 ⟨(Nat.le_of_ble_eq_true rfl), (Nat.le_of_ble_eq_true rfl)⟩ ?_
  refine xv_if_eq (tgt := 16) (pc := 4) hC dJs_cha_4 (by decide) (fun c1 => absurd c1 (by decide)) (fun c1 => ?_)
  refine xv_aload_n (pc := 7) hC dJs_cha_7 0 rfl rfl ?_
  refine xv_sval (pc := 8) hC dJs_cha_8 hi9 wf_769 ?_
  refine xv_iload_n (pc := 11) hC dJs_cha_11 1 rfl rfl ?_
  refine xv_callSi0 (As := [.ref (sa "V" i9), .int i]) (pc := 12) hC (kJ_lch hl hi9 h1 h2 h3 h4) fS_J1_charAt_3b067 wf_1471 rfl ⟨(Nat.le_of_ble_eq_true rfl), (Nat.le_of_ble_eq_true rfl)⟩ rfl (Nat.le_of_ble_eq_true rfl) dJs_cha_12 ⟨(Nat.le_of_ble_eq_true rfl), (Nat.le_of_ble_eq_true rfl)⟩ ?_
  exact hR _ _ _ _ (nch_n h4) (Nat.le_of_ble_eq_true rfl) (Nat.le_of_ble_eq_true rfl) dJs_cha_15
def sX4_wordOf (x0 : Int32) : Nat := if x0 = 0 then 0 else if x0 = 1 then 1 else if x0 = 2 then 2 else if x0 = 3 then 3 else if x0 = 4 then 4 else if x0 = 5 then 5 else if x0 = 6 then 6 else if x0 = 7 then 7 else 8
theorem wordOf_lt (x0 : Int32) : sX4_wordOf x0 < 9 := by unfold sX4_wordOf; split <;> (try split) <;> (try split) <;> (try split) <;> (try split) <;> (try split) <;> (try split) <;> (try split) <;> decide
set_option maxRecDepth 100000 in
theorem kX4_wordOf {l : Launch} {D : va_G} {dA : Nat → ClassId} {sa : String → Nat → Nat} {w : va_W} (hl : l.stackTraces = false) {x0 : Int32} : CTr l D dA sa yX4_wordOf (wz yX4_wordOf cX4_wordOf 1 (some (.object "java/lang/String"))) rmJ0 [.int x0] w (adS sa) (sX4_wordOf x0) w := by
  refine xm_r hl (by decide +kernel) (Nat.le_of_ble_eq_true rfl) rfl ?_
  intro p e s m args below meth c A Q hC hR
  show xv p l e rmJ0 s m args below meth c D A 1 Q w 0 0 0 [(0, .int x0)] []
  refine xv_iload_n (pc := 0) hC dX4_wordOf_0 0 rfl rfl ?_
  by_cases c0 : x0 = 0
  · refine xv_tabIn (tgt := 48) (pc := 1) hC dX4_wordOf_1 0 c0 (by decide) (by decide) rfl (by decide) ?_
    refine xv_ldcs (pc := 48) hC dX4_wordOf_48 (by decide +kernel : (_, 75, "switch") ∈ xe_S) ?_
    have e9 : sX4_wordOf x0 = 0 := by unfold sX4_wordOf; simp [c0]
    have h9 := hR 0 0 50 [(0, .int x0)] (Nat.le_of_ble_eq_true rfl) (Nat.le_of_ble_eq_true rfl) dX4_wordOf_50
    rw [e9] at h9
    exact h9
  by_cases c1 : x0 = 1
  · refine xv_tabIn (tgt := 51) (pc := 1) hC dX4_wordOf_1 1 c1 (by decide) (by decide) rfl (by decide) ?_
    refine xv_ldcs (pc := 51) hC dX4_wordOf_51 (by decide +kernel : (_, 77, "trunk ") ∈ xe_S) ?_
    have e9 : sX4_wordOf x0 = 1 := by unfold sX4_wordOf; simp [c1]
    have h9 := hR 0 0 53 [(0, .int x0)] (Nat.le_of_ble_eq_true rfl) (Nat.le_of_ble_eq_true rfl) dX4_wordOf_53
    rw [e9] at h9
    exact h9
  by_cases c2 : x0 = 2
  · refine xv_tabIn (tgt := 54) (pc := 1) hC dX4_wordOf_1 2 c2 (by decide) (by decide) rfl (by decide) ?_
    refine xv_ldcs (pc := 54) hC dX4_wordOf_54 (by decide +kernel : (_, 79, "user ") ∈ xe_S) ?_
    have e9 : sX4_wordOf x0 = 2 := by unfold sX4_wordOf; simp [c2]
    have h9 := hR 0 0 56 [(0, .int x0)] (Nat.le_of_ble_eq_true rfl) (Nat.le_of_ble_eq_true rfl) dX4_wordOf_56
    rw [e9] at h9
    exact h9
  by_cases c3 : x0 = 3
  · refine xv_tabIn (tgt := 57) (pc := 1) hC dX4_wordOf_1 3 c3 (by decide) (by decide) rfl (by decide) ?_
    refine xv_ldcs (pc := 57) hC dX4_wordOf_57 (by decide +kernel : (_, 81, "call ") ∈ xe_S) ?_
    have e9 : sX4_wordOf x0 = 3 := by unfold sX4_wordOf; simp [c3]
    have h9 := hR 0 0 59 [(0, .int x0)] (Nat.le_of_ble_eq_true rfl) (Nat.le_of_ble_eq_true rfl) dX4_wordOf_59
    rw [e9] at h9
    exact h9
  by_cases c4 : x0 = 4
  · refine xv_tabIn (tgt := 60) (pc := 1) hC dX4_wordOf_1 4 c4 (by decide) (by decide) rfl (by decide) ?_
    refine xv_ldcs (pc := 60) hC dX4_wordOf_60 (by decide +kernel : (_, 83, "hang ") ∈ xe_S) ?_
    have e9 : sX4_wordOf x0 = 4 := by unfold sX4_wordOf; simp [c4]
    have h9 := hR 0 0 62 [(0, .int x0)] (Nat.le_of_ble_eq_true rfl) (Nat.le_of_ble_eq_true rfl) dX4_wordOf_62
    rw [e9] at h9
    exact h9
  by_cases c5 : x0 = 5
  · refine xv_tabIn (tgt := 63) (pc := 1) hC dX4_wordOf_1 5 c5 (by decide) (by decide) rfl (by decide) ?_
    refine xv_ldcs (pc := 63) hC dX4_wordOf_63 (by decide +kernel : (_, 85, "cut ") ∈ xe_S) ?_
    have e9 : sX4_wordOf x0 = 5 := by unfold sX4_wordOf; simp [c5]
    have h9 := hR 0 0 65 [(0, .int x0)] (Nat.le_of_ble_eq_true rfl) (Nat.le_of_ble_eq_true rfl) dX4_wordOf_65
    rw [e9] at h9
    exact h9
  by_cases c6 : x0 = 6
  · refine xv_tabIn (tgt := 66) (pc := 1) hC dX4_wordOf_1 6 c6 (by decide) (by decide) rfl (by decide) ?_
    refine xv_ldcs (pc := 66) hC dX4_wordOf_66 (by decide +kernel : (_, 87, "mend ") ∈ xe_S) ?_
    have e9 : sX4_wordOf x0 = 6 := by unfold sX4_wordOf; simp [c6]
    have h9 := hR 0 0 68 [(0, .int x0)] (Nat.le_of_ble_eq_true rfl) (Nat.le_of_ble_eq_true rfl) dX4_wordOf_68
    rw [e9] at h9
    exact h9
  by_cases c7 : x0 = 7
  · refine xv_tabIn (tgt := 69) (pc := 1) hC dX4_wordOf_1 7 c7 (by decide) (by decide) rfl (by decide) ?_
    refine xv_ldcs (pc := 69) hC dX4_wordOf_69 (by decide +kernel : (_, 89, "wait") ∈ xe_S) ?_
    have e9 : sX4_wordOf x0 = 7 := by unfold sX4_wordOf; simp [c7]
    have h9 := hR 0 0 71 [(0, .int x0)] (Nat.le_of_ble_eq_true rfl) (Nat.le_of_ble_eq_true rfl) dX4_wordOf_71
    rw [e9] at h9
    exact h9
  refine xv_tabD (tgt := 72) (pc := 1) hC dX4_wordOf_1 rfl (fun i9 hi9 hne9 hx9 => ?_) (by decide) ?_
  · have hi9 : i9 < 8 := hi9
    rcases (by omega : i9 = 0 ∨ i9 = 1 ∨ i9 = 2 ∨ i9 = 3 ∨ i9 = 4 ∨ i9 = 5 ∨ i9 = 6 ∨ i9 = 7) with rfl | rfl | rfl | rfl | rfl | rfl | rfl | rfl <;> first | exact hne9 rfl | exact absurd hx9 (by assumption)
  · refine xv_ldcs (pc := 72) hC dX4_wordOf_72 (by decide +kernel : (_, 91, "") ∈ xe_S) ?_
    have e9 : sX4_wordOf x0 = 8 := by unfold sX4_wordOf; simp [c0, c1, c2, c3, c4, c5, c6, c7]
    have h9 := hR 0 0 74 [(0, .int x0)] (Nat.le_of_ble_eq_true rfl) (Nat.le_of_ble_eq_true rfl) dX4_wordOf_74
    rw [e9] at h9
    exact h9
