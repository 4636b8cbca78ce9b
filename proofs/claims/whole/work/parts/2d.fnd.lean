def sX4_readSecond (x1 : Int32) (Z : ZZ) : Option (Int32 × ZZ) :=
  if x1 = 1 then (
    bnd (sX4_expect 45 Z) <| fun q_2 =>
    bnd (sX4_readDigit q_2) <| fun q_3 =>
    some (q_3.1, q_3.2)) else if x1 = 2 then (
    bnd (sX4_expect 47 Z) <| fun q_5 =>
    bnd (sX4_readDigit q_5) <| fun q_6 =>
    some (q_6.1, q_6.2)) else if x1 = 3 then (
    bnd (sX4_expect 62 Z) <| fun q_8 =>
    bnd (sX4_readDigit q_8) <| fun q_9 =>
    some (q_9.1, q_9.2)) else (
    some (0, Z))
abbrev rmX4_readSecond : Room := { frames := 2, cells := 0, slots := 0, locals := 43 }
set_option maxHeartbeats 4000000 in
set_option maxRecDepth 100000 in
theorem kX4_readSecond {l : Launch} {D : va_G} {dA : Nat → ClassId} {sa : String → Nat → Nat} {a : Nat → Nat} (hl : l.stackTraces = false) {x1 : Int32} {Z Z' : ZZ} {v : Int32} (hX : sX4_readSecond x1 Z = some (v, Z')) : CTi l D dA sa yX4_readSecond (wz yX4_readSecond cX4_readSecond 2 (some .int)) rmX4_readSecond [.ref (a 7), .int x1] (cwC dA a Z) v (cwC dA a Z') := by
  refine xm_i hl (by decide +kernel) (Nat.le_of_ble_eq_true rfl) rfl ?_
  intro p e s m args below meth c A Q hC hR
  unfold sX4_readSecond at hX
  show xv p l e rmX4_readSecond s m args below meth c D A 2 Q (cwC dA a Z) 0 0 0 [(0, .ref (a 7)), (1, .int x1)] []
  refine xv_iload_n (pc := 0) hC dX4_readSecond_0 1 rfl rfl ?_
  by_cases c_1 : x1 = 1
  · replace hX := if_t c_1 hX
    refine xv_tabIn (tgt := 28) (pc := 1) hC dX4_readSecond_1 1 c_1 (by decide) (by decide) rfl (by decide) ?_
    refine xv_aload_n (pc := 28) hC dX4_readSecond_28 0 rfl rfl ?_
    refine xv_bipush (v := 45) (pc := 29) hC dX4_readSecond_29 (by decide) ?_
    obtain ⟨q_2, hq_2, hX⟩ := bnd_some hX
    refine xv_callVv0 (As := [.int 45]) (pc := 31) hC (kX4_expect hl hq_2) fV_X4_expect wf_1478 (rc_X4 (rfl : shC 7 = 7)) rfl ⟨Nat.le_of_ble_eq_true rfl, Nat.le_of_ble_eq_true rfl⟩ rfl (Nat.le_of_ble_eq_true rfl) dX4_readSecond_31 ⟨Nat.le_of_ble_eq_true rfl, Nat.le_of_ble_eq_true rfl⟩ ?_
    refine xv_aload_n (pc := 34) hC dX4_readSecond_34 0 rfl rfl ?_
    obtain ⟨q_3, hq_3, hX⟩ := bnd_some hX
    refine xv_callVi0 (As := []) (pc := 35) hC (kX4_readDigit hl hq_3) fV_X4_readDigit wf_1486 (rc_X4 (rfl : shC 7 = 7)) rfl ⟨Nat.le_of_ble_eq_true rfl, Nat.le_of_ble_eq_true rfl⟩ rfl (Nat.le_of_ble_eq_true rfl) dX4_readSecond_35 ⟨Nat.le_of_ble_eq_true rfl, Nat.le_of_ble_eq_true rfl⟩ ?_
    obtain ⟨h1, h2⟩ := some_pair hX
    exact xv_eqi (W := cwC dA a) h1 h2 (hR _ _ _ _ (Nat.le_of_ble_eq_true rfl) (Nat.le_of_ble_eq_true rfl) dX4_readSecond_38)
  replace hX := if_f c_1 hX
  by_cases c_4 : x1 = 2
  · replace hX := if_t c_4 hX
    refine xv_tabIn (tgt := 39) (pc := 1) hC dX4_readSecond_1 2 c_4 (by decide) (by decide) rfl (by decide) ?_
    refine xv_aload_n (pc := 39) hC dX4_readSecond_39 0 rfl rfl ?_
    refine xv_bipush (v := 47) (pc := 40) hC dX4_readSecond_40 (by decide) ?_
    obtain ⟨q_5, hq_5, hX⟩ := bnd_some hX
    refine xv_callVv0 (As := [.int 47]) (pc := 42) hC (kX4_expect hl hq_5) fV_X4_expect wf_1478 (rc_X4 (rfl : shC 7 = 7)) rfl ⟨Nat.le_of_ble_eq_true rfl, Nat.le_of_ble_eq_true rfl⟩ rfl (Nat.le_of_ble_eq_true rfl) dX4_readSecond_42 ⟨Nat.le_of_ble_eq_true rfl, Nat.le_of_ble_eq_true rfl⟩ ?_
    refine xv_aload_n (pc := 45) hC dX4_readSecond_45 0 rfl rfl ?_
    obtain ⟨q_6, hq_6, hX⟩ := bnd_some hX
    refine xv_callVi0 (As := []) (pc := 46) hC (kX4_readDigit hl hq_6) fV_X4_readDigit wf_1486 (rc_X4 (rfl : shC 7 = 7)) rfl ⟨Nat.le_of_ble_eq_true rfl, Nat.le_of_ble_eq_true rfl⟩ rfl (Nat.le_of_ble_eq_true rfl) dX4_readSecond_46 ⟨Nat.le_of_ble_eq_true rfl, Nat.le_of_ble_eq_true rfl⟩ ?_
    obtain ⟨h1, h2⟩ := some_pair hX
    exact xv_eqi (W := cwC dA a) h1 h2 (hR _ _ _ _ (Nat.le_of_ble_eq_true rfl) (Nat.le_of_ble_eq_true rfl) dX4_readSecond_49)
  replace hX := if_f c_4 hX
  by_cases c_7 : x1 = 3
  · replace hX := if_t c_7 hX
    refine xv_tabIn (tgt := 50) (pc := 1) hC dX4_readSecond_1 3 c_7 (by decide) (by decide) rfl (by decide) ?_
    refine xv_aload_n (pc := 50) hC dX4_readSecond_50 0 rfl rfl ?_
    refine xv_bipush (v := 62) (pc := 51) hC dX4_readSecond_51 (by decide) ?_
    obtain ⟨q_8, hq_8, hX⟩ := bnd_some hX
    refine xv_callVv0 (As := [.int 62]) (pc := 53) hC (kX4_expect hl hq_8) fV_X4_expect wf_1478 (rc_X4 (rfl : shC 7 = 7)) rfl ⟨Nat.le_of_ble_eq_true rfl, Nat.le_of_ble_eq_true rfl⟩ rfl (Nat.le_of_ble_eq_true rfl) dX4_readSecond_53 ⟨Nat.le_of_ble_eq_true rfl, Nat.le_of_ble_eq_true rfl⟩ ?_
    refine xv_aload_n (pc := 56) hC dX4_readSecond_56 0 rfl rfl ?_
    obtain ⟨q_9, hq_9, hX⟩ := bnd_some hX
    refine xv_callVi0 (As := []) (pc := 57) hC (kX4_readDigit hl hq_9) fV_X4_readDigit wf_1486 (rc_X4 (rfl : shC 7 = 7)) rfl ⟨Nat.le_of_ble_eq_true rfl, Nat.le_of_ble_eq_true rfl⟩ rfl (Nat.le_of_ble_eq_true rfl) dX4_readSecond_57 ⟨Nat.le_of_ble_eq_true rfl, Nat.le_of_ble_eq_true rfl⟩ ?_
    obtain ⟨h1, h2⟩ := some_pair hX
    exact xv_eqi (W := cwC dA a) h1 h2 (hR _ _ _ _ (Nat.le_of_ble_eq_true rfl) (Nat.le_of_ble_eq_true rfl) dX4_readSecond_60)
  replace hX := if_f c_7 hX
  refine xv_tabD (tgt := 61) (pc := 1) hC dX4_readSecond_1 rfl (fun i9 hi9 hne9 hx9 => ?_) (by decide) ?_
  · have hi9 : i9 < 3 := hi9
    rcases (by omega : i9 = 0 ∨ i9 = 1 ∨ i9 = 2) with rfl | rfl | rfl <;> first | exact hne9 rfl | exact absurd hx9 (by assumption)
  · skip
    refine xv_iconst (v := 0) (pc := 61) hC dX4_readSecond_61 (by decide) ?_
    obtain ⟨h1, h2⟩ := some_pair hX
    exact xv_eqi (W := cwC dA a) h1 h2 (hR _ _ _ _ (Nat.le_of_ble_eq_true rfl) (Nat.le_of_ble_eq_true rfl) dX4_readSecond_62)
def sX4_readCommand (x1 : Int32) (Z : ZZ) : Option (ZZ) :=
  bnd (sX4_kindAhead Z) <| fun q_1 =>
  nm (q_1.1) <| fun y_2 =>
  bnd (sX4_expectWord (sX4_wordOf y_2) q_1.2) <| fun q_3 =>
  if x1 < 0 then (
    nm (pI q_3 7 8 1) <| fun Z_5 =>
    some Z_5) else (
    if x1 < 13 then (
      gd (vin x1 13 = true) <|
      nm (pI q_3 9 x1.toNatClampNeg y_2) <| fun Z_8 =>
      bnd (sX4_readFirst y_2 Z_8) <| fun q_9 =>
      gd (vin x1 13 = true) <|
      nm (pI q_9.2 10 x1.toNatClampNeg q_9.1) <| fun Z_11 =>
      bnd (sX4_readSecond y_2 Z_11) <| fun q_12 =>
      gd (vin x1 13 = true) <|
      nm (pI q_12.2 11 x1.toNatClampNeg q_12.1) <| fun Z_14 =>
      gd (vin x1 13 = true) <|
      nm (pI Z_14 12 x1.toNatClampNeg 0) <| fun Z_16 =>
      if y_2 = 1 then (
        bnd (sX4_expect 61 Z_16) <| fun q_18 =>
        bnd (sX4_readNumber q_18) <| fun q_19 =>
        gd (vin x1 13 = true) <|
        nm (pI q_19.2 12 x1.toNatClampNeg q_19.1) <| fun Z_21 =>
        some Z_21) else (
        some Z_16)) else (
      nm (pI q_3 7 8 1) <| fun Z_22 =>
      some Z_22))
abbrev rmX4_readCommand : Room := { frames := 5, cells := 0, slots := 0, locals := 109 }
set_option maxHeartbeats 4000000 in
set_option maxRecDepth 100000 in
theorem kX4_readCommand {l : Launch} {D : va_G} {dA : Nat → ClassId} {sa : String → Nat → Nat} {a : Nat → Nat} (hl : l.stackTraces = false) {x1 : Int32} {Z Z' : ZZ} (hX : sX4_readCommand x1 Z = some Z') : CTv l D dA sa yX4_readCommand (wz yX4_readCommand cX4_readCommand 3 none) rmX4_readCommand [.ref (a 7), .int x1] (cwC dA a Z) (cwC dA a Z') := by
  refine xm_v hl (by decide +kernel) (Nat.le_of_ble_eq_true rfl) rfl ?_
  intro p e s m args below meth c A Q hC hR
  unfold sX4_readCommand at hX
  show xv p l e rmX4_readCommand s m args below meth c D A 3 Q (cwC dA a Z) 0 0 0 [(0, .ref (a 7)), (1, .int x1)] []
  refine xv_aload_n (pc := 0) hC dX4_readCommand_0 0 rfl rfl ?_
  obtain ⟨q_1, hq_1, hX⟩ := bnd_some hX
  refine xv_callVi0 (As := []) (pc := 1) hC (kX4_kindAhead hl hq_1) fV_X4_kindAhead wf_1438 (rc_X4 (rfl : shC 7 = 7)) rfl ⟨Nat.le_of_ble_eq_true rfl, Nat.le_of_ble_eq_true rfl⟩ rfl (Nat.le_of_ble_eq_true rfl) dX4_readCommand_1 ⟨Nat.le_of_ble_eq_true rfl, Nat.le_of_ble_eq_true rfl⟩ ?_
  obtain ⟨y_2, hy_2, hX⟩ := nm_some hX
  refine xv_nmi hy_2 ?_
  refine xv_istore_n (pc := 4) (lv' := [(2, .int y_2), (0, .ref (a 7)), (1, .int x1)]) hC dX4_readCommand_4 rfl (by decide) rfl ?_
  refine xv_aload_n (pc := 5) hC dX4_readCommand_5 1 rfl rfl ?_
  refine xv_iload_n (pc := 6) hC dX4_readCommand_6 0 rfl rfl ?_
  refine xv_callSr0 (As := [.int y_2]) (pc := 7) hC (kX4_wordOf hl) fS_X4_wordOf wf_1446 rfl ⟨(Nat.le_of_ble_eq_true rfl), (Nat.le_of_ble_eq_true rfl)⟩ rfl (Nat.le_of_ble_eq_true rfl) dX4_readCommand_7 ⟨(Nat.le_of_ble_eq_true rfl), (Nat.le_of_ble_eq_true rfl)⟩ ?_
  obtain ⟨q_3, hq_3, hX⟩ := bnd_some hX
  refine xv_callVv0 (As := [.ref (adS sa (sX4_wordOf y_2))]) (pc := 10) hC (kX4_expectWord hl hq_3) fV_X4_expectWord wf_1458 (rc_X4 (rfl : shC 7 = 7)) rfl ⟨Nat.le_of_ble_eq_true rfl, Nat.le_of_ble_eq_true rfl⟩ rfl (Nat.le_of_ble_eq_true rfl) dX4_readCommand_10 ⟨Nat.le_of_ble_eq_true rfl, Nat.le_of_ble_eq_true rfl⟩ ?_
  refine xv_iload_n (pc := 13) hC dX4_readCommand_13 2 rfl rfl ?_
  refine xv_if_lt (tgt := 23) (pc := 14) hC dX4_readCommand_14 (by decide) (fun c_4 => ?_) (fun c_4 => ?_)
  · replace hX := if_t c_4 hX
    refine xv_aload_n (pc := 23) hC dX4_readCommand_23 1 rfl rfl ?_
    refine xv_iconst (v := 1) (pc := 24) hC dX4_readCommand_24 (by decide) ?_
    obtain ⟨Z_5, hZ_5, hX⟩ := nm_some hX
    refine xpX4 (ty := .boolean) (pc := 25) hC dX4_readCommand_25 (rfl : shC 7 = 7) 8 (by decide) wf_226 rfl (by decide +kernel) (by decide) (by decide) rfl hZ_5 ?_
    exact xv_eqw (W := cwC dA a) (Option.some.inj hX) (hR _ _ _ _ (Nat.le_of_ble_eq_true rfl) (Nat.le_of_ble_eq_true rfl) dX4_readCommand_28)
  · replace hX := if_f c_4 hX
    refine xv_iload_n (pc := 17) hC dX4_readCommand_17 2 rfl rfl ?_
    refine xv_bipush (v := 13) (pc := 18) hC dX4_readCommand_18 (by decide) ?_
    refine xv_icmp_lt (tgt := 29) (pc := 20) hC dX4_readCommand_20 (by decide) (fun c_6 => ?_) (fun c_6 => ?_)
    · replace hX := if_t c_6 hX
      refine xv_aload_n (pc := 29) hC dX4_readCommand_29 1 rfl rfl ?_
      refine xgX4 (v := .ref (a 9)) (pc := 30) hC dX4_readCommand_30 (rfl : shC 7 = 7) 3 (by decide) wf_217 rfl ?_
      refine xv_iload_n (pc := 33) hC dX4_readCommand_33 2 rfl rfl ?_
      refine xv_iload_n (pc := 34) hC dX4_readCommand_34 0 rfl rfl ?_
      obtain ⟨h_7, hX⟩ := gd_some hX
      obtain ⟨Z_8, hZ_8, hX⟩ := nm_some hX
      refine xs_C9 (pc := 35) hC dX4_readCommand_35 (rfl : shC 9 = 9) h_7 hZ_8 ?_
      refine xv_aload_n (pc := 36) hC dX4_readCommand_36 1 rfl rfl ?_
      refine xgX4 (v := .ref (a 10)) (pc := 37) hC dX4_readCommand_37 (rfl : shC 7 = 7) 4 (by decide) wf_219 rfl ?_
      refine xv_iload_n (pc := 40) hC dX4_readCommand_40 2 rfl rfl ?_
      refine xv_aload_n (pc := 41) hC dX4_readCommand_41 1 rfl rfl ?_
      refine xv_iload_n (pc := 42) hC dX4_readCommand_42 0 rfl rfl ?_
      obtain ⟨q_9, hq_9, hX⟩ := bnd_some hX
      refine xv_callVi0 (As := [.int y_2]) (pc := 43) hC (kX4_readFirst hl hq_9) fV_X4_readFirst wf_1482 (rc_X4 (rfl : shC 7 = 7)) rfl ⟨Nat.le_of_ble_eq_true rfl, Nat.le_of_ble_eq_true rfl⟩ rfl (Nat.le_of_ble_eq_true rfl) dX4_readCommand_43 ⟨Nat.le_of_ble_eq_true rfl, Nat.le_of_ble_eq_true rfl⟩ ?_
      obtain ⟨h_10, hX⟩ := gd_some hX
      obtain ⟨Z_11, hZ_11, hX⟩ := nm_some hX
      refine xs_C9 (pc := 46) hC dX4_readCommand_46 (rfl : shC 10 = 9) h_10 hZ_11 ?_
      refine xv_aload_n (pc := 47) hC dX4_readCommand_47 1 rfl rfl ?_
      refine xgX4 (v := .ref (a 11)) (pc := 48) hC dX4_readCommand_48 (rfl : shC 7 = 7) 5 (by decide) wf_221 rfl ?_
      refine xv_iload_n (pc := 51) hC dX4_readCommand_51 2 rfl rfl ?_
      refine xv_aload_n (pc := 52) hC dX4_readCommand_52 1 rfl rfl ?_
      refine xv_iload_n (pc := 53) hC dX4_readCommand_53 0 rfl rfl ?_
      obtain ⟨q_12, hq_12, hX⟩ := bnd_some hX
      refine xv_callVi0 (As := [.int y_2]) (pc := 54) hC (kX4_readSecond hl hq_12) fV_X4_readSecond wf_1497 (rc_X4 (rfl : shC 7 = 7)) rfl ⟨Nat.le_of_ble_eq_true rfl, Nat.le_of_ble_eq_true rfl⟩ rfl (Nat.le_of_ble_eq_true rfl) dX4_readCommand_54 ⟨Nat.le_of_ble_eq_true rfl, Nat.le_of_ble_eq_true rfl⟩ ?_
      obtain ⟨h_13, hX⟩ := gd_some hX
      obtain ⟨Z_14, hZ_14, hX⟩ := nm_some hX
      refine xs_C9 (pc := 57) hC dX4_readCommand_57 (rfl : shC 11 = 9) h_13 hZ_14 ?_
      refine xv_aload_n (pc := 58) hC dX4_readCommand_58 1 rfl rfl ?_
      refine xgX4 (v := .ref (a 12)) (pc := 59) hC dX4_readCommand_59 (rfl : shC 7 = 7) 6 (by decide) wf_223 rfl ?_
      refine xv_iload_n (pc := 62) hC dX4_readCommand_62 2 rfl rfl ?_
      refine xv_iconst (v := 0) (pc := 63) hC dX4_readCommand_63 (by decide) ?_
      obtain ⟨h_15, hX⟩ := gd_some hX
      obtain ⟨Z_16, hZ_16, hX⟩ := nm_some hX
      refine xs_C9 (pc := 64) hC dX4_readCommand_64 (rfl : shC 12 = 9) h_15 hZ_16 ?_
      refine xv_iload_n (pc := 65) hC dX4_readCommand_65 0 rfl rfl ?_
      refine xv_iconst (v := 1) (pc := 66) hC dX4_readCommand_66 (by decide) ?_
      refine xv_icmp_ne (tgt := 86) (pc := 67) hC dX4_readCommand_67 (by decide) (fun c_17 => ?_) (fun c_17 => ?_)
      · replace hX := if_f c_17 hX
        exact xv_eqw (W := cwC dA a) (Option.some.inj hX) (hR _ _ _ _ (Nat.le_of_ble_eq_true rfl) (Nat.le_of_ble_eq_true rfl) dX4_readCommand_86)
      · replace hX := if_t c_17 hX
        refine xv_aload_n (pc := 70) hC dX4_readCommand_70 1 rfl rfl ?_
        refine xv_bipush (v := 61) (pc := 71) hC dX4_readCommand_71 (by decide) ?_
        obtain ⟨q_18, hq_18, hX⟩ := bnd_some hX
        refine xv_callVv0 (As := [.int 61]) (pc := 73) hC (kX4_expect hl hq_18) fV_X4_expect wf_1478 (rc_X4 (rfl : shC 7 = 7)) rfl ⟨Nat.le_of_ble_eq_true rfl, Nat.le_of_ble_eq_true rfl⟩ rfl (Nat.le_of_ble_eq_true rfl) dX4_readCommand_73 ⟨Nat.le_of_ble_eq_true rfl, Nat.le_of_ble_eq_true rfl⟩ ?_
        refine xv_aload_n (pc := 76) hC dX4_readCommand_76 1 rfl rfl ?_
        refine xgX4 (v := .ref (a 12)) (pc := 77) hC dX4_readCommand_77 (rfl : shC 7 = 7) 6 (by decide) wf_223 rfl ?_
        refine xv_iload_n (pc := 80) hC dX4_readCommand_80 2 rfl rfl ?_
        refine xv_aload_n (pc := 81) hC dX4_readCommand_81 1 rfl rfl ?_
        obtain ⟨q_19, hq_19, hX⟩ := bnd_some hX
        refine xv_callVi0 (As := []) (pc := 82) hC (kX4_readNumber hl hq_19) fV_X4_readNumber wf_1493 (rc_X4 (rfl : shC 7 = 7)) rfl ⟨Nat.le_of_ble_eq_true rfl, Nat.le_of_ble_eq_true rfl⟩ rfl (Nat.le_of_ble_eq_true rfl) dX4_readCommand_82 ⟨Nat.le_of_ble_eq_true rfl, Nat.le_of_ble_eq_true rfl⟩ ?_
        obtain ⟨h_20, hX⟩ := gd_some hX
        obtain ⟨Z_21, hZ_21, hX⟩ := nm_some hX
        refine xs_C9 (pc := 85) hC dX4_readCommand_85 (rfl : shC 12 = 9) h_20 hZ_21 ?_
        exact xv_eqw (W := cwC dA a) (Option.some.inj hX) (hR _ _ _ _ (Nat.le_of_ble_eq_true rfl) (Nat.le_of_ble_eq_true rfl) dX4_readCommand_86)
    · replace hX := if_f c_6 hX
      refine xv_aload_n (pc := 23) hC dX4_readCommand_23 1 rfl rfl ?_
      refine xv_iconst (v := 1) (pc := 24) hC dX4_readCommand_24 (by decide) ?_
      obtain ⟨Z_22, hZ_22, hX⟩ := nm_some hX
      refine xpX4 (ty := .boolean) (pc := 25) hC dX4_readCommand_25 (rfl : shC 7 = 7) 8 (by decide) wf_226 rfl (by decide +kernel) (by decide) (by decide) rfl hZ_22 ?_
      exact xv_eqw (W := cwC dA a) (Option.some.inj hX) (hR _ _ _ _ (Nat.le_of_ble_eq_true rfl) (Nat.le_of_ble_eq_true rfl) dX4_readCommand_28)
def sX4_parse_B81 (Z : ZZ) : Option (Int32 × ZZ) :=
  nm (pI Z 7 1 0) <| fun Z_1 =>
  if (gI Z_1 7 8) = 0 then (
    some ((-1), Z_1)) else (
    some (gI Z_1 7 7, Z_1))
def sX4_parse_B63 (k19 : Int32 → Int32 → ZZ → Option (Int32 × ZZ)) (y2 : Int32) (Z : ZZ) : Option (Int32 × ZZ) :=
  if (0 : Int32) = 0 then (
    nm (y2 + 1) <| fun y_4 =>
    k19 0 y_4 Z) else (
    bnd (sX4_expect 59 Z) <| fun q_5 =>
    nm (y2 + 1) <| fun y_6 =>
    k19 0 y_6 q_5)
def sX4_parse_L19 : Nat → Int32 → Int32 → ZZ → Option (Int32 × ZZ)
  | 0, _, _, _ => none
  | n + 1, y1, y2, Z =>
  if y1 = 0 then (
    sX4_parse_B81 Z) else (
    if (13 : Int32) ≤ y2 then (
      sX4_parse_B81 Z) else (
      bnd (sX4_readCommand y2 Z) <| fun q_9 =>
      nm (pI q_9 7 2 (y2 + 1)) <| fun Z_10 =>
      if (gI Z_10 7 8) = 0 then (
        if (gI Z_10 7 1) ≤ (gI Z_10 7 7) then (
          sX4_parse_B63 (fun y1 y2 Z => sX4_parse_L19 n y1 y2 Z) y2 Z_10) else (
          if (1 : Int32) = 0 then (
            nm (y2 + 1) <| fun y_14 =>
            sX4_parse_L19 n 1 y_14 Z_10) else (
            bnd (sX4_expect 59 Z_10) <| fun q_15 =>
            nm (y2 + 1) <| fun y_16 =>
            sX4_parse_L19 n 1 y_16 q_15))) else (
        sX4_parse_B63 (fun y1 y2 Z => sX4_parse_L19 n y1 y2 Z) y2 Z_10)))
def sX4_parse (Z : ZZ) : Option (Int32 × ZZ) :=
  nm (pI Z 7 7 0) <| fun Z_17 =>
  nm (pI Z_17 7 8 0) <| fun Z_18 =>
  nm (pI Z_18 7 2 0) <| fun Z_19 =>
  sX4_parse_L19 3000 1 0 Z_19
abbrev rmX4_parse : Room := { frames := 6, cells := 0, slots := 0, locals := 131 }
set_option maxHeartbeats 4000000 in
set_option maxRecDepth 100000 in
theorem kX4_parse {l : Launch} {D : va_G} {dA : Nat → ClassId} {sa : String → Nat → Nat} {a : Nat → Nat} (hl : l.stackTraces = false) {Z Z' : ZZ} {v : Int32} (hX : sX4_parse Z = some (v, Z')) : CTi l D dA sa yX4_parse (wz yX4_parse cX4_parse 3 (some .int)) rmX4_parse [.ref (a 7)] (cwC dA a Z) v (cwC dA a Z') := by
  refine xm_i hl (by decide +kernel) (Nat.le_of_ble_eq_true rfl) rfl ?_
  intro p e s m args below meth c A Q hC hR
  unfold sX4_parse at hX
  have v81 : ∀ (Z : ZZ), sX4_parse_B81 Z = some (v, Z') → xv p l e rmX4_parse s m args below meth c D A 3 Q (cwC dA a Z) 0 0 81 [(0, .ref (a 7))] [] := by
    intro Z hX
    unfold sX4_parse_B81 at hX
    refine xv_aload_n (pc := 81) hC dX4_parse_81 0 rfl rfl ?_
    refine xv_iconst (v := 0) (pc := 82) hC dX4_parse_82 (by decide) ?_
    obtain ⟨Z_1, hZ_1, hX⟩ := nm_some hX
    refine xpX4 (ty := .int) (pc := 83) hC dX4_parse_83 (rfl : shC 7 = 7) 1 (by decide) wf_213 rfl (by decide +kernel) rfl rfl rfl hZ_1 ?_
    refine xv_aload_n (pc := 86) hC dX4_parse_86 0 rfl rfl ?_
    refine xgX4 (v := .int (gI Z_1 7 8)) (pc := 87) hC dX4_parse_87 (rfl : shC 7 = 7) 8 (by decide) wf_226 rfl ?_
    refine xv_if_eq (tgt := 100) (pc := 90) hC dX4_parse_90 (by decide) (fun c_2 => ?_) (fun c_2 => ?_)
    · replace hX := if_t c_2 hX
      refine xv_iconst (v := (-1)) (pc := 100) hC dX4_parse_100 (by decide) ?_
      obtain ⟨h1, h2⟩ := some_pair hX
      exact xv_eqi (W := cwC dA a) h1 h2 (hR _ _ _ _ (Nat.le_of_ble_eq_true rfl) (Nat.le_of_ble_eq_true rfl) dX4_parse_101)
    · replace hX := if_f c_2 hX
      refine xv_aload_n (pc := 93) hC dX4_parse_93 0 rfl rfl ?_
      refine xgX4 (v := .int (gI Z_1 7 7)) (pc := 94) hC dX4_parse_94 (rfl : shC 7 = 7) 7 (by decide) wf_225 rfl ?_
      refine xv_goto (tgt := 101) (pc := 97) hC dX4_parse_97 (by decide) ?_
      obtain ⟨h1, h2⟩ := some_pair hX
      exact xv_eqi (W := cwC dA a) h1 h2 (hR _ _ _ _ (Nat.le_of_ble_eq_true rfl) (Nat.le_of_ble_eq_true rfl) dX4_parse_101)
  have v63 : ∀ (k19 : Int32 → Int32 → ZZ → Option (Int32 × ZZ)) (hk19 : ∀ (y1 : Int32) (y2 : Int32) (Z : ZZ), k19 y1 y2 Z = some (v, Z') → xv p l e rmX4_parse s m args below meth c D A 3 Q (cwC dA a Z) 0 0 19 [(0, .ref (a 7)), (1, .int y1), (2, .int y2)] []) (y2 : Int32) (Z : ZZ), sX4_parse_B63 k19 y2 Z = some (v, Z') → xv p l e rmX4_parse s m args below meth c D A 3 Q (cwC dA a Z) 0 0 63 [(0, .ref (a 7)), (2, .int y2)] [] := by
    intro k19 hk19 y2 Z hX
    unfold sX4_parse_B63 at hX
    refine xv_iconst (v := 0) (pc := 63) hC dX4_parse_63 (by decide) ?_
    refine xv_istore_n (pc := 64) (lv' := [(1, .int 0), (0, .ref (a 7)), (2, .int y2)]) hC dX4_parse_64 rfl (by decide) rfl ?_
    refine xv_iload_n (pc := 65) hC dX4_parse_65 0 rfl rfl ?_
    refine xv_if_eq (tgt := 75) (pc := 66) hC dX4_parse_66 (by decide) (fun c_3 => ?_) (fun c_3 => ?_)
    · replace hX := if_t c_3 hX
      obtain ⟨y_4, hy_4, hX⟩ := nm_some hX
      refine xv_iinc (pc := 75) (v := y_4) (lv' := [(2, .int y_4), (1, .int 0), (0, .ref (a 7))]) hC dX4_parse_75 2 rfl (by rw [hy_4]; rfl) (by decide) rfl ?_
      refine xv_goto (tgt := 19) (pc := 78) hC dX4_parse_78 (by decide) ?_
      refine xv_sub (lv' := [(0, .ref (a 7)), (1, .int 0), (2, .int y_4)]) [2, 1, 0] rfl ?_
      exact hk19 0 y_4 Z hX
    · replace hX := if_f c_3 hX
      refine xv_aload_n (pc := 69) hC dX4_parse_69 1 rfl rfl ?_
      refine xv_bipush (v := 59) (pc := 70) hC dX4_parse_70 (by decide) ?_
      obtain ⟨q_5, hq_5, hX⟩ := bnd_some hX
      refine xv_callVv0 (As := [.int 59]) (pc := 72) hC (kX4_expect hl hq_5) fV_X4_expect wf_1478 (rc_X4 (rfl : shC 7 = 7)) rfl ⟨Nat.le_of_ble_eq_true rfl, Nat.le_of_ble_eq_true rfl⟩ rfl (Nat.le_of_ble_eq_true rfl) dX4_parse_72 ⟨Nat.le_of_ble_eq_true rfl, Nat.le_of_ble_eq_true rfl⟩ ?_
      obtain ⟨y_6, hy_6, hX⟩ := nm_some hX
      refine xv_iinc (pc := 75) (v := y_6) (lv' := [(2, .int y_6), (1, .int 0), (0, .ref (a 7))]) hC dX4_parse_75 2 rfl (by rw [hy_6]; rfl) (by decide) rfl ?_
      refine xv_goto (tgt := 19) (pc := 78) hC dX4_parse_78 (by decide) ?_
      refine xv_sub (lv' := [(0, .ref (a 7)), (1, .int 0), (2, .int y_6)]) [2, 1, 0] rfl ?_
      exact hk19 0 y_6 q_5 hX
  have v19 : ∀ (n : Nat) (y1 : Int32) (y2 : Int32) (Z : ZZ), sX4_parse_L19 n y1 y2 Z = some (v, Z') → xv p l e rmX4_parse s m args below meth c D A 3 Q (cwC dA a Z) 0 0 19 [(0, .ref (a 7)), (1, .int y1), (2, .int y2)] [] := by
    intro n
    induction n with
    | zero =>
      intro y1 y2 Z hX
      exact absurd hX (by simp [sX4_parse_L19])
    | succ n ih =>
      intro y1 y2 Z hX
      rw [sX4_parse_L19] at hX
      refine xv_iload_n (pc := 19) hC dX4_parse_19 1 rfl rfl ?_
      refine xv_if_eq (tgt := 81) (pc := 20) hC dX4_parse_20 (by decide) (fun c_7 => ?_) (fun c_7 => ?_)
      · replace hX := if_t c_7 hX
        refine xv_sub (lv' := [(0, .ref (a 7))]) [0] rfl ?_
        exact v81 Z hX
      · replace hX := if_f c_7 hX
        refine xv_iload_n (pc := 23) hC dX4_parse_23 2 rfl rfl ?_
        refine xv_bipush (v := 13) (pc := 24) hC dX4_parse_24 (by decide) ?_
        refine xv_icmp_ge (tgt := 81) (pc := 26) hC dX4_parse_26 (by decide) (fun c_8 => ?_) (fun c_8 => ?_)
        · replace hX := if_t c_8 hX
          refine xv_sub (lv' := [(0, .ref (a 7))]) [0] rfl ?_
          exact v81 Z hX
        · replace hX := if_f c_8 hX
          refine xv_aload_n (pc := 29) hC dX4_parse_29 0 rfl rfl ?_
          refine xv_iload_n (pc := 30) hC dX4_parse_30 2 rfl rfl ?_
          obtain ⟨q_9, hq_9, hX⟩ := bnd_some hX
          refine xv_callVv0 (As := [.int y2]) (pc := 31) hC (kX4_readCommand hl hq_9) fV_X4_readCommand wf_1434 (rc_X4 (rfl : shC 7 = 7)) rfl ⟨Nat.le_of_ble_eq_true rfl, Nat.le_of_ble_eq_true rfl⟩ rfl (Nat.le_of_ble_eq_true rfl) dX4_parse_31 ⟨Nat.le_of_ble_eq_true rfl, Nat.le_of_ble_eq_true rfl⟩ ?_
          refine xv_aload_n (pc := 34) hC dX4_parse_34 0 rfl rfl ?_
          refine xv_iload_n (pc := 35) hC dX4_parse_35 2 rfl rfl ?_
          refine xv_iconst (v := 1) (pc := 36) hC dX4_parse_36 (by decide) ?_
          refine xv_iadd (pc := 37) hC dX4_parse_37 ?_
          obtain ⟨Z_10, hZ_10, hX⟩ := nm_some hX
          refine xpX4 (ty := .int) (pc := 38) hC dX4_parse_38 (rfl : shC 7 = 7) 2 (by decide) wf_215 rfl (by decide +kernel) rfl rfl rfl hZ_10 ?_
          refine xv_aload_n (pc := 41) hC dX4_parse_41 0 rfl rfl ?_
          refine xgX4 (v := .int (gI Z_10 7 8)) (pc := 42) hC dX4_parse_42 (rfl : shC 7 = 7) 8 (by decide) wf_226 rfl ?_
          refine xv_if_ne (tgt := 63) (pc := 45) hC dX4_parse_45 (by decide) (fun c_11 => ?_) (fun c_11 => ?_)
          · replace hX := if_f c_11 hX
            refine xv_sub (lv' := [(0, .ref (a 7)), (2, .int y2)]) [0, 2] rfl ?_
            exact v63 _ ih y2 Z_10 hX
          · replace hX := if_t c_11 hX
            refine xv_aload_n (pc := 48) hC dX4_parse_48 0 rfl rfl ?_
            refine xgX4 (v := .int (gI Z_10 7 7)) (pc := 49) hC dX4_parse_49 (rfl : shC 7 = 7) 7 (by decide) wf_225 rfl ?_
            refine xv_aload_n (pc := 52) hC dX4_parse_52 0 rfl rfl ?_
            refine xgX4 (v := .int (gI Z_10 7 1)) (pc := 53) hC dX4_parse_53 (rfl : shC 7 = 7) 1 (by decide) wf_213 rfl ?_
            refine xv_icmp_ge (tgt := 63) (pc := 56) hC dX4_parse_56 (by decide) (fun c_12 => ?_) (fun c_12 => ?_)
            · replace hX := if_t c_12 hX
              refine xv_sub (lv' := [(0, .ref (a 7)), (2, .int y2)]) [0, 2] rfl ?_
              exact v63 _ ih y2 Z_10 hX
            · replace hX := if_f c_12 hX
              refine xv_iconst (v := 1) (pc := 59) hC dX4_parse_59 (by decide) ?_
              refine xv_goto (tgt := 64) (pc := 60) hC dX4_parse_60 (by decide) ?_
              refine xv_istore_n (pc := 64) (lv' := [(1, .int 1), (0, .ref (a 7)), (2, .int y2)]) hC dX4_parse_64 rfl (by decide) rfl ?_
              refine xv_iload_n (pc := 65) hC dX4_parse_65 0 rfl rfl ?_
              refine xv_if_eq (tgt := 75) (pc := 66) hC dX4_parse_66 (by decide) (fun c_13 => ?_) (fun c_13 => ?_)
              · replace hX := if_t c_13 hX
                obtain ⟨y_14, hy_14, hX⟩ := nm_some hX
                refine xv_iinc (pc := 75) (v := y_14) (lv' := [(2, .int y_14), (1, .int 1), (0, .ref (a 7))]) hC dX4_parse_75 2 rfl (by rw [hy_14]; rfl) (by decide) rfl ?_
                refine xv_goto (tgt := 19) (pc := 78) hC dX4_parse_78 (by decide) ?_
                refine xv_sub (lv' := [(0, .ref (a 7)), (1, .int 1), (2, .int y_14)]) [2, 1, 0] rfl ?_
                exact ih 1 y_14 Z_10 hX
              · replace hX := if_f c_13 hX
                refine xv_aload_n (pc := 69) hC dX4_parse_69 1 rfl rfl ?_
                refine xv_bipush (v := 59) (pc := 70) hC dX4_parse_70 (by decide) ?_
                obtain ⟨q_15, hq_15, hX⟩ := bnd_some hX
                refine xv_callVv0 (As := [.int 59]) (pc := 72) hC (kX4_expect hl hq_15) fV_X4_expect wf_1478 (rc_X4 (rfl : shC 7 = 7)) rfl ⟨Nat.le_of_ble_eq_true rfl, Nat.le_of_ble_eq_true rfl⟩ rfl (Nat.le_of_ble_eq_true rfl) dX4_parse_72 ⟨Nat.le_of_ble_eq_true rfl, Nat.le_of_ble_eq_true rfl⟩ ?_
                obtain ⟨y_16, hy_16, hX⟩ := nm_some hX
                refine xv_iinc (pc := 75) (v := y_16) (lv' := [(2, .int y_16), (1, .int 1), (0, .ref (a 7))]) hC dX4_parse_75 2 rfl (by rw [hy_16]; rfl) (by decide) rfl ?_
                refine xv_goto (tgt := 19) (pc := 78) hC dX4_parse_78 (by decide) ?_
                refine xv_sub (lv' := [(0, .ref (a 7)), (1, .int 1), (2, .int y_16)]) [2, 1, 0] rfl ?_
                exact ih 1 y_16 q_15 hX
  show xv p l e rmX4_parse s m args below meth c D A 3 Q (cwC dA a Z) 0 0 0 [(0, .ref (a 7))] []
  refine xv_aload_n (pc := 0) hC dX4_parse_0 0 rfl rfl ?_
  refine xv_iconst (v := 0) (pc := 1) hC dX4_parse_1 (by decide) ?_
  obtain ⟨Z_17, hZ_17, hX⟩ := nm_some hX
  refine xpX4 (ty := .int) (pc := 2) hC dX4_parse_2 (rfl : shC 7 = 7) 7 (by decide) wf_225 rfl (by decide +kernel) rfl rfl rfl hZ_17 ?_
  refine xv_aload_n (pc := 5) hC dX4_parse_5 0 rfl rfl ?_
  refine xv_iconst (v := 0) (pc := 6) hC dX4_parse_6 (by decide) ?_
  obtain ⟨Z_18, hZ_18, hX⟩ := nm_some hX
  refine xpX4 (ty := .boolean) (pc := 7) hC dX4_parse_7 (rfl : shC 7 = 7) 8 (by decide) wf_226 rfl (by decide +kernel) (by decide) (by decide) rfl hZ_18 ?_
  refine xv_aload_n (pc := 10) hC dX4_parse_10 0 rfl rfl ?_
  refine xv_iconst (v := 0) (pc := 11) hC dX4_parse_11 (by decide) ?_
  obtain ⟨Z_19, hZ_19, hX⟩ := nm_some hX
  refine xpX4 (ty := .int) (pc := 12) hC dX4_parse_12 (rfl : shC 7 = 7) 2 (by decide) wf_215 rfl (by decide +kernel) rfl rfl rfl hZ_19 ?_
  refine xv_iconst (v := 1) (pc := 15) hC dX4_parse_15 (by decide) ?_
  refine xv_istore_n (pc := 16) (lv' := [(1, .int 1), (0, .ref (a 7))]) hC dX4_parse_16 rfl (by decide) rfl ?_
  refine xv_iconst (v := 0) (pc := 17) hC dX4_parse_17 (by decide) ?_
  refine xv_istore_n (pc := 18) (lv' := [(2, .int 0), (1, .int 1), (0, .ref (a 7))]) hC dX4_parse_18 rfl (by decide) rfl ?_
  refine xv_sub (lv' := [(0, .ref (a 7)), (1, .int 1), (2, .int 0)]) [2, 1, 0] rfl ?_
  exact v19 3000 1 0 Z_19 hX
def sX7_callProblem (x1 : Int32) (x2 : Int32) (Z : ZZ) : Option (Int32 × ZZ) :=
  bnd (sX6_hasSubscriber 19 x1 Z) <| fun q_1 =>
  if q_1.1 = 0 then (
    some (1, q_1.2)) else (
    bnd (sX6_hasSubscriber 19 x2 q_1.2) <| fun q_3 =>
    if q_3.1 = 0 then (
      some (1, q_3.2)) else (
      if x1 = x2 then (
        some (2, q_3.2)) else (
        bnd (sX6_callIndexOf 19 x1 q_3.2) <| fun q_6 =>
        if q_6.1 = (-1) then (
          bnd (sX6_callIndexOf 19 x2 q_6.2) <| fun q_9 =>
          if q_9.1 = (-1) then (
            bnd (sX6_freeTrunks 19 q_9.2) <| fun q_11 =>
            bnd (sX6_homeOf 19 x1 q_11.2) <| fun q_12 =>
            bnd (sX6_homeOf 19 x2 q_12.2) <| fun q_13 =>
            bnd (sX5_findRoute (19 + 1) q_11.1 q_12.1 q_13.1 q_13.2) <| fun q_14 =>
            if q_14.1 = 0 then (
              bnd (sX0_enter x1 x2 114 q_14.2) <| fun q_16 =>
              some (4, q_16)) else (
              some (0, q_14.2))) else (
            bnd (sX0_enter x1 x2 98 q_9.2) <| fun q_17 =>
            some (3, q_17))) else (
          bnd (sX0_enter x1 x2 98 q_6.2) <| fun q_8 =>
          some (3, q_8)))))
abbrev rmX7_callProblem : Room := { frames := 3, cells := 0, slots := 0, locals := 78 }
set_option maxHeartbeats 4000000 in
set_option maxRecDepth 100000 in
theorem kX7_callProblem {l : Launch} {D : va_G} {dA : Nat → ClassId} {sa : String → Nat → Nat} {a : Nat → Nat} (hl : l.stackTraces = false) {x1 : Int32} {x2 : Int32} {Z Z' : ZZ} {v : Int32} (hX : sX7_callProblem x1 x2 Z = some (v, Z')) : CTi l D dA sa yX7_callProblem (wz yX7_callProblem cX7_callProblem 3 (some .int)) rmX7_callProblem [.ref (a 0), .int x1, .int x2] (cwC dA a Z) v (cwC dA a Z') := by
  refine xm_i hl (by decide +kernel) (Nat.le_of_ble_eq_true rfl) rfl ?_
  intro p e s m args below meth c A Q hC hR
  unfold sX7_callProblem at hX
  show xv p l e rmX7_callProblem s m args below meth c D A 3 Q (cwC dA a Z) 0 0 0 [(0, .ref (a 0)), (1, .int x1), (2, .int x2)] []
  refine xv_aload_n (pc := 0) hC dX7_callProblem_0 0 rfl rfl ?_
  refine xgX7 (v := .ref (a 19)) (pc := 1) hC dX7_callProblem_1 (rfl : shC 0 = 1) 0 (by decide) wf_310 rfl ?_
  refine xv_iload_n (pc := 4) hC dX7_callProblem_4 1 rfl rfl ?_
  obtain ⟨q_1, hq_1, hX⟩ := bnd_some hX
  refine xv_callVi0 (As := [.int x1]) (pc := 5) hC (kX6_hasSubscriber hl hq_1) fV_X6_hasSubscriber wf_911 (rc_X6 (rfl : shC 19 = 13)) rfl ⟨Nat.le_of_ble_eq_true rfl, Nat.le_of_ble_eq_true rfl⟩ rfl (Nat.le_of_ble_eq_true rfl) dX7_callProblem_5 ⟨Nat.le_of_ble_eq_true rfl, Nat.le_of_ble_eq_true rfl⟩ ?_
  refine xv_if_eq (tgt := 22) (pc := 8) hC dX7_callProblem_8 (by decide) (fun c_2 => ?_) (fun c_2 => ?_)
  · replace hX := if_t c_2 hX
    refine xv_iconst (v := 1) (pc := 22) hC dX7_callProblem_22 (by decide) ?_
    obtain ⟨h1, h2⟩ := some_pair hX
    exact xv_eqi (W := cwC dA a) h1 h2 (hR _ _ _ _ (Nat.le_of_ble_eq_true rfl) (Nat.le_of_ble_eq_true rfl) dX7_callProblem_23)
  · replace hX := if_f c_2 hX
    refine xv_aload_n (pc := 11) hC dX7_callProblem_11 0 rfl rfl ?_
    refine xgX7 (v := .ref (a 19)) (pc := 12) hC dX7_callProblem_12 (rfl : shC 0 = 1) 0 (by decide) wf_310 rfl ?_
    refine xv_iload_n (pc := 15) hC dX7_callProblem_15 2 rfl rfl ?_
    obtain ⟨q_3, hq_3, hX⟩ := bnd_some hX
    refine xv_callVi0 (As := [.int x2]) (pc := 16) hC (kX6_hasSubscriber hl hq_3) fV_X6_hasSubscriber wf_911 (rc_X6 (rfl : shC 19 = 13)) rfl ⟨Nat.le_of_ble_eq_true rfl, Nat.le_of_ble_eq_true rfl⟩ rfl (Nat.le_of_ble_eq_true rfl) dX7_callProblem_16 ⟨Nat.le_of_ble_eq_true rfl, Nat.le_of_ble_eq_true rfl⟩ ?_
    refine xv_if_ne (tgt := 24) (pc := 19) hC dX7_callProblem_19 (by decide) (fun c_4 => ?_) (fun c_4 => ?_)
    · replace hX := if_f c_4 hX
      refine xv_iload_n (pc := 24) hC dX7_callProblem_24 1 rfl rfl ?_
      refine xv_iload_n (pc := 25) hC dX7_callProblem_25 2 rfl rfl ?_
      refine xv_icmp_ne (tgt := 31) (pc := 26) hC dX7_callProblem_26 (by decide) (fun c_5 => ?_) (fun c_5 => ?_)
      · replace hX := if_f c_5 hX
        refine xv_aload_n (pc := 31) hC dX7_callProblem_31 0 rfl rfl ?_
        refine xgX7 (v := .ref (a 19)) (pc := 32) hC dX7_callProblem_32 (rfl : shC 0 = 1) 0 (by decide) wf_310 rfl ?_
        refine xv_iload_n (pc := 35) hC dX7_callProblem_35 1 rfl rfl ?_
        obtain ⟨q_6, hq_6, hX⟩ := bnd_some hX
        refine xv_callVi0 (As := [.int x1]) (pc := 36) hC (kX6_callIndexOf hl hq_6) fV_X6_callIndexOf wf_915 (rc_X6 (rfl : shC 19 = 13)) rfl ⟨Nat.le_of_ble_eq_true rfl, Nat.le_of_ble_eq_true rfl⟩ rfl (Nat.le_of_ble_eq_true rfl) dX7_callProblem_36 ⟨Nat.le_of_ble_eq_true rfl, Nat.le_of_ble_eq_true rfl⟩ ?_
        refine xv_iconst (v := (-1)) (pc := 39) hC dX7_callProblem_39 (by decide) ?_
        refine xv_icmp_ne (tgt := 55) (pc := 40) hC dX7_callProblem_40 (by decide) (fun c_7 => ?_) (fun c_7 => ?_)
        · replace hX := if_f c_7 hX
          refine xv_aload_n (pc := 55) hC dX7_callProblem_55 0 rfl rfl ?_
          refine xgX7 (v := .ref (a 3)) (pc := 56) hC dX7_callProblem_56 (rfl : shC 0 = 1) 4 (by decide) wf_314 rfl ?_
          refine xv_iload_n (pc := 59) hC dX7_callProblem_59 1 rfl rfl ?_
          refine xv_iload_n (pc := 60) hC dX7_callProblem_60 2 rfl rfl ?_
          refine xv_bipush (v := 98) (pc := 61) hC dX7_callProblem_61 (by decide) ?_
          obtain ⟨q_8, hq_8, hX⟩ := bnd_some hX
          refine xv_callVv0 (As := [.int x1, .int x2, .int 98]) (pc := 63) hC (kX0_enter hl hq_8) fV_X0_enter wf_923 (rc_X0 (rfl : shC 3 = 4)) rfl ⟨Nat.le_of_ble_eq_true rfl, Nat.le_of_ble_eq_true rfl⟩ rfl (Nat.le_of_ble_eq_true rfl) dX7_callProblem_63 ⟨Nat.le_of_ble_eq_true rfl, Nat.le_of_ble_eq_true rfl⟩ ?_
          refine xv_iconst (v := 3) (pc := 66) hC dX7_callProblem_66 (by decide) ?_
          obtain ⟨h1, h2⟩ := some_pair hX
          exact xv_eqi (W := cwC dA a) h1 h2 (hR _ _ _ _ (Nat.le_of_ble_eq_true rfl) (Nat.le_of_ble_eq_true rfl) dX7_callProblem_67)
        · replace hX := if_t c_7 hX
          refine xv_aload_n (pc := 43) hC dX7_callProblem_43 0 rfl rfl ?_
          refine xgX7 (v := .ref (a 19)) (pc := 44) hC dX7_callProblem_44 (rfl : shC 0 = 1) 0 (by decide) wf_310 rfl ?_
          refine xv_iload_n (pc := 47) hC dX7_callProblem_47 2 rfl rfl ?_
          obtain ⟨q_9, hq_9, hX⟩ := bnd_some hX
          refine xv_callVi0 (As := [.int x2]) (pc := 48) hC (kX6_callIndexOf hl hq_9) fV_X6_callIndexOf wf_915 (rc_X6 (rfl : shC 19 = 13)) rfl ⟨Nat.le_of_ble_eq_true rfl, Nat.le_of_ble_eq_true rfl⟩ rfl (Nat.le_of_ble_eq_true rfl) dX7_callProblem_48 ⟨Nat.le_of_ble_eq_true rfl, Nat.le_of_ble_eq_true rfl⟩ ?_
          refine xv_iconst (v := (-1)) (pc := 51) hC dX7_callProblem_51 (by decide) ?_
          refine xv_icmp_eq (tgt := 68) (pc := 52) hC dX7_callProblem_52 (by decide) (fun c_10 => ?_) (fun c_10 => ?_)
          · replace hX := if_t c_10 hX
            refine xv_aload_n (pc := 68) hC dX7_callProblem_68 0 rfl rfl ?_
            refine xgX7 (v := .ref (a 13)) (pc := 69) hC dX7_callProblem_69 (rfl : shC 0 = 1) 6 (by decide) wf_316 rfl ?_
            refine xv_aload_n (pc := 72) hC dX7_callProblem_72 0 rfl rfl ?_
            refine xgX7 (v := .ref (a 19)) (pc := 73) hC dX7_callProblem_73 (rfl : shC 0 = 1) 0 (by decide) wf_310 rfl ?_
            refine xgX6 (v := .ref (a (19 + 1))) (pc := 76) hC dX7_callProblem_76 (rfl : shC 19 = 13) 0 (by decide) wf_127 rfl ?_
            refine xv_aload_n (pc := 79) hC dX7_callProblem_79 0 rfl rfl ?_
            refine xgX7 (v := .ref (a 19)) (pc := 80) hC dX7_callProblem_80 (rfl : shC 0 = 1) 0 (by decide) wf_310 rfl ?_
            obtain ⟨q_11, hq_11, hX⟩ := bnd_some hX
            refine xv_callVi0 (As := []) (pc := 83) hC (kX6_freeTrunks hl hq_11) fV_X6_freeTrunks wf_380 (rc_X6 (rfl : shC 19 = 13)) rfl ⟨Nat.le_of_ble_eq_true rfl, Nat.le_of_ble_eq_true rfl⟩ rfl (Nat.le_of_ble_eq_true rfl) dX7_callProblem_83 ⟨Nat.le_of_ble_eq_true rfl, Nat.le_of_ble_eq_true rfl⟩ ?_
            refine xv_aload_n (pc := 86) hC dX7_callProblem_86 0 rfl rfl ?_
            refine xgX7 (v := .ref (a 19)) (pc := 87) hC dX7_callProblem_87 (rfl : shC 0 = 1) 0 (by decide) wf_310 rfl ?_
            refine xv_iload_n (pc := 90) hC dX7_callProblem_90 1 rfl rfl ?_
            obtain ⟨q_12, hq_12, hX⟩ := bnd_some hX
            refine xv_callVi0 (As := [.int x1]) (pc := 91) hC (kX6_homeOf hl hq_12) fV_X6_homeOf wf_931 (rc_X6 (rfl : shC 19 = 13)) rfl ⟨Nat.le_of_ble_eq_true rfl, Nat.le_of_ble_eq_true rfl⟩ rfl (Nat.le_of_ble_eq_true rfl) dX7_callProblem_91 ⟨Nat.le_of_ble_eq_true rfl, Nat.le_of_ble_eq_true rfl⟩ ?_
            refine xv_aload_n (pc := 94) hC dX7_callProblem_94 0 rfl rfl ?_
            refine xgX7 (v := .ref (a 19)) (pc := 95) hC dX7_callProblem_95 (rfl : shC 0 = 1) 0 (by decide) wf_310 rfl ?_
            refine xv_iload_n (pc := 98) hC dX7_callProblem_98 2 rfl rfl ?_
            obtain ⟨q_13, hq_13, hX⟩ := bnd_some hX
            refine xv_callVi0 (As := [.int x2]) (pc := 99) hC (kX6_homeOf hl hq_13) fV_X6_homeOf wf_931 (rc_X6 (rfl : shC 19 = 13)) rfl ⟨Nat.le_of_ble_eq_true rfl, Nat.le_of_ble_eq_true rfl⟩ rfl (Nat.le_of_ble_eq_true rfl) dX7_callProblem_99 ⟨Nat.le_of_ble_eq_true rfl, Nat.le_of_ble_eq_true rfl⟩ ?_
            obtain ⟨q_14, hq_14, hX⟩ := bnd_some hX
            refine xv_callVi0 (As := [.ref (a (19 + 1)), .int q_11.1, .int q_12.1, .int q_13.1]) (pc := 102) hC (kX5_findRoute hl hq_14) fV_X5_findRoute wf_936 (rc_X5 (rfl : shC 13 = 10)) rfl ⟨Nat.le_of_ble_eq_true rfl, Nat.le_of_ble_eq_true rfl⟩ rfl (Nat.le_of_ble_eq_true rfl) dX7_callProblem_102 ⟨Nat.le_of_ble_eq_true rfl, Nat.le_of_ble_eq_true rfl⟩ ?_
            refine xv_if_ne (tgt := 121) (pc := 105) hC dX7_callProblem_105 (by decide) (fun c_15 => ?_) (fun c_15 => ?_)
            · replace hX := if_f c_15 hX
              refine xv_iconst (v := 0) (pc := 121) hC dX7_callProblem_121 (by decide) ?_
              obtain ⟨h1, h2⟩ := some_pair hX
              exact xv_eqi (W := cwC dA a) h1 h2 (hR _ _ _ _ (Nat.le_of_ble_eq_true rfl) (Nat.le_of_ble_eq_true rfl) dX7_callProblem_122)
            · replace hX := if_t c_15 hX
              refine xv_aload_n (pc := 108) hC dX7_callProblem_108 0 rfl rfl ?_
              refine xgX7 (v := .ref (a 3)) (pc := 109) hC dX7_callProblem_109 (rfl : shC 0 = 1) 4 (by decide) wf_314 rfl ?_
              refine xv_iload_n (pc := 112) hC dX7_callProblem_112 1 rfl rfl ?_
              refine xv_iload_n (pc := 113) hC dX7_callProblem_113 2 rfl rfl ?_
              refine xv_bipush (v := 114) (pc := 114) hC dX7_callProblem_114 (by decide) ?_
              obtain ⟨q_16, hq_16, hX⟩ := bnd_some hX
              refine xv_callVv0 (As := [.int x1, .int x2, .int 114]) (pc := 116) hC (kX0_enter hl hq_16) fV_X0_enter wf_923 (rc_X0 (rfl : shC 3 = 4)) rfl ⟨Nat.le_of_ble_eq_true rfl, Nat.le_of_ble_eq_true rfl⟩ rfl (Nat.le_of_ble_eq_true rfl) dX7_callProblem_116 ⟨Nat.le_of_ble_eq_true rfl, Nat.le_of_ble_eq_true rfl⟩ ?_
              refine xv_iconst (v := 4) (pc := 119) hC dX7_callProblem_119 (by decide) ?_
              obtain ⟨h1, h2⟩ := some_pair hX
              exact xv_eqi (W := cwC dA a) h1 h2 (hR _ _ _ _ (Nat.le_of_ble_eq_true rfl) (Nat.le_of_ble_eq_true rfl) dX7_callProblem_120)
          · replace hX := if_f c_10 hX
            refine xv_aload_n (pc := 55) hC dX7_callProblem_55 0 rfl rfl ?_
            refine xgX7 (v := .ref (a 3)) (pc := 56) hC dX7_callProblem_56 (rfl : shC 0 = 1) 4 (by decide) wf_314 rfl ?_
            refine xv_iload_n (pc := 59) hC dX7_callProblem_59 1 rfl rfl ?_
            refine xv_iload_n (pc := 60) hC dX7_callProblem_60 2 rfl rfl ?_
            refine xv_bipush (v := 98) (pc := 61) hC dX7_callProblem_61 (by decide) ?_
            obtain ⟨q_17, hq_17, hX⟩ := bnd_some hX
            refine xv_callVv0 (As := [.int x1, .int x2, .int 98]) (pc := 63) hC (kX0_enter hl hq_17) fV_X0_enter wf_923 (rc_X0 (rfl : shC 3 = 4)) rfl ⟨Nat.le_of_ble_eq_true rfl, Nat.le_of_ble_eq_true rfl⟩ rfl (Nat.le_of_ble_eq_true rfl) dX7_callProblem_63 ⟨Nat.le_of_ble_eq_true rfl, Nat.le_of_ble_eq_true rfl⟩ ?_
            refine xv_iconst (v := 3) (pc := 66) hC dX7_callProblem_66 (by decide) ?_
            obtain ⟨h1, h2⟩ := some_pair hX
            exact xv_eqi (W := cwC dA a) h1 h2 (hR _ _ _ _ (Nat.le_of_ble_eq_true rfl) (Nat.le_of_ble_eq_true rfl) dX7_callProblem_67)
      · replace hX := if_t c_5 hX
        refine xv_iconst (v := 2) (pc := 29) hC dX7_callProblem_29 (by decide) ?_
        obtain ⟨h1, h2⟩ := some_pair hX
        exact xv_eqi (W := cwC dA a) h1 h2 (hR _ _ _ _ (Nat.le_of_ble_eq_true rfl) (Nat.le_of_ble_eq_true rfl) dX7_callProblem_30)
    · replace hX := if_t c_4 hX
      refine xv_iconst (v := 1) (pc := 22) hC dX7_callProblem_22 (by decide) ?_
      obtain ⟨h1, h2⟩ := some_pair hX
      exact xv_eqi (W := cwC dA a) h1 h2 (hR _ _ _ _ (Nat.le_of_ble_eq_true rfl) (Nat.le_of_ble_eq_true rfl) dX7_callProblem_23)
def sX7_problemOf (x1 : Int32) (x2 : Int32) (x3 : Int32) (x4 : Int32) (Z : ZZ) : Option (Int32 × ZZ) :=
  if x1 = 0 then (
    bnd (sX3_switchProblem (19 + 1) Z) <| fun q_2 =>
    some (q_2.1, q_2.2)) else if x1 = 1 then (
    bnd (sX3_trunkProblem (19 + 1) x2 x3 x4 Z) <| fun q_4 =>
    some (q_4.1, q_4.2)) else if x1 = 2 then (
    bnd (sX6_subscriberProblem 19 x2 x3 Z) <| fun q_6 =>
    some (q_6.1, q_6.2)) else if x1 = 3 then (
    bnd (sX7_callProblem x2 x3 Z) <| fun q_8 =>
    some (q_8.1, q_8.2)) else if x1 = 4 then (
    bnd (sX6_hangUpProblem 19 x2 Z) <| fun q_10 =>
    some (q_10.1, q_10.2)) else if x1 = 5 then (
    bnd (sX3_repairProblem (19 + 1) x2 0 Z) <| fun q_12 =>
    some (q_12.1, q_12.2)) else if x1 = 6 then (
    bnd (sX3_repairProblem (19 + 1) x2 1 Z) <| fun q_14 =>
    some (q_14.1, q_14.2)) else if x1 = 7 then (
    if x2 < 1 then (
      some (2, Z)) else (
      if (60 : Int32) < x2 then (
        some (2, Z)) else (
        some (0, Z)))) else (
    some (2, Z))
abbrev rmX7_problemOf : Room := { frames := 4, cells := 0, slots := 0, locals := 100 }
set_option maxHeartbeats 4000000 in
set_option maxRecDepth 100000 in
theorem kX7_problemOf {l : Launch} {D : va_G} {dA : Nat → ClassId} {sa : String → Nat → Nat} {a : Nat → Nat} (hl : l.stackTraces = false) {x1 : Int32} {x2 : Int32} {x3 : Int32} {x4 : Int32} {Z Z' : ZZ} {v : Int32} (hX : sX7_problemOf x1 x2 x3 x4 Z = some (v, Z')) : CTi l D dA sa yX7_problemOf (wz yX7_problemOf cX7_problemOf 5 (some .int)) rmX7_problemOf [.ref (a 0), .int x1, .int x2, .int x3, .int x4] (cwC dA a Z) v (cwC dA a Z') := by
  refine xm_i hl (by decide +kernel) (Nat.le_of_ble_eq_true rfl) rfl ?_
  intro p e s m args below meth c A Q hC hR
  unfold sX7_problemOf at hX
  show xv p l e rmX7_problemOf s m args below meth c D A 5 Q (cwC dA a Z) 0 0 0 [(0, .ref (a 0)), (1, .int x1), (2, .int x2), (3, .int x3), (4, .int x4)] []
  refine xv_iload_n (pc := 0) hC dX7_problemOf_0 1 rfl rfl ?_
  by_cases c_1 : x1 = 0
  · replace hX := if_t c_1 hX
    refine xv_tabIn (tgt := 48) (pc := 1) hC dX7_problemOf_1 0 c_1 (by decide) (by decide) rfl (by decide) ?_
    refine xv_aload_n (pc := 48) hC dX7_problemOf_48 0 rfl rfl ?_
    refine xgX7 (v := .ref (a 19)) (pc := 49) hC dX7_problemOf_49 (rfl : shC 0 = 1) 0 (by decide) wf_310 rfl ?_
    refine xgX6 (v := .ref (a (19 + 1))) (pc := 52) hC dX7_problemOf_52 (rfl : shC 19 = 13) 0 (by decide) wf_127 rfl ?_
    obtain ⟨q_2, hq_2, hX⟩ := bnd_some hX
    refine xv_callVi0 (As := []) (pc := 55) hC (kX3_switchProblem hl hq_2) fV_X3_switchProblem wf_893 (rc_X3 (sh_X6_network (rfl : shC 19 = 13))) rfl ⟨Nat.le_of_ble_eq_true rfl, Nat.le_of_ble_eq_true rfl⟩ rfl (Nat.le_of_ble_eq_true rfl) dX7_problemOf_55 ⟨Nat.le_of_ble_eq_true rfl, Nat.le_of_ble_eq_true rfl⟩ ?_
    obtain ⟨h1, h2⟩ := some_pair hX
    exact xv_eqi (W := cwC dA a) h1 h2 (hR _ _ _ _ (Nat.le_of_ble_eq_true rfl) (Nat.le_of_ble_eq_true rfl) dX7_problemOf_58)
  replace hX := if_f c_1 hX
  by_cases c_3 : x1 = 1
  · replace hX := if_t c_3 hX
    refine xv_tabIn (tgt := 59) (pc := 1) hC dX7_problemOf_1 1 c_3 (by decide) (by decide) rfl (by decide) ?_
    refine xv_aload_n (pc := 59) hC dX7_problemOf_59 0 rfl rfl ?_
    refine xgX7 (v := .ref (a 19)) (pc := 60) hC dX7_problemOf_60 (rfl : shC 0 = 1) 0 (by decide) wf_310 rfl ?_
    refine xgX6 (v := .ref (a (19 + 1))) (pc := 63) hC dX7_problemOf_63 (rfl : shC 19 = 13) 0 (by decide) wf_127 rfl ?_
    refine xv_iload_n (pc := 66) hC dX7_problemOf_66 2 rfl rfl ?_
    refine xv_iload_n (pc := 67) hC dX7_problemOf_67 3 rfl rfl ?_
    refine xv_iload (pc := 68) hC dX7_problemOf_68 4 rfl ?_
    obtain ⟨q_4, hq_4, hX⟩ := bnd_some hX
    refine xv_callVi0 (As := [.int x2, .int x3, .int x4]) (pc := 70) hC (kX3_trunkProblem hl hq_4) fV_X3_trunkProblem wf_897 (rc_X3 (sh_X6_network (rfl : shC 19 = 13))) rfl ⟨Nat.le_of_ble_eq_true rfl, Nat.le_of_ble_eq_true rfl⟩ rfl (Nat.le_of_ble_eq_true rfl) dX7_problemOf_70 ⟨Nat.le_of_ble_eq_true rfl, Nat.le_of_ble_eq_true rfl⟩ ?_
    obtain ⟨h1, h2⟩ := some_pair hX
    exact xv_eqi (W := cwC dA a) h1 h2 (hR _ _ _ _ (Nat.le_of_ble_eq_true rfl) (Nat.le_of_ble_eq_true rfl) dX7_problemOf_73)
  replace hX := if_f c_3 hX
  by_cases c_5 : x1 = 2
  · replace hX := if_t c_5 hX
    refine xv_tabIn (tgt := 74) (pc := 1) hC dX7_problemOf_1 2 c_5 (by decide) (by decide) rfl (by decide) ?_
    refine xv_aload_n (pc := 74) hC dX7_problemOf_74 0 rfl rfl ?_
    refine xgX7 (v := .ref (a 19)) (pc := 75) hC dX7_problemOf_75 (rfl : shC 0 = 1) 0 (by decide) wf_310 rfl ?_
    refine xv_iload_n (pc := 78) hC dX7_problemOf_78 2 rfl rfl ?_
    refine xv_iload_n (pc := 79) hC dX7_problemOf_79 3 rfl rfl ?_
    obtain ⟨q_6, hq_6, hX⟩ := bnd_some hX
    refine xv_callVi0 (As := [.int x2, .int x3]) (pc := 80) hC (kX6_subscriberProblem hl hq_6) fV_X6_subscriberProblem wf_902 (rc_X6 (rfl : shC 19 = 13)) rfl ⟨Nat.le_of_ble_eq_true rfl, Nat.le_of_ble_eq_true rfl⟩ rfl (Nat.le_of_ble_eq_true rfl) dX7_problemOf_80 ⟨Nat.le_of_ble_eq_true rfl, Nat.le_of_ble_eq_true rfl⟩ ?_
    obtain ⟨h1, h2⟩ := some_pair hX
    exact xv_eqi (W := cwC dA a) h1 h2 (hR _ _ _ _ (Nat.le_of_ble_eq_true rfl) (Nat.le_of_ble_eq_true rfl) dX7_problemOf_83)
  replace hX := if_f c_5 hX
  by_cases c_7 : x1 = 3
  · replace hX := if_t c_7 hX
    refine xv_tabIn (tgt := 84) (pc := 1) hC dX7_problemOf_1 3 c_7 (by decide) (by decide) rfl (by decide) ?_
    refine xv_aload_n (pc := 84) hC dX7_problemOf_84 0 rfl rfl ?_
    refine xv_iload_n (pc := 85) hC dX7_problemOf_85 2 rfl rfl ?_
    refine xv_iload_n (pc := 86) hC dX7_problemOf_86 3 rfl rfl ?_
    obtain ⟨q_8, hq_8, hX⟩ := bnd_some hX
    refine xv_callVi0 (As := [.int x2, .int x3]) (pc := 87) hC (kX7_callProblem hl hq_8) fV_X7_callProblem wf_907 (rc_X7 (rfl : shC 0 = 1)) rfl ⟨Nat.le_of_ble_eq_true rfl, Nat.le_of_ble_eq_true rfl⟩ rfl (Nat.le_of_ble_eq_true rfl) dX7_problemOf_87 ⟨Nat.le_of_ble_eq_true rfl, Nat.le_of_ble_eq_true rfl⟩ ?_
    obtain ⟨h1, h2⟩ := some_pair hX
    exact xv_eqi (W := cwC dA a) h1 h2 (hR _ _ _ _ (Nat.le_of_ble_eq_true rfl) (Nat.le_of_ble_eq_true rfl) dX7_problemOf_90)
  replace hX := if_f c_7 hX
  by_cases c_9 : x1 = 4
  · replace hX := if_t c_9 hX
    refine xv_tabIn (tgt := 91) (pc := 1) hC dX7_problemOf_1 4 c_9 (by decide) (by decide) rfl (by decide) ?_
    refine xv_aload_n (pc := 91) hC dX7_problemOf_91 0 rfl rfl ?_
    refine xgX7 (v := .ref (a 19)) (pc := 92) hC dX7_problemOf_92 (rfl : shC 0 = 1) 0 (by decide) wf_310 rfl ?_
    refine xv_iload_n (pc := 95) hC dX7_problemOf_95 2 rfl rfl ?_
    obtain ⟨q_10, hq_10, hX⟩ := bnd_some hX
    refine xv_callVi0 (As := [.int x2]) (pc := 96) hC (kX6_hangUpProblem hl hq_10) fV_X6_hangUpProblem wf_944 (rc_X6 (rfl : shC 19 = 13)) rfl ⟨Nat.le_of_ble_eq_true rfl, Nat.le_of_ble_eq_true rfl⟩ rfl (Nat.le_of_ble_eq_true rfl) dX7_problemOf_96 ⟨Nat.le_of_ble_eq_true rfl, Nat.le_of_ble_eq_true rfl⟩ ?_
    obtain ⟨h1, h2⟩ := some_pair hX
    exact xv_eqi (W := cwC dA a) h1 h2 (hR _ _ _ _ (Nat.le_of_ble_eq_true rfl) (Nat.le_of_ble_eq_true rfl) dX7_problemOf_99)
  replace hX := if_f c_9 hX
  by_cases c_11 : x1 = 5
  · replace hX := if_t c_11 hX
    refine xv_tabIn (tgt := 100) (pc := 1) hC dX7_problemOf_1 5 c_11 (by decide) (by decide) rfl (by decide) ?_
    refine xv_aload_n (pc := 100) hC dX7_problemOf_100 0 rfl rfl ?_
    refine xgX7 (v := .ref (a 19)) (pc := 101) hC dX7_problemOf_101 (rfl : shC 0 = 1) 0 (by decide) wf_310 rfl ?_
    refine xgX6 (v := .ref (a (19 + 1))) (pc := 104) hC dX7_problemOf_104 (rfl : shC 19 = 13) 0 (by decide) wf_127 rfl ?_
    refine xv_iload_n (pc := 107) hC dX7_problemOf_107 2 rfl rfl ?_
    refine xv_iconst (v := 0) (pc := 108) hC dX7_problemOf_108 (by decide) ?_
    obtain ⟨q_12, hq_12, hX⟩ := bnd_some hX
    refine xv_callVi0 (As := [.int x2, .int 0]) (pc := 109) hC (kX3_repairProblem hl hq_12) fV_X3_repairProblem wf_949 (rc_X3 (sh_X6_network (rfl : shC 19 = 13))) rfl ⟨Nat.le_of_ble_eq_true rfl, Nat.le_of_ble_eq_true rfl⟩ rfl (Nat.le_of_ble_eq_true rfl) dX7_problemOf_109 ⟨Nat.le_of_ble_eq_true rfl, Nat.le_of_ble_eq_true rfl⟩ ?_
    obtain ⟨h1, h2⟩ := some_pair hX
    exact xv_eqi (W := cwC dA a) h1 h2 (hR _ _ _ _ (Nat.le_of_ble_eq_true rfl) (Nat.le_of_ble_eq_true rfl) dX7_problemOf_112)
  replace hX := if_f c_11 hX
  by_cases c_13 : x1 = 6
  · replace hX := if_t c_13 hX
    refine xv_tabIn (tgt := 113) (pc := 1) hC dX7_problemOf_1 6 c_13 (by decide) (by decide) rfl (by decide) ?_
    refine xv_aload_n (pc := 113) hC dX7_problemOf_113 0 rfl rfl ?_
    refine xgX7 (v := .ref (a 19)) (pc := 114) hC dX7_problemOf_114 (rfl : shC 0 = 1) 0 (by decide) wf_310 rfl ?_
    refine xgX6 (v := .ref (a (19 + 1))) (pc := 117) hC dX7_problemOf_117 (rfl : shC 19 = 13) 0 (by decide) wf_127 rfl ?_
    refine xv_iload_n (pc := 120) hC dX7_problemOf_120 2 rfl rfl ?_
    refine xv_iconst (v := 1) (pc := 121) hC dX7_problemOf_121 (by decide) ?_
    obtain ⟨q_14, hq_14, hX⟩ := bnd_some hX
    refine xv_callVi0 (As := [.int x2, .int 1]) (pc := 122) hC (kX3_repairProblem hl hq_14) fV_X3_repairProblem wf_949 (rc_X3 (sh_X6_network (rfl : shC 19 = 13))) rfl ⟨Nat.le_of_ble_eq_true rfl, Nat.le_of_ble_eq_true rfl⟩ rfl (Nat.le_of_ble_eq_true rfl) dX7_problemOf_122 ⟨Nat.le_of_ble_eq_true rfl, Nat.le_of_ble_eq_true rfl⟩ ?_
    obtain ⟨h1, h2⟩ := some_pair hX
    exact xv_eqi (W := cwC dA a) h1 h2 (hR _ _ _ _ (Nat.le_of_ble_eq_true rfl) (Nat.le_of_ble_eq_true rfl) dX7_problemOf_125)
  replace hX := if_f c_13 hX
  by_cases c_15 : x1 = 7
  · replace hX := if_t c_15 hX
    refine xv_tabIn (tgt := 126) (pc := 1) hC dX7_problemOf_1 7 c_15 (by decide) (by decide) rfl (by decide) ?_
    refine xv_iload_n (pc := 126) hC dX7_problemOf_126 2 rfl rfl ?_
    refine xv_iconst (v := 1) (pc := 127) hC dX7_problemOf_127 (by decide) ?_
    refine xv_icmp_lt (tgt := 141) (pc := 128) hC dX7_problemOf_128 (by decide) (fun c_16 => ?_) (fun c_16 => ?_)
    · replace hX := if_t c_16 hX
      refine xv_iconst (v := 2) (pc := 141) hC dX7_problemOf_141 (by decide) ?_
      obtain ⟨h1, h2⟩ := some_pair hX
      exact xv_eqi (W := cwC dA a) h1 h2 (hR _ _ _ _ (Nat.le_of_ble_eq_true rfl) (Nat.le_of_ble_eq_true rfl) dX7_problemOf_142)
    · replace hX := if_f c_16 hX
      refine xv_iload_n (pc := 131) hC dX7_problemOf_131 2 rfl rfl ?_
      refine xv_bipush (v := 60) (pc := 132) hC dX7_problemOf_132 (by decide) ?_
      refine xv_icmp_gt (tgt := 141) (pc := 134) hC dX7_problemOf_134 (by decide) (fun c_17 => ?_) (fun c_17 => ?_)
      · replace hX := if_t c_17 hX
        refine xv_iconst (v := 2) (pc := 141) hC dX7_problemOf_141 (by decide) ?_
        obtain ⟨h1, h2⟩ := some_pair hX
        exact xv_eqi (W := cwC dA a) h1 h2 (hR _ _ _ _ (Nat.le_of_ble_eq_true rfl) (Nat.le_of_ble_eq_true rfl) dX7_problemOf_142)
      · replace hX := if_f c_17 hX
        refine xv_iconst (v := 0) (pc := 137) hC dX7_problemOf_137 (by decide) ?_
        refine xv_goto (tgt := 142) (pc := 138) hC dX7_problemOf_138 (by decide) ?_
        obtain ⟨h1, h2⟩ := some_pair hX
        exact xv_eqi (W := cwC dA a) h1 h2 (hR _ _ _ _ (Nat.le_of_ble_eq_true rfl) (Nat.le_of_ble_eq_true rfl) dX7_problemOf_142)
  replace hX := if_f c_15 hX
  refine xv_tabD (tgt := 143) (pc := 1) hC dX7_problemOf_1 rfl (fun i9 hi9 hne9 hx9 => ?_) (by decide) ?_
  · have hi9 : i9 < 8 := hi9
    rcases (by omega : i9 = 0 ∨ i9 = 1 ∨ i9 = 2 ∨ i9 = 3 ∨ i9 = 4 ∨ i9 = 5 ∨ i9 = 6 ∨ i9 = 7) with rfl | rfl | rfl | rfl | rfl | rfl | rfl | rfl <;> first | exact hne9 rfl | exact absurd hx9 (by assumption)
  · skip
    refine xv_iconst (v := 2) (pc := 143) hC dX7_problemOf_143 (by decide) ?_
    obtain ⟨h1, h2⟩ := some_pair hX
    exact xv_eqi (W := cwC dA a) h1 h2 (hR _ _ _ _ (Nat.le_of_ble_eq_true rfl) (Nat.le_of_ble_eq_true rfl) dX7_problemOf_144)
def sX7_refuse (x0 : Int32) (Z : ZZ) : Option ((Nat ⊕ Unit) × ZZ) :=
  if x0 = 1 then (
    some (.inl 1, Z)) else if x0 = 2 then (
    some (.inl 2, Z)) else if x0 = 3 then (
    some (.inl 3, Z)) else if x0 = 4 then (
    some (.inl 4, Z)) else (
    some (.inr (), Z))
abbrev rmX7_refuse : Room := { frames := 6, cells := 1, slots := 6, locals := 82 }
set_option maxHeartbeats 4000000 in
set_option maxRecDepth 100000 in
theorem kX7_refuse {l : Launch} {D : va_G} {dA : Nat → ClassId} {sa : String → Nat → Nat} {a : Nat → Nat} (hl : l.stackTraces = false) {x0 : Int32} {Z Z' : ZZ} {o : Nat ⊕ Unit} (hX : sX7_refuse x0 Z = some (o, Z')) : CXv l D dA sa yX7_refuse (wz yX7_refuse cX7_refuse 1 none) rmX7_refuse [.int x0] (cwC dA a Z) o (cwC dA a Z') := by
  refine xm_xv hl (by decide +kernel) (Nat.le_of_ble_eq_true rfl) rfl ?_
  intro p e s m args below meth c A Q hC hR hT hTw hTq hTqw hO
  unfold sX7_refuse at hX
  show xv p l e rmX7_refuse s m args below meth c D A 1 Q (cwC dA a Z) 0 0 0 [(0, .int x0)] []
  refine xv_iload_n (pc := 0) hC dX7_refuse_0 0 rfl rfl ?_
  by_cases c_1 : x0 = 1
  · replace hX := if_t c_1 hX
    refine xv_tabIn (tgt := 32) (pc := 1) hC dX7_refuse_1 1 c_1 (by decide) (by decide) rfl (by decide) ?_
    obtain ⟨h1, h2⟩ := some_pair hX
    exact xv_eqw (W := cwC dA a) h2 (hT _ _ 32 1 _ _ _ _ _ _ h1.symm ⟨dX7_refuse_32, dX7_refuse_35, dX7_refuse_36, dX7_refuse_38, dX7_refuse_41⟩ tw_X7_90 (by decide +kernel : (_, 88, "there is no switch, trunk or subscriber of this number") ∈ xe_S) (Nat.le_of_ble_eq_true rfl) (Nat.le_of_ble_eq_true rfl) (Nat.le_of_ble_eq_true rfl) (Nat.le_of_ble_eq_true rfl))
  replace hX := if_f c_1 hX
  by_cases c_2 : x0 = 2
  · replace hX := if_t c_2 hX
    refine xv_tabIn (tgt := 42) (pc := 1) hC dX7_refuse_1 2 c_2 (by decide) (by decide) rfl (by decide) ?_
    obtain ⟨h1, h2⟩ := some_pair hX
    exact xv_eqw (W := cwC dA a) h2 (hT _ _ 42 2 _ _ _ _ _ _ h1.symm ⟨dX7_refuse_42, dX7_refuse_45, dX7_refuse_46, dX7_refuse_48, dX7_refuse_51⟩ tw_X7_97 (by decide +kernel : (_, 95, "an argument is out of range, or both are the same one") ∈ xe_S) (Nat.le_of_ble_eq_true rfl) (Nat.le_of_ble_eq_true rfl) (Nat.le_of_ble_eq_true rfl) (Nat.le_of_ble_eq_true rfl))
  replace hX := if_f c_2 hX
  by_cases c_3 : x0 = 3
  · replace hX := if_t c_3 hX
    refine xv_tabIn (tgt := 52) (pc := 1) hC dX7_refuse_1 3 c_3 (by decide) (by decide) rfl (by decide) ?_
    obtain ⟨h1, h2⟩ := some_pair hX
    exact xv_eqw (W := cwC dA a) h2 (hT _ _ 52 3 _ _ _ _ _ _ h1.symm ⟨dX7_refuse_52, dX7_refuse_55, dX7_refuse_56, dX7_refuse_58, dX7_refuse_61⟩ tw_X7_102 (by decide +kernel : (_, 100, "the state of the switchboard does not allow this") ∈ xe_S) (Nat.le_of_ble_eq_true rfl) (Nat.le_of_ble_eq_true rfl) (Nat.le_of_ble_eq_true rfl) (Nat.le_of_ble_eq_true rfl))
  replace hX := if_f c_3 hX
  by_cases c_4 : x0 = 4
  · replace hX := if_t c_4 hX
    refine xv_tabIn (tgt := 62) (pc := 1) hC dX7_refuse_1 4 c_4 (by decide) (by decide) rfl (by decide) ?_
    obtain ⟨h1, h2⟩ := some_pair hX
    exact xv_eqw (W := cwC dA a) h2 (hT _ _ 62 4 _ _ _ _ _ _ h1.symm ⟨dX7_refuse_62, dX7_refuse_65, dX7_refuse_66, dX7_refuse_68, dX7_refuse_71⟩ tw_X7_107 (by decide +kernel : (_, 105, "there is no route over free trunks") ∈ xe_S) (Nat.le_of_ble_eq_true rfl) (Nat.le_of_ble_eq_true rfl) (Nat.le_of_ble_eq_true rfl) (Nat.le_of_ble_eq_true rfl))
  replace hX := if_f c_4 hX
  refine xv_tabD (tgt := 72) (pc := 1) hC dX7_refuse_1 rfl (fun i9 hi9 hne9 hx9 => ?_) (by decide) ?_
  · have hi9 : i9 < 4 := hi9
    rcases (by omega : i9 = 0 ∨ i9 = 1 ∨ i9 = 2 ∨ i9 = 3) with rfl | rfl | rfl | rfl <;> first | exact hne9 rfl | exact absurd hx9 (by assumption)
  · skip
    obtain ⟨h1, h2⟩ := some_pair hX
    exact xv_eqw (W := cwC dA a) h2 (hR _ _ _ _ h1.symm (Nat.le_of_ble_eq_true rfl) (Nat.le_of_ble_eq_true rfl) dX7_refuse_72)
def sX7_startCall (x1 : Int32) (x2 : Int32) (Z : ZZ) : Option (Int32 × ZZ) :=
  bnd (sX6_freeTrunks 19 Z) <| fun q_1 =>
  bnd (sX6_homeOf 19 x1 q_1.2) <| fun q_2 =>
  bnd (sX6_homeOf 19 x2 q_2.2) <| fun q_3 =>
  bnd (sX5_findRoute (19 + 1) q_1.1 q_2.1 q_3.1 q_3.2) <| fun q_4 =>
  bnd (sX6_beginCall 19 x1 x2 q_4.2) <| fun q_5 =>
  some (q_5.1, q_5.2)
abbrev rmX7_startCall : Room := { frames := 4, cells := 0, slots := 0, locals := 126 }
set_option maxHeartbeats 4000000 in
set_option maxRecDepth 100000 in
theorem kX7_startCall {l : Launch} {D : va_G} {dA : Nat → ClassId} {sa : String → Nat → Nat} {a : Nat → Nat} (hl : l.stackTraces = false) {x1 : Int32} {x2 : Int32} {Z Z' : ZZ} {v : Int32} (hX : sX7_startCall x1 x2 Z = some (v, Z')) : CTi l D dA sa yX7_startCall (wz yX7_startCall cX7_startCall 3 (some .int)) rmX7_startCall [.ref (a 0), .int x1, .int x2] (cwC dA a Z) v (cwC dA a Z') := by
  refine xm_i hl (by decide +kernel) (Nat.le_of_ble_eq_true rfl) rfl ?_
  intro p e s m args below meth c A Q hC hR
  unfold sX7_startCall at hX
  show xv p l e rmX7_startCall s m args below meth c D A 3 Q (cwC dA a Z) 0 0 0 [(0, .ref (a 0)), (1, .int x1), (2, .int x2)] []
  refine xv_aload_n (pc := 0) hC dX7_startCall_0 0 rfl rfl ?_
  refine xgX7 (v := .ref (a 13)) (pc := 1) hC dX7_startCall_1 (rfl : shC 0 = 1) 6 (by decide) wf_316 rfl ?_
  refine xv_aload_n (pc := 4) hC dX7_startCall_4 0 rfl rfl ?_
  refine xgX7 (v := .ref (a 19)) (pc := 5) hC dX7_startCall_5 (rfl : shC 0 = 1) 0 (by decide) wf_310 rfl ?_
  refine xgX6 (v := .ref (a (19 + 1))) (pc := 8) hC dX7_startCall_8 (rfl : shC 19 = 13) 0 (by decide) wf_127 rfl ?_
  refine xv_aload_n (pc := 11) hC dX7_startCall_11 0 rfl rfl ?_
  refine xgX7 (v := .ref (a 19)) (pc := 12) hC dX7_startCall_12 (rfl : shC 0 = 1) 0 (by decide) wf_310 rfl ?_
  obtain ⟨q_1, hq_1, hX⟩ := bnd_some hX
  refine xv_callVi0 (As := []) (pc := 15) hC (kX6_freeTrunks hl hq_1) fV_X6_freeTrunks wf_380 (rc_X6 (rfl : shC 19 = 13)) rfl ⟨Nat.le_of_ble_eq_true rfl, Nat.le_of_ble_eq_true rfl⟩ rfl (Nat.le_of_ble_eq_true rfl) dX7_startCall_15 ⟨Nat.le_of_ble_eq_true rfl, Nat.le_of_ble_eq_true rfl⟩ ?_
  refine xv_aload_n (pc := 18) hC dX7_startCall_18 0 rfl rfl ?_
  refine xgX7 (v := .ref (a 19)) (pc := 19) hC dX7_startCall_19 (rfl : shC 0 = 1) 0 (by decide) wf_310 rfl ?_
  refine xv_iload_n (pc := 22) hC dX7_startCall_22 1 rfl rfl ?_
  obtain ⟨q_2, hq_2, hX⟩ := bnd_some hX
  refine xv_callVi0 (As := [.int x1]) (pc := 23) hC (kX6_homeOf hl hq_2) fV_X6_homeOf wf_931 (rc_X6 (rfl : shC 19 = 13)) rfl ⟨Nat.le_of_ble_eq_true rfl, Nat.le_of_ble_eq_true rfl⟩ rfl (Nat.le_of_ble_eq_true rfl) dX7_startCall_23 ⟨Nat.le_of_ble_eq_true rfl, Nat.le_of_ble_eq_true rfl⟩ ?_
  refine xv_aload_n (pc := 26) hC dX7_startCall_26 0 rfl rfl ?_
  refine xgX7 (v := .ref (a 19)) (pc := 27) hC dX7_startCall_27 (rfl : shC 0 = 1) 0 (by decide) wf_310 rfl ?_
  refine xv_iload_n (pc := 30) hC dX7_startCall_30 2 rfl rfl ?_
  obtain ⟨q_3, hq_3, hX⟩ := bnd_some hX
  refine xv_callVi0 (As := [.int x2]) (pc := 31) hC (kX6_homeOf hl hq_3) fV_X6_homeOf wf_931 (rc_X6 (rfl : shC 19 = 13)) rfl ⟨Nat.le_of_ble_eq_true rfl, Nat.le_of_ble_eq_true rfl⟩ rfl (Nat.le_of_ble_eq_true rfl) dX7_startCall_31 ⟨Nat.le_of_ble_eq_true rfl, Nat.le_of_ble_eq_true rfl⟩ ?_
  obtain ⟨q_4, hq_4, hX⟩ := bnd_some hX
  refine xv_callVi0 (As := [.ref (a (19 + 1)), .int q_1.1, .int q_2.1, .int q_3.1]) (pc := 34) hC (kX5_findRoute hl hq_4) fV_X5_findRoute wf_936 (rc_X5 (rfl : shC 13 = 10)) rfl ⟨Nat.le_of_ble_eq_true rfl, Nat.le_of_ble_eq_true rfl⟩ rfl (Nat.le_of_ble_eq_true rfl) dX7_startCall_34 ⟨Nat.le_of_ble_eq_true rfl, Nat.le_of_ble_eq_true rfl⟩ ?_
  refine xv_pop (pc := 37) hC dX7_startCall_37 rfl ?_
  refine xv_aload_n (pc := 38) hC dX7_startCall_38 0 rfl rfl ?_
  refine xgX7 (v := .ref (a 19)) (pc := 39) hC dX7_startCall_39 (rfl : shC 0 = 1) 0 (by decide) wf_310 rfl ?_
  refine xv_iload_n (pc := 42) hC dX7_startCall_42 1 rfl rfl ?_
  refine xv_iload_n (pc := 43) hC dX7_startCall_43 2 rfl rfl ?_
  refine xv_aload_n (pc := 44) hC dX7_startCall_44 0 rfl rfl ?_
  refine xgX7 (v := .ref (a 13)) (pc := 45) hC dX7_startCall_45 (rfl : shC 0 = 1) 6 (by decide) wf_316 rfl ?_
  obtain ⟨q_5, hq_5, hX⟩ := bnd_some hX
  refine xv_callVi0 (As := [.int x1, .int x2, .ref (a 13)]) (pc := 48) hC (kX6_beginCall hl hq_5) fV_X6_beginCall wf_1032 (rc_X6 (rfl : shC 19 = 13)) rfl ⟨Nat.le_of_ble_eq_true rfl, Nat.le_of_ble_eq_true rfl⟩ rfl (Nat.le_of_ble_eq_true rfl) dX7_startCall_48 ⟨Nat.le_of_ble_eq_true rfl, Nat.le_of_ble_eq_true rfl⟩ ?_
  obtain ⟨h1, h2⟩ := some_pair hX
  exact xv_eqi (W := cwC dA a) h1 h2 (hR _ _ _ _ (Nat.le_of_ble_eq_true rfl) (Nat.le_of_ble_eq_true rfl) dX7_startCall_51)
def sX7_severTrunk (x1 : Int32) (Z : ZZ) : Option (Int32 × ZZ) :=
  bnd (sX7_bit x1 Z) <| fun q_1 =>
  nm (pI q_1.2 (19 + 1) 6 ((gI Z (19 + 1) 6) ||| q_1.1)) <| fun Z_2 =>
  bnd (sX6_userIndexOf 19 x1 Z_2) <| fun q_3 =>
  nm (q_3.1) <| fun y_4 =>
  if y_4 = (-1) then (
    some (0, q_3.2)) else (
    gd (vin y_4 5 = true) <|
    bnd (sX6_freeTrunks 19 q_3.2) <| fun q_7 =>
    bnd (sX1_trunkBits (elC (19 + 9) y_4) q_7.2) <| fun q_8 =>
    bnd (sX7_bit x1 q_8.2) <| fun q_9 =>
    nm ((q_7.1 ||| q_8.1) &&& (q_9.1 ^^^ (-1))) <| fun y_10 =>
    bnd (sX6_homeOf 19 (gI q_9.2 (elC (19 + 9) y_4) 0) q_9.2) <| fun q_11 =>
    bnd (sX6_homeOf 19 (gI q_11.2 (elC (19 + 9) y_4) 1) q_11.2) <| fun q_12 =>
    bnd (sX5_findRoute (19 + 1) y_10 q_11.1 q_12.1 q_12.2) <| fun q_13 =>
    if q_13.1 = 0 then (
      bnd (sX6_endCall 19 y_4 q_13.2) <| fun q_15 =>
      some (1, q_15.2)) else (
      bnd (sX1_takeRoute (elC (19 + 9) y_4) q_13.2) <| fun q_16 =>
      some (0, q_16)))
abbrev rmX7_severTrunk : Room := { frames := 4, cells := 0, slots := 0, locals := 126 }
set_option maxHeartbeats 4000000 in
set_option maxRecDepth 100000 in
theorem kX7_severTrunk {l : Launch} {D : va_G} {dA : Nat → ClassId} {sa : String → Nat → Nat} {a : Nat → Nat} (hl : l.stackTraces = false) {x1 : Int32} {Z Z' : ZZ} {v : Int32} (hX : sX7_severTrunk x1 Z = some (v, Z')) : CTi l D dA sa yX7_severTrunk (wz yX7_severTrunk cX7_severTrunk 5 (some .int)) rmX7_severTrunk [.ref (a 0), .int x1] (cwC dA a Z) v (cwC dA a Z') := by
  refine xm_i hl (by decide +kernel) (Nat.le_of_ble_eq_true rfl) rfl ?_
  intro p e s m args below meth c A Q hC hR
  unfold sX7_severTrunk at hX
  show xv p l e rmX7_severTrunk s m args below meth c D A 5 Q (cwC dA a Z) 0 0 0 [(0, .ref (a 0)), (1, .int x1)] []
  refine xv_aload_n (pc := 0) hC dX7_severTrunk_0 0 rfl rfl ?_
  refine xgX7 (v := .ref (a 19)) (pc := 1) hC dX7_severTrunk_1 (rfl : shC 0 = 1) 0 (by decide) wf_310 rfl ?_
  refine xgX6 (v := .ref (a (19 + 1))) (pc := 4) hC dX7_severTrunk_4 (rfl : shC 19 = 13) 0 (by decide) wf_127 rfl ?_
  refine xv_dup (pc := 7) hC dX7_severTrunk_7 rfl ?_
  refine xgX3 (v := .int (gI Z (19 + 1) 6)) (pc := 8) hC dX7_severTrunk_8 (sh_X6_network (rfl : shC 19 = 13)) 6 (by decide) wf_72 rfl ?_
  refine xv_iload_n (pc := 11) hC dX7_severTrunk_11 1 rfl rfl ?_
  obtain ⟨q_1, hq_1, hX⟩ := bnd_some hX
  refine xv_callSi0 (As := [.int x1]) (pc := 12) hC (kX7_bit hl hq_1) fS_X7_bit wf_1052 rfl ⟨Nat.le_of_ble_eq_true rfl, Nat.le_of_ble_eq_true rfl⟩ rfl (Nat.le_of_ble_eq_true rfl) dX7_severTrunk_12 ⟨Nat.le_of_ble_eq_true rfl, Nat.le_of_ble_eq_true rfl⟩ ?_
  refine xv_ior (pc := 15) hC dX7_severTrunk_15 ?_
  obtain ⟨Z_2, hZ_2, hX⟩ := nm_some hX
  refine xpX3 (ty := .int) (pc := 16) hC dX7_severTrunk_16 (sh_X6_network (rfl : shC 19 = 13)) 6 (by decide) wf_72 rfl (by decide +kernel) rfl rfl rfl hZ_2 ?_
  refine xv_aload_n (pc := 19) hC dX7_severTrunk_19 0 rfl rfl ?_
  refine xgX7 (v := .ref (a 19)) (pc := 20) hC dX7_severTrunk_20 (rfl : shC 0 = 1) 0 (by decide) wf_310 rfl ?_
  refine xv_iload_n (pc := 23) hC dX7_severTrunk_23 1 rfl rfl ?_
  obtain ⟨q_3, hq_3, hX⟩ := bnd_some hX
  refine xv_callVi0 (As := [.int x1]) (pc := 24) hC (kX6_userIndexOf hl hq_3) fV_X6_userIndexOf wf_1053 (rc_X6 (rfl : shC 19 = 13)) rfl ⟨Nat.le_of_ble_eq_true rfl, Nat.le_of_ble_eq_true rfl⟩ rfl (Nat.le_of_ble_eq_true rfl) dX7_severTrunk_24 ⟨Nat.le_of_ble_eq_true rfl, Nat.le_of_ble_eq_true rfl⟩ ?_
  obtain ⟨y_4, hy_4, hX⟩ := nm_some hX
  refine xv_nmi hy_4 ?_
  refine xv_istore_n (pc := 27) (lv' := [(2, .int y_4), (0, .ref (a 0)), (1, .int x1)]) hC dX7_severTrunk_27 rfl (by decide) rfl ?_
  refine xv_iload_n (pc := 28) hC dX7_severTrunk_28 0 rfl rfl ?_
  refine xv_iconst (v := (-1)) (pc := 29) hC dX7_severTrunk_29 (by decide) ?_
  refine xv_icmp_ne (tgt := 35) (pc := 30) hC dX7_severTrunk_30 (by decide) (fun c_5 => ?_) (fun c_5 => ?_)
  · replace hX := if_f c_5 hX
    refine xv_aload_n (pc := 35) hC dX7_severTrunk_35 1 rfl rfl ?_
    refine xgX7 (v := .ref (a 19)) (pc := 36) hC dX7_severTrunk_36 (rfl : shC 0 = 1) 0 (by decide) wf_310 rfl ?_
    refine xgX6 (v := .ref (a (19 + 9))) (pc := 39) hC dX7_severTrunk_39 (rfl : shC 19 = 13) 6 (by decide) wf_138 rfl ?_
    refine xv_iload_n (pc := 42) hC dX7_severTrunk_42 0 rfl rfl ?_
    obtain ⟨h_6, hX⟩ := gd_some hX
    refine xa_16 (pc := 43) hC dX7_severTrunk_43 (sh_X6_calls (rfl : shC 19 = 13)) h_6 ?_
    refine xv_astore_n (pc := 44) (lv' := [(3, .ref (a (elC (19 + 9) y_4))), (2, .int y_4), (0, .ref (a 0)), (1, .int x1)]) hC dX7_severTrunk_44 rfl (by decide) rfl ?_
    refine xv_aload_n (pc := 45) hC dX7_severTrunk_45 2 rfl rfl ?_
    refine xgX7 (v := .ref (a 19)) (pc := 46) hC dX7_severTrunk_46 (rfl : shC 0 = 1) 0 (by decide) wf_310 rfl ?_
    obtain ⟨q_7, hq_7, hX⟩ := bnd_some hX
    refine xv_callVi0 (As := []) (pc := 49) hC (kX6_freeTrunks hl hq_7) fV_X6_freeTrunks wf_380 (rc_X6 (rfl : shC 19 = 13)) rfl ⟨Nat.le_of_ble_eq_true rfl, Nat.le_of_ble_eq_true rfl⟩ rfl (Nat.le_of_ble_eq_true rfl) dX7_severTrunk_49 ⟨Nat.le_of_ble_eq_true rfl, Nat.le_of_ble_eq_true rfl⟩ ?_
    refine xv_aload_n (pc := 52) hC dX7_severTrunk_52 0 rfl rfl ?_
    obtain ⟨q_8, hq_8, hX⟩ := bnd_some hX
    refine xv_callVi0 (As := []) (pc := 53) hC (kX1_trunkBits hl hq_8) fV_X1_trunkBits wf_1058 (rc_X1 (sh_elC (sh_X6_calls (rfl : shC 19 = 13)) h_6)) rfl ⟨Nat.le_of_ble_eq_true rfl, Nat.le_of_ble_eq_true rfl⟩ rfl (Nat.le_of_ble_eq_true rfl) dX7_severTrunk_53 ⟨Nat.le_of_ble_eq_true rfl, Nat.le_of_ble_eq_true rfl⟩ ?_
    refine xv_ior (pc := 56) hC dX7_severTrunk_56 ?_
    refine xv_iload_n (pc := 57) hC dX7_severTrunk_57 3 rfl rfl ?_
    obtain ⟨q_9, hq_9, hX⟩ := bnd_some hX
    refine xv_callSi0 (As := [.int x1]) (pc := 58) hC (kX7_bit hl hq_9) fS_X7_bit wf_1052 rfl ⟨Nat.le_of_ble_eq_true rfl, Nat.le_of_ble_eq_true rfl⟩ rfl (Nat.le_of_ble_eq_true rfl) dX7_severTrunk_58 ⟨Nat.le_of_ble_eq_true rfl, Nat.le_of_ble_eq_true rfl⟩ ?_
    refine xv_iconst (v := (-1)) (pc := 61) hC dX7_severTrunk_61 (by decide) ?_
    refine xv_ixor (pc := 62) hC dX7_severTrunk_62 ?_
    refine xv_iand (pc := 63) hC dX7_severTrunk_63 ?_
    obtain ⟨y_10, hy_10, hX⟩ := nm_some hX
    refine xv_nmi hy_10 ?_
    refine xv_istore (pc := 64) (lv' := [(4, .int y_10), (3, .ref (a (elC (19 + 9) y_4))), (2, .int y_4), (0, .ref (a 0)), (1, .int x1)]) hC dX7_severTrunk_64 (by decide) rfl ?_
    refine xv_aload_n (pc := 66) hC dX7_severTrunk_66 3 rfl rfl ?_
    refine xgX7 (v := .ref (a 13)) (pc := 67) hC dX7_severTrunk_67 (rfl : shC 0 = 1) 6 (by decide) wf_316 rfl ?_
    refine xv_aload_n (pc := 70) hC dX7_severTrunk_70 3 rfl rfl ?_
    refine xgX7 (v := .ref (a 19)) (pc := 71) hC dX7_severTrunk_71 (rfl : shC 0 = 1) 0 (by decide) wf_310 rfl ?_
    refine xgX6 (v := .ref (a (19 + 1))) (pc := 74) hC dX7_severTrunk_74 (rfl : shC 19 = 13) 0 (by decide) wf_127 rfl ?_
    refine xv_iload (pc := 77) hC dX7_severTrunk_77 0 rfl ?_
    refine xv_aload_n (pc := 79) hC dX7_severTrunk_79 3 rfl rfl ?_
    refine xgX7 (v := .ref (a 19)) (pc := 80) hC dX7_severTrunk_80 (rfl : shC 0 = 1) 0 (by decide) wf_310 rfl ?_
    refine xv_aload_n (pc := 83) hC dX7_severTrunk_83 1 rfl rfl ?_
    refine xgX1 (v := .int (gI q_9.2 (elC (19 + 9) y_4) 0)) (pc := 84) hC dX7_severTrunk_84 (sh_elC (sh_X6_calls (rfl : shC 19 = 13)) h_6) 0 (by decide) wf_98 rfl ?_
    obtain ⟨q_11, hq_11, hX⟩ := bnd_some hX
    refine xv_callVi0 (As := [.int (gI q_9.2 (elC (19 + 9) y_4) 0)]) (pc := 87) hC (kX6_homeOf hl hq_11) fV_X6_homeOf wf_931 (rc_X6 (rfl : shC 19 = 13)) rfl ⟨Nat.le_of_ble_eq_true rfl, Nat.le_of_ble_eq_true rfl⟩ rfl (Nat.le_of_ble_eq_true rfl) dX7_severTrunk_87 ⟨Nat.le_of_ble_eq_true rfl, Nat.le_of_ble_eq_true rfl⟩ ?_
    refine xv_aload_n (pc := 90) hC dX7_severTrunk_90 3 rfl rfl ?_
    refine xgX7 (v := .ref (a 19)) (pc := 91) hC dX7_severTrunk_91 (rfl : shC 0 = 1) 0 (by decide) wf_310 rfl ?_
    refine xv_aload_n (pc := 94) hC dX7_severTrunk_94 1 rfl rfl ?_
    refine xgX1 (v := .int (gI q_11.2 (elC (19 + 9) y_4) 1)) (pc := 95) hC dX7_severTrunk_95 (sh_elC (sh_X6_calls (rfl : shC 19 = 13)) h_6) 1 (by decide) wf_101 rfl ?_
    obtain ⟨q_12, hq_12, hX⟩ := bnd_some hX
    refine xv_callVi0 (As := [.int (gI q_11.2 (elC (19 + 9) y_4) 1)]) (pc := 98) hC (kX6_homeOf hl hq_12) fV_X6_homeOf wf_931 (rc_X6 (rfl : shC 19 = 13)) rfl ⟨Nat.le_of_ble_eq_true rfl, Nat.le_of_ble_eq_true rfl⟩ rfl (Nat.le_of_ble_eq_true rfl) dX7_severTrunk_98 ⟨Nat.le_of_ble_eq_true rfl, Nat.le_of_ble_eq_true rfl⟩ ?_
    obtain ⟨q_13, hq_13, hX⟩ := bnd_some hX
    refine xv_callVi0 (As := [.ref (a (19 + 1)), .int y_10, .int q_11.1, .int q_12.1]) (pc := 101) hC (kX5_findRoute hl hq_13) fV_X5_findRoute wf_936 (rc_X5 (rfl : shC 13 = 10)) rfl ⟨Nat.le_of_ble_eq_true rfl, Nat.le_of_ble_eq_true rfl⟩ rfl (Nat.le_of_ble_eq_true rfl) dX7_severTrunk_101 ⟨Nat.le_of_ble_eq_true rfl, Nat.le_of_ble_eq_true rfl⟩ ?_
    refine xv_if_eq (tgt := 117) (pc := 104) hC dX7_severTrunk_104 (by decide) (fun c_14 => ?_) (fun c_14 => ?_)
    · replace hX := if_t c_14 hX
      refine xv_aload_n (pc := 117) hC dX7_severTrunk_117 3 rfl rfl ?_
      refine xgX7 (v := .ref (a 19)) (pc := 118) hC dX7_severTrunk_118 (rfl : shC 0 = 1) 0 (by decide) wf_310 rfl ?_
      refine xv_iload_n (pc := 121) hC dX7_severTrunk_121 2 rfl rfl ?_
      obtain ⟨q_15, hq_15, hX⟩ := bnd_some hX
      refine xv_callVi0 (As := [.int y_4]) (pc := 122) hC (kX6_endCall hl hq_15) fV_X6_endCall wf_1040 (rc_X6 (rfl : shC 19 = 13)) rfl ⟨Nat.le_of_ble_eq_true rfl, Nat.le_of_ble_eq_true rfl⟩ rfl (Nat.le_of_ble_eq_true rfl) dX7_severTrunk_122 ⟨Nat.le_of_ble_eq_true rfl, Nat.le_of_ble_eq_true rfl⟩ ?_
      refine xv_pop (pc := 125) hC dX7_severTrunk_125 rfl ?_
      refine xv_iconst (v := 1) (pc := 126) hC dX7_severTrunk_126 (by decide) ?_
      obtain ⟨h1, h2⟩ := some_pair hX
      exact xv_eqi (W := cwC dA a) h1 h2 (hR _ _ _ _ (Nat.le_of_ble_eq_true rfl) (Nat.le_of_ble_eq_true rfl) dX7_severTrunk_127)
    · replace hX := if_f c_14 hX
      refine xv_aload_n (pc := 107) hC dX7_severTrunk_107 1 rfl rfl ?_
      refine xv_aload_n (pc := 108) hC dX7_severTrunk_108 3 rfl rfl ?_
      refine xgX7 (v := .ref (a 13)) (pc := 109) hC dX7_severTrunk_109 (rfl : shC 0 = 1) 6 (by decide) wf_316 rfl ?_
      obtain ⟨q_16, hq_16, hX⟩ := bnd_some hX
      refine xv_callVv0 (As := [.ref (a 13)]) (pc := 112) hC (kX1_takeRoute hl hq_16) fV_X1_takeRoute wf_1059 (rc_X1 (sh_elC (sh_X6_calls (rfl : shC 19 = 13)) h_6)) rfl ⟨Nat.le_of_ble_eq_true rfl, Nat.le_of_ble_eq_true rfl⟩ rfl (Nat.le_of_ble_eq_true rfl) dX7_severTrunk_112 ⟨Nat.le_of_ble_eq_true rfl, Nat.le_of_ble_eq_true rfl⟩ ?_
      refine xv_iconst (v := 0) (pc := 115) hC dX7_severTrunk_115 (by decide) ?_
      obtain ⟨h1, h2⟩ := some_pair hX
      exact xv_eqi (W := cwC dA a) h1 h2 (hR _ _ _ _ (Nat.le_of_ble_eq_true rfl) (Nat.le_of_ble_eq_true rfl) dX7_severTrunk_116)
  · replace hX := if_t c_5 hX
    refine xv_iconst (v := 0) (pc := 33) hC dX7_severTrunk_33 (by decide) ?_
    obtain ⟨h1, h2⟩ := some_pair hX
    exact xv_eqi (W := cwC dA a) h1 h2 (hR _ _ _ _ (Nat.le_of_ble_eq_true rfl) (Nat.le_of_ble_eq_true rfl) dX7_severTrunk_34)
def sX7_perform (x1 : Int32) (x2 : Int32) (x3 : Int32) (x4 : Int32) (Z : ZZ) : Option (Int32 × ZZ) :=
  if x1 = 0 then (
    bnd (sX3_attachSwitch (19 + 1) Z) <| fun q_2 =>
    some (q_2.1, q_2.2)) else if x1 = 1 then (
    bnd (sX3_attachTrunk (19 + 1) x2 x3 x4 Z) <| fun q_4 =>
    some (q_4.1, q_4.2)) else if x1 = 2 then (
    bnd (sX6_attachSubscriber 19 x2 x3 Z) <| fun q_6 =>
    some (q_6.1, q_6.2)) else if x1 = 3 then (
    bnd (sX7_startCall x2 x3 Z) <| fun q_8 =>
    some (q_8.1, q_8.2)) else if x1 = 4 then (
    bnd (sX6_callIndexOf 19 x2 Z) <| fun q_10 =>
    bnd (sX6_endCall 19 q_10.1 q_10.2) <| fun q_11 =>
    some (q_11.1, q_11.2)) else if x1 = 5 then (
    bnd (sX7_severTrunk x2 Z) <| fun q_13 =>
    some (q_13.1, q_13.2)) else if x1 = 6 then (
    bnd (sX3_repairTrunk (19 + 1) x2 Z) <| fun q_15 =>
    some (q_15.1, q_15.2)) else if x1 = 7 then (
    bnd (sX6_addMinutes 19 x2 Z) <| fun q_17 =>
    some (q_17.1, q_17.2)) else (
    some (0, Z))
abbrev rmX7_perform : Room := { frames := 5, cells := 0, slots := 0, locals := 150 }
set_option maxHeartbeats 4000000 in
set_option maxRecDepth 100000 in
theorem kX7_perform {l : Launch} {D : va_G} {dA : Nat → ClassId} {sa : String → Nat → Nat} {a : Nat → Nat} (hl : l.stackTraces = false) {x1 : Int32} {x2 : Int32} {x3 : Int32} {x4 : Int32} {Z Z' : ZZ} {v : Int32} (hX : sX7_perform x1 x2 x3 x4 Z = some (v, Z')) : CTi l D dA sa yX7_perform (wz yX7_perform cX7_perform 5 (some .int)) rmX7_perform [.ref (a 0), .int x1, .int x2, .int x3, .int x4] (cwC dA a Z) v (cwC dA a Z') := by
  refine xm_i hl (by decide +kernel) (Nat.le_of_ble_eq_true rfl) rfl ?_
  intro p e s m args below meth c A Q hC hR
  unfold sX7_perform at hX
  show xv p l e rmX7_perform s m args below meth c D A 5 Q (cwC dA a Z) 0 0 0 [(0, .ref (a 0)), (1, .int x1), (2, .int x2), (3, .int x3), (4, .int x4)] []
  refine xv_iload_n (pc := 0) hC dX7_perform_0 1 rfl rfl ?_
  by_cases c_1 : x1 = 0
  · replace hX := if_t c_1 hX
    refine xv_tabIn (tgt := 48) (pc := 1) hC dX7_perform_1 0 c_1 (by decide) (by decide) rfl (by decide) ?_
    refine xv_aload_n (pc := 48) hC dX7_perform_48 0 rfl rfl ?_
    refine xgX7 (v := .ref (a 19)) (pc := 49) hC dX7_perform_49 (rfl : shC 0 = 1) 0 (by decide) wf_310 rfl ?_
    refine xgX6 (v := .ref (a (19 + 1))) (pc := 52) hC dX7_perform_52 (rfl : shC 19 = 13) 0 (by decide) wf_127 rfl ?_
    obtain ⟨q_2, hq_2, hX⟩ := bnd_some hX
    refine xv_callVi0 (As := []) (pc := 55) hC (kX3_attachSwitch hl hq_2) fV_X3_attachSwitch wf_1016 (rc_X3 (sh_X6_network (rfl : shC 19 = 13))) rfl ⟨Nat.le_of_ble_eq_true rfl, Nat.le_of_ble_eq_true rfl⟩ rfl (Nat.le_of_ble_eq_true rfl) dX7_perform_55 ⟨Nat.le_of_ble_eq_true rfl, Nat.le_of_ble_eq_true rfl⟩ ?_
    obtain ⟨h1, h2⟩ := some_pair hX
    exact xv_eqi (W := cwC dA a) h1 h2 (hR _ _ _ _ (Nat.le_of_ble_eq_true rfl) (Nat.le_of_ble_eq_true rfl) dX7_perform_58)
  replace hX := if_f c_1 hX
  by_cases c_3 : x1 = 1
  · replace hX := if_t c_3 hX
    refine xv_tabIn (tgt := 59) (pc := 1) hC dX7_perform_1 1 c_3 (by decide) (by decide) rfl (by decide) ?_
    refine xv_aload_n (pc := 59) hC dX7_perform_59 0 rfl rfl ?_
    refine xgX7 (v := .ref (a 19)) (pc := 60) hC dX7_perform_60 (rfl : shC 0 = 1) 0 (by decide) wf_310 rfl ?_
    refine xgX6 (v := .ref (a (19 + 1))) (pc := 63) hC dX7_perform_63 (rfl : shC 19 = 13) 0 (by decide) wf_127 rfl ?_
    refine xv_iload_n (pc := 66) hC dX7_perform_66 2 rfl rfl ?_
    refine xv_iload_n (pc := 67) hC dX7_perform_67 3 rfl rfl ?_
    refine xv_iload (pc := 68) hC dX7_perform_68 4 rfl ?_
    obtain ⟨q_4, hq_4, hX⟩ := bnd_some hX
    refine xv_callVi0 (As := [.int x2, .int x3, .int x4]) (pc := 70) hC (kX3_attachTrunk hl hq_4) fV_X3_attachTrunk wf_1020 (rc_X3 (sh_X6_network (rfl : shC 19 = 13))) rfl ⟨Nat.le_of_ble_eq_true rfl, Nat.le_of_ble_eq_true rfl⟩ rfl (Nat.le_of_ble_eq_true rfl) dX7_perform_70 ⟨Nat.le_of_ble_eq_true rfl, Nat.le_of_ble_eq_true rfl⟩ ?_
    obtain ⟨h1, h2⟩ := some_pair hX
    exact xv_eqi (W := cwC dA a) h1 h2 (hR _ _ _ _ (Nat.le_of_ble_eq_true rfl) (Nat.le_of_ble_eq_true rfl) dX7_perform_73)
  replace hX := if_f c_3 hX
  by_cases c_5 : x1 = 2
  · replace hX := if_t c_5 hX
    refine xv_tabIn (tgt := 74) (pc := 1) hC dX7_perform_1 2 c_5 (by decide) (by decide) rfl (by decide) ?_
    refine xv_aload_n (pc := 74) hC dX7_perform_74 0 rfl rfl ?_
    refine xgX7 (v := .ref (a 19)) (pc := 75) hC dX7_perform_75 (rfl : shC 0 = 1) 0 (by decide) wf_310 rfl ?_
    refine xv_iload_n (pc := 78) hC dX7_perform_78 2 rfl rfl ?_
    refine xv_iload_n (pc := 79) hC dX7_perform_79 3 rfl rfl ?_
    obtain ⟨q_6, hq_6, hX⟩ := bnd_some hX
    refine xv_callVi0 (As := [.int x2, .int x3]) (pc := 80) hC (kX6_attachSubscriber hl hq_6) fV_X6_attachSubscriber wf_1024 (rc_X6 (rfl : shC 19 = 13)) rfl ⟨Nat.le_of_ble_eq_true rfl, Nat.le_of_ble_eq_true rfl⟩ rfl (Nat.le_of_ble_eq_true rfl) dX7_perform_80 ⟨Nat.le_of_ble_eq_true rfl, Nat.le_of_ble_eq_true rfl⟩ ?_
    obtain ⟨h1, h2⟩ := some_pair hX
    exact xv_eqi (W := cwC dA a) h1 h2 (hR _ _ _ _ (Nat.le_of_ble_eq_true rfl) (Nat.le_of_ble_eq_true rfl) dX7_perform_83)
  replace hX := if_f c_5 hX
  by_cases c_7 : x1 = 3
  · replace hX := if_t c_7 hX
    refine xv_tabIn (tgt := 84) (pc := 1) hC dX7_perform_1 3 c_7 (by decide) (by decide) rfl (by decide) ?_
    refine xv_aload_n (pc := 84) hC dX7_perform_84 0 rfl rfl ?_
    refine xv_iload_n (pc := 85) hC dX7_perform_85 2 rfl rfl ?_
    refine xv_iload_n (pc := 86) hC dX7_perform_86 3 rfl rfl ?_
    obtain ⟨q_8, hq_8, hX⟩ := bnd_some hX
    refine xv_callVi0 (As := [.int x2, .int x3]) (pc := 87) hC (kX7_startCall hl hq_8) fV_X7_startCall wf_1028 (rc_X7 (rfl : shC 0 = 1)) rfl ⟨Nat.le_of_ble_eq_true rfl, Nat.le_of_ble_eq_true rfl⟩ rfl (Nat.le_of_ble_eq_true rfl) dX7_perform_87 ⟨Nat.le_of_ble_eq_true rfl, Nat.le_of_ble_eq_true rfl⟩ ?_
    obtain ⟨h1, h2⟩ := some_pair hX
    exact xv_eqi (W := cwC dA a) h1 h2 (hR _ _ _ _ (Nat.le_of_ble_eq_true rfl) (Nat.le_of_ble_eq_true rfl) dX7_perform_90)
  replace hX := if_f c_7 hX
  by_cases c_9 : x1 = 4
  · replace hX := if_t c_9 hX
    refine xv_tabIn (tgt := 91) (pc := 1) hC dX7_perform_1 4 c_9 (by decide) (by decide) rfl (by decide) ?_
    refine xv_aload_n (pc := 91) hC dX7_perform_91 0 rfl rfl ?_
    refine xgX7 (v := .ref (a 19)) (pc := 92) hC dX7_perform_92 (rfl : shC 0 = 1) 0 (by decide) wf_310 rfl ?_
    refine xv_aload_n (pc := 95) hC dX7_perform_95 0 rfl rfl ?_
    refine xgX7 (v := .ref (a 19)) (pc := 96) hC dX7_perform_96 (rfl : shC 0 = 1) 0 (by decide) wf_310 rfl ?_
    refine xv_iload_n (pc := 99) hC dX7_perform_99 2 rfl rfl ?_
    obtain ⟨q_10, hq_10, hX⟩ := bnd_some hX
    refine xv_callVi0 (As := [.int x2]) (pc := 100) hC (kX6_callIndexOf hl hq_10) fV_X6_callIndexOf wf_915 (rc_X6 (rfl : shC 19 = 13)) rfl ⟨Nat.le_of_ble_eq_true rfl, Nat.le_of_ble_eq_true rfl⟩ rfl (Nat.le_of_ble_eq_true rfl) dX7_perform_100 ⟨Nat.le_of_ble_eq_true rfl, Nat.le_of_ble_eq_true rfl⟩ ?_
    obtain ⟨q_11, hq_11, hX⟩ := bnd_some hX
    refine xv_callVi0 (As := [.int q_10.1]) (pc := 103) hC (kX6_endCall hl hq_11) fV_X6_endCall wf_1040 (rc_X6 (rfl : shC 19 = 13)) rfl ⟨Nat.le_of_ble_eq_true rfl, Nat.le_of_ble_eq_true rfl⟩ rfl (Nat.le_of_ble_eq_true rfl) dX7_perform_103 ⟨Nat.le_of_ble_eq_true rfl, Nat.le_of_ble_eq_true rfl⟩ ?_
    obtain ⟨h1, h2⟩ := some_pair hX
    exact xv_eqi (W := cwC dA a) h1 h2 (hR _ _ _ _ (Nat.le_of_ble_eq_true rfl) (Nat.le_of_ble_eq_true rfl) dX7_perform_106)
  replace hX := if_f c_9 hX
  by_cases c_12 : x1 = 5
  · replace hX := if_t c_12 hX
    refine xv_tabIn (tgt := 107) (pc := 1) hC dX7_perform_1 5 c_12 (by decide) (by decide) rfl (by decide) ?_
    refine xv_aload_n (pc := 107) hC dX7_perform_107 0 rfl rfl ?_
    refine xv_iload_n (pc := 108) hC dX7_perform_108 2 rfl rfl ?_
    obtain ⟨q_13, hq_13, hX⟩ := bnd_some hX
    refine xv_callVi0 (As := [.int x2]) (pc := 109) hC (kX7_severTrunk hl hq_13) fV_X7_severTrunk wf_1048 (rc_X7 (rfl : shC 0 = 1)) rfl ⟨Nat.le_of_ble_eq_true rfl, Nat.le_of_ble_eq_true rfl⟩ rfl (Nat.le_of_ble_eq_true rfl) dX7_perform_109 ⟨Nat.le_of_ble_eq_true rfl, Nat.le_of_ble_eq_true rfl⟩ ?_
    obtain ⟨h1, h2⟩ := some_pair hX
    exact xv_eqi (W := cwC dA a) h1 h2 (hR _ _ _ _ (Nat.le_of_ble_eq_true rfl) (Nat.le_of_ble_eq_true rfl) dX7_perform_112)
  replace hX := if_f c_12 hX
  by_cases c_14 : x1 = 6
  · replace hX := if_t c_14 hX
    refine xv_tabIn (tgt := 113) (pc := 1) hC dX7_perform_1 6 c_14 (by decide) (by decide) rfl (by decide) ?_
    refine xv_aload_n (pc := 113) hC dX7_perform_113 0 rfl rfl ?_
    refine xgX7 (v := .ref (a 19)) (pc := 114) hC dX7_perform_114 (rfl : shC 0 = 1) 0 (by decide) wf_310 rfl ?_
    refine xgX6 (v := .ref (a (19 + 1))) (pc := 117) hC dX7_perform_117 (rfl : shC 19 = 13) 0 (by decide) wf_127 rfl ?_
    refine xv_iload_n (pc := 120) hC dX7_perform_120 2 rfl rfl ?_
    obtain ⟨q_15, hq_15, hX⟩ := bnd_some hX
    refine xv_callVi0 (As := [.int x2]) (pc := 121) hC (kX3_repairTrunk hl hq_15) fV_X3_repairTrunk wf_1060 (rc_X3 (sh_X6_network (rfl : shC 19 = 13))) rfl ⟨Nat.le_of_ble_eq_true rfl, Nat.le_of_ble_eq_true rfl⟩ rfl (Nat.le_of_ble_eq_true rfl) dX7_perform_121 ⟨Nat.le_of_ble_eq_true rfl, Nat.le_of_ble_eq_true rfl⟩ ?_
    obtain ⟨h1, h2⟩ := some_pair hX
    exact xv_eqi (W := cwC dA a) h1 h2 (hR _ _ _ _ (Nat.le_of_ble_eq_true rfl) (Nat.le_of_ble_eq_true rfl) dX7_perform_124)
  replace hX := if_f c_14 hX
  by_cases c_16 : x1 = 7
  · replace hX := if_t c_16 hX
    refine xv_tabIn (tgt := 125) (pc := 1) hC dX7_perform_1 7 c_16 (by decide) (by decide) rfl (by decide) ?_
    refine xv_aload_n (pc := 125) hC dX7_perform_125 0 rfl rfl ?_
    refine xgX7 (v := .ref (a 19)) (pc := 126) hC dX7_perform_126 (rfl : shC 0 = 1) 0 (by decide) wf_310 rfl ?_
    refine xv_iload_n (pc := 129) hC dX7_perform_129 2 rfl rfl ?_
    obtain ⟨q_17, hq_17, hX⟩ := bnd_some hX
    refine xv_callVi0 (As := [.int x2]) (pc := 130) hC (kX6_addMinutes hl hq_17) fV_X6_addMinutes wf_1070 (rc_X6 (rfl : shC 19 = 13)) rfl ⟨Nat.le_of_ble_eq_true rfl, Nat.le_of_ble_eq_true rfl⟩ rfl (Nat.le_of_ble_eq_true rfl) dX7_perform_130 ⟨Nat.le_of_ble_eq_true rfl, Nat.le_of_ble_eq_true rfl⟩ ?_
    obtain ⟨h1, h2⟩ := some_pair hX
    exact xv_eqi (W := cwC dA a) h1 h2 (hR _ _ _ _ (Nat.le_of_ble_eq_true rfl) (Nat.le_of_ble_eq_true rfl) dX7_perform_133)
  replace hX := if_f c_16 hX
  refine xv_tabD (tgt := 134) (pc := 1) hC dX7_perform_1 rfl (fun i9 hi9 hne9 hx9 => ?_) (by decide) ?_
  · have hi9 : i9 < 8 := hi9
    rcases (by omega : i9 = 0 ∨ i9 = 1 ∨ i9 = 2 ∨ i9 = 3 ∨ i9 = 4 ∨ i9 = 5 ∨ i9 = 6 ∨ i9 = 7) with rfl | rfl | rfl | rfl | rfl | rfl | rfl | rfl <;> first | exact hne9 rfl | exact absurd hx9 (by assumption)
  · skip
    refine xv_iconst (v := 0) (pc := 134) hC dX7_perform_134 (by decide) ?_
    obtain ⟨h1, h2⟩ := some_pair hX
    exact xv_eqi (W := cwC dA a) h1 h2 (hR _ _ _ _ (Nat.le_of_ble_eq_true rfl) (Nat.le_of_ble_eq_true rfl) dX7_perform_135)
def sX7_change (x1 : Int32) (x2 : Int32) (x3 : Int32) (x4 : Int32) (Z : ZZ) : Option ((Nat ⊕ Int32) × ZZ) :=
  bnd (sX7_problemOf x1 x2 x3 x4 Z) <| fun q_1 =>
  bnd (sX7_refuse q_1.1 q_1.2) <| fun q_2 =>
  thr q_2 <| fun _ Zq_2 =>
    bnd (sX2_keep 19 Zq_2) <| fun q_3 =>
    bnd (sX7_perform x1 x2 x3 x4 q_3) <| fun q_4 =>
    some (.inr q_4.1, q_4.2)
abbrev rmX7_change : Room := { frames := 7, cells := 1, slots := 6, locals := 174 }
set_option maxHeartbeats 4000000 in
set_option maxRecDepth 100000 in
theorem kX7_change {l : Launch} {D : va_G} {dA : Nat → ClassId} {sa : String → Nat → Nat} {a : Nat → Nat} (hl : l.stackTraces = false) {x1 : Int32} {x2 : Int32} {x3 : Int32} {x4 : Int32} {Z Z' : ZZ} {o : Nat ⊕ Int32} (hX : sX7_change x1 x2 x3 x4 Z = some (o, Z')) : CXi l D dA sa yX7_change (wz yX7_change cX7_change 5 (some .int)) rmX7_change [.ref (a 0), .int x1, .int x2, .int x3, .int x4] (cwC dA a Z) o (cwC dA a Z') := by
  refine xm_xi hl (by decide +kernel) (Nat.le_of_ble_eq_true rfl) rfl ?_
  intro p e s m args below meth c A Q hC hR hT hTw hTq hTqw hO
  unfold sX7_change at hX
  show xv p l e rmX7_change s m args below meth c D A 5 Q (cwC dA a Z) 0 0 0 [(0, .ref (a 0)), (1, .int x1), (2, .int x2), (3, .int x3), (4, .int x4)] []
  refine xv_aload_n (pc := 0) hC dX7_change_0 0 rfl rfl ?_
  refine xv_iload_n (pc := 1) hC dX7_change_1 1 rfl rfl ?_
  refine xv_iload_n (pc := 2) hC dX7_change_2 2 rfl rfl ?_
  refine xv_iload_n (pc := 3) hC dX7_change_3 3 rfl rfl ?_
  refine xv_iload (pc := 4) hC dX7_change_4 4 rfl ?_
  obtain ⟨q_1, hq_1, hX⟩ := bnd_some hX
  refine xv_callVi0 (As := [.int x1, .int x2, .int x3, .int x4]) (pc := 6) hC (kX7_problemOf hl hq_1) fV_X7_problemOf wf_889 (rc_X7 (rfl : shC 0 = 1)) rfl ⟨Nat.le_of_ble_eq_true rfl, Nat.le_of_ble_eq_true rfl⟩ rfl (Nat.le_of_ble_eq_true rfl) dX7_change_6 ⟨Nat.le_of_ble_eq_true rfl, Nat.le_of_ble_eq_true rfl⟩ ?_
  obtain ⟨q_2, hq_2, hX⟩ := bnd_some hX
  refine xv_callSxv0 (As := [.int q_1.1]) (pc := 9) hC (kX7_refuse hl hq_2) fS_X7_refuse wf_955 rfl ⟨Nat.le_of_ble_eq_true rfl, Nat.le_of_ble_eq_true rfl⟩ rfl (Nat.le_of_ble_eq_true rfl) dX7_change_9 ⟨Nat.le_of_ble_eq_true rfl, Nat.le_of_ble_eq_true rfl⟩ (fun k9 hk9 => ?_) (fun hk9 => ?_)
  · have h9 := thr_l hk9 hX
    have h8 : o = .inl k9 ∧ Z' = q_2.2 := ⟨congrArg Prod.fst h9, congrArg Prod.snd h9⟩
    rw [← h8.2]
    exact hO _ _ _ _ _ _ h8.1 (Nat.le_of_ble_eq_true rfl) (Nat.le_of_ble_eq_true rfl)
  · replace hX := thr_r hk9 hX
    skip
    generalize q_2.2 = Zq_2 at hX ⊢
    refine xv_aload_n (pc := 12) hC dX7_change_12 0 rfl rfl ?_
    refine xgX7 (v := .ref (a 1)) (pc := 13) hC dX7_change_13 (rfl : shC 0 = 1) 3 (by decide) wf_313 rfl ?_
    refine xv_aload_n (pc := 16) hC dX7_change_16 0 rfl rfl ?_
    refine xgX7 (v := .ref (a 19)) (pc := 17) hC dX7_change_17 (rfl : shC 0 = 1) 0 (by decide) wf_310 rfl ?_
    obtain ⟨q_3, hq_3, hX⟩ := bnd_some hX
    refine xv_callVv0 (As := [.ref (a 19)]) (pc := 20) hC (kX2_keep hl hq_3) fV_X2_keep wf_1006 (rc_X2 (rfl : shC 1 = 2)) rfl ⟨Nat.le_of_ble_eq_true rfl, Nat.le_of_ble_eq_true rfl⟩ rfl (Nat.le_of_ble_eq_true rfl) dX7_change_20 ⟨Nat.le_of_ble_eq_true rfl, Nat.le_of_ble_eq_true rfl⟩ ?_
    refine xv_aload_n (pc := 23) hC dX7_change_23 0 rfl rfl ?_
    refine xv_iload_n (pc := 24) hC dX7_change_24 1 rfl rfl ?_
    refine xv_iload_n (pc := 25) hC dX7_change_25 2 rfl rfl ?_
    refine xv_iload_n (pc := 26) hC dX7_change_26 3 rfl rfl ?_
    refine xv_iload (pc := 27) hC dX7_change_27 4 rfl ?_
    obtain ⟨q_4, hq_4, hX⟩ := bnd_some hX
    refine xv_callVi0 (As := [.int x1, .int x2, .int x3, .int x4]) (pc := 29) hC (kX7_perform hl hq_4) fV_X7_perform wf_1012 (rc_X7 (rfl : shC 0 = 1)) rfl ⟨Nat.le_of_ble_eq_true rfl, Nat.le_of_ble_eq_true rfl⟩ rfl (Nat.le_of_ble_eq_true rfl) dX7_change_29 ⟨Nat.le_of_ble_eq_true rfl, Nat.le_of_ble_eq_true rfl⟩ ?_
    obtain ⟨h1, h2⟩ := some_pair hX
    exact xv_eqw (W := cwC dA a) h2 (hR _ _ _ _ _ h1.symm (Nat.le_of_ble_eq_true rfl) (Nat.le_of_ble_eq_true rfl) dX7_change_32)
def sX7_addSwitch (Z : ZZ) : Option ((Nat ⊕ Int32) × ZZ) :=
  bnd (sX7_change 0 0 0 0 Z) <| fun q_1 =>
  thr q_1 <| fun r9_q_1 Zq_1 =>
    some (.inr r9_q_1, Zq_1)
abbrev rmX7_addSwitch : Room := { frames := 8, cells := 1, slots := 6, locals := 198 }
set_option maxHeartbeats 4000000 in
set_option maxRecDepth 100000 in
theorem kX7_addSwitch {l : Launch} {D : va_G} {dA : Nat → ClassId} {sa : String → Nat → Nat} {a : Nat → Nat} (hl : l.stackTraces = false) {Z Z' : ZZ} {o : Nat ⊕ Int32} (hX : sX7_addSwitch Z = some (o, Z')) : CXi l D dA sa yX7_addSwitch (wz yX7_addSwitch cX7_addSwitch 1 (some .int)) rmX7_addSwitch [.ref (a 0)] (cwC dA a Z) o (cwC dA a Z') := by
  refine xm_xi hl (by decide +kernel) (Nat.le_of_ble_eq_true rfl) rfl ?_
  intro p e s m args below meth c A Q hC hR hT hTw hTq hTqw hO
  unfold sX7_addSwitch at hX
  show xv p l e rmX7_addSwitch s m args below meth c D A 1 Q (cwC dA a Z) 0 0 0 [(0, .ref (a 0))] []
  refine xv_aload_n (pc := 0) hC dX7_addSwitch_0 0 rfl rfl ?_
  refine xv_iconst (v := 0) (pc := 1) hC dX7_addSwitch_1 (by decide) ?_
  refine xv_iconst (v := 0) (pc := 2) hC dX7_addSwitch_2 (by decide) ?_
  refine xv_iconst (v := 0) (pc := 3) hC dX7_addSwitch_3 (by decide) ?_
  refine xv_iconst (v := 0) (pc := 4) hC dX7_addSwitch_4 (by decide) ?_
  obtain ⟨q_1, hq_1, hX⟩ := bnd_some hX
  refine xv_callVxi0 (As := [.int 0, .int 0, .int 0, .int 0]) (pc := 5) hC (kX7_change hl hq_1) fV_X7_change wf_885 (rc_X7 (rfl : shC 0 = 1)) rfl ⟨Nat.le_of_ble_eq_true rfl, Nat.le_of_ble_eq_true rfl⟩ rfl (Nat.le_of_ble_eq_true rfl) dX7_addSwitch_5 ⟨Nat.le_of_ble_eq_true rfl, Nat.le_of_ble_eq_true rfl⟩ (fun k9 hk9 => ?_) (fun r9 hk9 => ?_)
  · have h9 := thr_l hk9 hX
    have h8 : o = .inl k9 ∧ Z' = q_1.2 := ⟨congrArg Prod.fst h9, congrArg Prod.snd h9⟩
    rw [← h8.2]
    exact hO _ _ _ _ _ _ h8.1 (Nat.le_of_ble_eq_true rfl) (Nat.le_of_ble_eq_true rfl)
  · replace hX := thr_r hk9 hX
    revert hX hk9; revert r9; intro r9_q_1 hk9 hX
    generalize q_1.2 = Zq_1 at hX ⊢
    obtain ⟨h1, h2⟩ := some_pair hX
    exact xv_eqw (W := cwC dA a) h2 (hR _ _ _ _ _ h1.symm (Nat.le_of_ble_eq_true rfl) (Nat.le_of_ble_eq_true rfl) dX7_addSwitch_8)
def sX7_addTrunk (x1 : Int32) (x2 : Int32) (x3 : Int32) (Z : ZZ) : Option ((Nat ⊕ Int32) × ZZ) :=
  bnd (sX7_change 1 x1 x2 x3 Z) <| fun q_1 =>
  thr q_1 <| fun r9_q_1 Zq_1 =>
    some (.inr r9_q_1, Zq_1)
abbrev rmX7_addTrunk : Room := { frames := 8, cells := 1, slots := 6, locals := 198 }
set_option maxHeartbeats 4000000 in
set_option maxRecDepth 100000 in
theorem kX7_addTrunk {l : Launch} {D : va_G} {dA : Nat → ClassId} {sa : String → Nat → Nat} {a : Nat → Nat} (hl : l.stackTraces = false) {x1 : Int32} {x2 : Int32} {x3 : Int32} {Z Z' : ZZ} {o : Nat ⊕ Int32} (hX : sX7_addTrunk x1 x2 x3 Z = some (o, Z')) : CXi l D dA sa yX7_addTrunk (wz yX7_addTrunk cX7_addTrunk 4 (some .int)) rmX7_addTrunk [.ref (a 0), .int x1, .int x2, .int x3] (cwC dA a Z) o (cwC dA a Z') := by
  refine xm_xi hl (by decide +kernel) (Nat.le_of_ble_eq_true rfl) rfl ?_
  intro p e s m args below meth c A Q hC hR hT hTw hTq hTqw hO
  unfold sX7_addTrunk at hX
  show xv p l e rmX7_addTrunk s m args below meth c D A 4 Q (cwC dA a Z) 0 0 0 [(0, .ref (a 0)), (1, .int x1), (2, .int x2), (3, .int x3)] []
  refine xv_aload_n (pc := 0) hC dX7_addTrunk_0 0 rfl rfl ?_
  refine xv_iconst (v := 1) (pc := 1) hC dX7_addTrunk_1 (by decide) ?_
  refine xv_iload_n (pc := 2) hC dX7_addTrunk_2 1 rfl rfl ?_
  refine xv_iload_n (pc := 3) hC dX7_addTrunk_3 2 rfl rfl ?_
  refine xv_iload_n (pc := 4) hC dX7_addTrunk_4 3 rfl rfl ?_
  obtain ⟨q_1, hq_1, hX⟩ := bnd_some hX
  refine xv_callVxi0 (As := [.int 1, .int x1, .int x2, .int x3]) (pc := 5) hC (kX7_change hl hq_1) fV_X7_change wf_885 (rc_X7 (rfl : shC 0 = 1)) rfl ⟨Nat.le_of_ble_eq_true rfl, Nat.le_of_ble_eq_true rfl⟩ rfl (Nat.le_of_ble_eq_true rfl) dX7_addTrunk_5 ⟨Nat.le_of_ble_eq_true rfl, Nat.le_of_ble_eq_true rfl⟩ (fun k9 hk9 => ?_) (fun r9 hk9 => ?_)
  · have h9 := thr_l hk9 hX
    have h8 : o = .inl k9 ∧ Z' = q_1.2 := ⟨congrArg Prod.fst h9, congrArg Prod.snd h9⟩
    rw [← h8.2]
    exact hO _ _ _ _ _ _ h8.1 (Nat.le_of_ble_eq_true rfl) (Nat.le_of_ble_eq_true rfl)
  · replace hX := thr_r hk9 hX
    revert hX hk9; revert r9; intro r9_q_1 hk9 hX
    generalize q_1.2 = Zq_1 at hX ⊢
    obtain ⟨h1, h2⟩ := some_pair hX
    exact xv_eqw (W := cwC dA a) h2 (hR _ _ _ _ _ h1.symm (Nat.le_of_ble_eq_true rfl) (Nat.le_of_ble_eq_true rfl) dX7_addTrunk_8)
def sX7_addSubscriber (x1 : Int32) (x2 : Int32) (Z : ZZ) : Option ((Nat ⊕ Int32) × ZZ) :=
  bnd (sX7_change 2 x1 x2 0 Z) <| fun q_1 =>
  thr q_1 <| fun r9_q_1 Zq_1 =>
    some (.inr r9_q_1, Zq_1)
abbrev rmX7_addSubscriber : Room := { frames := 8, cells := 1, slots := 6, locals := 198 }
set_option maxHeartbeats 4000000 in
set_option maxRecDepth 100000 in
theorem kX7_addSubscriber {l : Launch} {D : va_G} {dA : Nat → ClassId} {sa : String → Nat → Nat} {a : Nat → Nat} (hl : l.stackTraces = false) {x1 : Int32} {x2 : Int32} {Z Z' : ZZ} {o : Nat ⊕ Int32} (hX : sX7_addSubscriber x1 x2 Z = some (o, Z')) : CXi l D dA sa yX7_addSubscriber (wz yX7_addSubscriber cX7_addSubscriber 3 (some .int)) rmX7_addSubscriber [.ref (a 0), .int x1, .int x2] (cwC dA a Z) o (cwC dA a Z') := by
  refine xm_xi hl (by decide +kernel) (Nat.le_of_ble_eq_true rfl) rfl ?_
  intro p e s m args below meth c A Q hC hR hT hTw hTq hTqw hO
  unfold sX7_addSubscriber at hX
  show xv p l e rmX7_addSubscriber s m args below meth c D A 3 Q (cwC dA a Z) 0 0 0 [(0, .ref (a 0)), (1, .int x1), (2, .int x2)] []
  refine xv_aload_n (pc := 0) hC dX7_addSubscriber_0 0 rfl rfl ?_
  refine xv_iconst (v := 2) (pc := 1) hC dX7_addSubscriber_1 (by decide) ?_
  refine xv_iload_n (pc := 2) hC dX7_addSubscriber_2 1 rfl rfl ?_
  refine xv_iload_n (pc := 3) hC dX7_addSubscriber_3 2 rfl rfl ?_
  refine xv_iconst (v := 0) (pc := 4) hC dX7_addSubscriber_4 (by decide) ?_
  obtain ⟨q_1, hq_1, hX⟩ := bnd_some hX
  refine xv_callVxi0 (As := [.int 2, .int x1, .int x2, .int 0]) (pc := 5) hC (kX7_change hl hq_1) fV_X7_change wf_885 (rc_X7 (rfl : shC 0 = 1)) rfl ⟨Nat.le_of_ble_eq_true rfl, Nat.le_of_ble_eq_true rfl⟩ rfl (Nat.le_of_ble_eq_true rfl) dX7_addSubscriber_5 ⟨Nat.le_of_ble_eq_true rfl, Nat.le_of_ble_eq_true rfl⟩ (fun k9 hk9 => ?_) (fun r9 hk9 => ?_)
  · have h9 := thr_l hk9 hX
    have h8 : o = .inl k9 ∧ Z' = q_1.2 := ⟨congrArg Prod.fst h9, congrArg Prod.snd h9⟩
    rw [← h8.2]
    exact hO _ _ _ _ _ _ h8.1 (Nat.le_of_ble_eq_true rfl) (Nat.le_of_ble_eq_true rfl)
  · replace hX := thr_r hk9 hX
    revert hX hk9; revert r9; intro r9_q_1 hk9 hX
    generalize q_1.2 = Zq_1 at hX ⊢
    obtain ⟨h1, h2⟩ := some_pair hX
    exact xv_eqw (W := cwC dA a) h2 (hR _ _ _ _ _ h1.symm (Nat.le_of_ble_eq_true rfl) (Nat.le_of_ble_eq_true rfl) dX7_addSubscriber_8)
def sX7_cut (x1 : Int32) (Z : ZZ) : Option ((Nat ⊕ Int32) × ZZ) :=
  bnd (sX7_change 5 x1 0 0 Z) <| fun q_1 =>
  thr q_1 <| fun r9_q_1 Zq_1 =>
    if r9_q_1 = 1 then (
      some (.inr 1, Zq_1)) else (
      some (.inr 0, Zq_1))
abbrev rmX7_cut : Room := { frames := 8, cells := 1, slots := 6, locals := 198 }
set_option maxHeartbeats 4000000 in
set_option maxRecDepth 100000 in
theorem kX7_cut {l : Launch} {D : va_G} {dA : Nat → ClassId} {sa : String → Nat → Nat} {a : Nat → Nat} (hl : l.stackTraces = false) {x1 : Int32} {Z Z' : ZZ} {o : Nat ⊕ Int32} (hX : sX7_cut x1 Z = some (o, Z')) : CXi l D dA sa yX7_cut (wz yX7_cut cX7_cut 2 (some .boolean)) rmX7_cut [.ref (a 0), .int x1] (cwC dA a Z) o (cwC dA a Z') := by
  refine xm_xz hl (by decide +kernel) (Nat.le_of_ble_eq_true rfl) rfl ?_
  intro p e s m args below meth c A Q hC hR hT hTw hTq hTqw hO
  unfold sX7_cut at hX
  show xv p l e rmX7_cut s m args below meth c D A 2 Q (cwC dA a Z) 0 0 0 [(0, .ref (a 0)), (1, .int x1)] []
  refine xv_aload_n (pc := 0) hC dX7_cut_0 0 rfl rfl ?_
  refine xv_iconst (v := 5) (pc := 1) hC dX7_cut_1 (by decide) ?_
  refine xv_iload_n (pc := 2) hC dX7_cut_2 1 rfl rfl ?_
  refine xv_iconst (v := 0) (pc := 3) hC dX7_cut_3 (by decide) ?_
  refine xv_iconst (v := 0) (pc := 4) hC dX7_cut_4 (by decide) ?_
  obtain ⟨q_1, hq_1, hX⟩ := bnd_some hX
  refine xv_callVxi0 (As := [.int 5, .int x1, .int 0, .int 0]) (pc := 5) hC (kX7_change hl hq_1) fV_X7_change wf_885 (rc_X7 (rfl : shC 0 = 1)) rfl ⟨Nat.le_of_ble_eq_true rfl, Nat.le_of_ble_eq_true rfl⟩ rfl (Nat.le_of_ble_eq_true rfl) dX7_cut_5 ⟨Nat.le_of_ble_eq_true rfl, Nat.le_of_ble_eq_true rfl⟩ (fun k9 hk9 => ?_) (fun r9 hk9 => ?_)
  · have h9 := thr_l hk9 hX
    have h8 : o = .inl k9 ∧ Z' = q_1.2 := ⟨congrArg Prod.fst h9, congrArg Prod.snd h9⟩
    rw [← h8.2]
    exact hO _ _ _ _ _ _ h8.1 (Nat.le_of_ble_eq_true rfl) (Nat.le_of_ble_eq_true rfl)
  · replace hX := thr_r hk9 hX
    revert hX hk9; revert r9; intro r9_q_1 hk9 hX
    generalize q_1.2 = Zq_1 at hX ⊢
    refine xv_iconst (v := 1) (pc := 8) hC dX7_cut_8 (by decide) ?_
    refine xv_icmp_ne (tgt := 16) (pc := 9) hC dX7_cut_9 (by decide) (fun c_2 => ?_) (fun c_2 => ?_)
    · replace hX := if_f c_2 hX
      refine xv_iconst (v := 0) (pc := 16) hC dX7_cut_16 (by decide) ?_
      obtain ⟨h1, h2⟩ := some_pair hX
      exact xv_eqw (W := cwC dA a) h2 (hR _ _ _ _ _ h1.symm (by decide) (Nat.le_of_ble_eq_true rfl) (Nat.le_of_ble_eq_true rfl) dX7_cut_17)
    · replace hX := if_t c_2 hX
      refine xv_iconst (v := 1) (pc := 12) hC dX7_cut_12 (by decide) ?_
      refine xv_goto (tgt := 17) (pc := 13) hC dX7_cut_13 (by decide) ?_
      obtain ⟨h1, h2⟩ := some_pair hX
      exact xv_eqw (W := cwC dA a) h2 (hR _ _ _ _ _ h1.symm (by decide) (Nat.le_of_ble_eq_true rfl) (Nat.le_of_ble_eq_true rfl) dX7_cut_17)
def sX7_mend (x1 : Int32) (Z : ZZ) : Option ((Nat ⊕ Int32) × ZZ) :=
  bnd (sX7_change 6 x1 0 0 Z) <| fun q_1 =>
  thr q_1 <| fun r9_q_1 Zq_1 =>
    some (.inr r9_q_1, Zq_1)
abbrev rmX7_mend : Room := { frames := 8, cells := 1, slots := 6, locals := 198 }
set_option maxHeartbeats 4000000 in
set_option maxRecDepth 100000 in
theorem kX7_mend {l : Launch} {D : va_G} {dA : Nat → ClassId} {sa : String → Nat → Nat} {a : Nat → Nat} (hl : l.stackTraces = false) {x1 : Int32} {Z Z' : ZZ} {o : Nat ⊕ Int32} (hX : sX7_mend x1 Z = some (o, Z')) : CXi l D dA sa yX7_mend (wz yX7_mend cX7_mend 2 (some .int)) rmX7_mend [.ref (a 0), .int x1] (cwC dA a Z) o (cwC dA a Z') := by
  refine xm_xi hl (by decide +kernel) (Nat.le_of_ble_eq_true rfl) rfl ?_
  intro p e s m args below meth c A Q hC hR hT hTw hTq hTqw hO
  unfold sX7_mend at hX
  show xv p l e rmX7_mend s m args below meth c D A 2 Q (cwC dA a Z) 0 0 0 [(0, .ref (a 0)), (1, .int x1)] []
  refine xv_aload_n (pc := 0) hC dX7_mend_0 0 rfl rfl ?_
  refine xv_bipush (v := 6) (pc := 1) hC dX7_mend_1 (by decide) ?_
  refine xv_iload_n (pc := 3) hC dX7_mend_3 1 rfl rfl ?_
  refine xv_iconst (v := 0) (pc := 4) hC dX7_mend_4 (by decide) ?_
  refine xv_iconst (v := 0) (pc := 5) hC dX7_mend_5 (by decide) ?_
  obtain ⟨q_1, hq_1, hX⟩ := bnd_some hX
  refine xv_callVxi0 (As := [.int 6, .int x1, .int 0, .int 0]) (pc := 6) hC (kX7_change hl hq_1) fV_X7_change wf_885 (rc_X7 (rfl : shC 0 = 1)) rfl ⟨Nat.le_of_ble_eq_true rfl, Nat.le_of_ble_eq_true rfl⟩ rfl (Nat.le_of_ble_eq_true rfl) dX7_mend_6 ⟨Nat.le_of_ble_eq_true rfl, Nat.le_of_ble_eq_true rfl⟩ (fun k9 hk9 => ?_) (fun r9 hk9 => ?_)
  · have h9 := thr_l hk9 hX
    have h8 : o = .inl k9 ∧ Z' = q_1.2 := ⟨congrArg Prod.fst h9, congrArg Prod.snd h9⟩
    rw [← h8.2]
    exact hO _ _ _ _ _ _ h8.1 (Nat.le_of_ble_eq_true rfl) (Nat.le_of_ble_eq_true rfl)
  · replace hX := thr_r hk9 hX
    revert hX hk9; revert r9; intro r9_q_1 hk9 hX
    generalize q_1.2 = Zq_1 at hX ⊢
    obtain ⟨h1, h2⟩ := some_pair hX
    exact xv_eqw (W := cwC dA a) h2 (hR _ _ _ _ _ h1.symm (Nat.le_of_ble_eq_true rfl) (Nat.le_of_ble_eq_true rfl) dX7_mend_9)
def sX7_call (x1 : Int32) (x2 : Int32) (Z : ZZ) : Option ((Nat ⊕ Int32) × ZZ) :=
  bnd (sX7_change 3 x1 x2 0 Z) <| fun q_1 =>
  thr q_1 <| fun r9_q_1 Zq_1 =>
    some (.inr r9_q_1, Zq_1)
abbrev rmX7_call : Room := { frames := 8, cells := 1, slots := 6, locals := 198 }
set_option maxHeartbeats 4000000 in
set_option maxRecDepth 100000 in
theorem kX7_call {l : Launch} {D : va_G} {dA : Nat → ClassId} {sa : String → Nat → Nat} {a : Nat → Nat} (hl : l.stackTraces = false) {x1 : Int32} {x2 : Int32} {Z Z' : ZZ} {o : Nat ⊕ Int32} (hX : sX7_call x1 x2 Z = some (o, Z')) : CXi l D dA sa yX7_call (wz yX7_call cX7_call 3 (some .int)) rmX7_call [.ref (a 0), .int x1, .int x2] (cwC dA a Z) o (cwC dA a Z') := by
  refine xm_xi hl (by decide +kernel) (Nat.le_of_ble_eq_true rfl) rfl ?_
  intro p e s m args below meth c A Q hC hR hT hTw hTq hTqw hO
  unfold sX7_call at hX
  show xv p l e rmX7_call s m args below meth c D A 3 Q (cwC dA a Z) 0 0 0 [(0, .ref (a 0)), (1, .int x1), (2, .int x2)] []
  refine xv_aload_n (pc := 0) hC dX7_call_0 0 rfl rfl ?_
  refine xv_iconst (v := 3) (pc := 1) hC dX7_call_1 (by decide) ?_
  refine xv_iload_n (pc := 2) hC dX7_call_2 1 rfl rfl ?_
  refine xv_iload_n (pc := 3) hC dX7_call_3 2 rfl rfl ?_
  refine xv_iconst (v := 0) (pc := 4) hC dX7_call_4 (by decide) ?_
  obtain ⟨q_1, hq_1, hX⟩ := bnd_some hX
  refine xv_callVxi0 (As := [.int 3, .int x1, .int x2, .int 0]) (pc := 5) hC (kX7_change hl hq_1) fV_X7_change wf_885 (rc_X7 (rfl : shC 0 = 1)) rfl ⟨Nat.le_of_ble_eq_true rfl, Nat.le_of_ble_eq_true rfl⟩ rfl (Nat.le_of_ble_eq_true rfl) dX7_call_5 ⟨Nat.le_of_ble_eq_true rfl, Nat.le_of_ble_eq_true rfl⟩ (fun k9 hk9 => ?_) (fun r9 hk9 => ?_)
  · have h9 := thr_l hk9 hX
    have h8 : o = .inl k9 ∧ Z' = q_1.2 := ⟨congrArg Prod.fst h9, congrArg Prod.snd h9⟩
    rw [← h8.2]
    exact hO _ _ _ _ _ _ h8.1 (Nat.le_of_ble_eq_true rfl) (Nat.le_of_ble_eq_true rfl)
  · replace hX := thr_r hk9 hX
    revert hX hk9; revert r9; intro r9_q_1 hk9 hX
    generalize q_1.2 = Zq_1 at hX ⊢
    obtain ⟨h1, h2⟩ := some_pair hX
    exact xv_eqw (W := cwC dA a) h2 (hR _ _ _ _ _ h1.symm (Nat.le_of_ble_eq_true rfl) (Nat.le_of_ble_eq_true rfl) dX7_call_8)
def sX7_hangUp (x1 : Int32) (Z : ZZ) : Option ((Nat ⊕ Int32) × ZZ) :=
  bnd (sX7_change 4 x1 0 0 Z) <| fun q_1 =>
  thr q_1 <| fun r9_q_1 Zq_1 =>
    some (.inr r9_q_1, Zq_1)
abbrev rmX7_hangUp : Room := { frames := 8, cells := 1, slots := 6, locals := 198 }
set_option maxHeartbeats 4000000 in
set_option maxRecDepth 100000 in
theorem kX7_hangUp {l : Launch} {D : va_G} {dA : Nat → ClassId} {sa : String → Nat → Nat} {a : Nat → Nat} (hl : l.stackTraces = false) {x1 : Int32} {Z Z' : ZZ} {o : Nat ⊕ Int32} (hX : sX7_hangUp x1 Z = some (o, Z')) : CXi l D dA sa yX7_hangUp (wz yX7_hangUp cX7_hangUp 2 (some .int)) rmX7_hangUp [.ref (a 0), .int x1] (cwC dA a Z) o (cwC dA a Z') := by
  refine xm_xi hl (by decide +kernel) (Nat.le_of_ble_eq_true rfl) rfl ?_
  intro p e s m args below meth c A Q hC hR hT hTw hTq hTqw hO
  unfold sX7_hangUp at hX
  show xv p l e rmX7_hangUp s m args below meth c D A 2 Q (cwC dA a Z) 0 0 0 [(0, .ref (a 0)), (1, .int x1)] []
  refine xv_aload_n (pc := 0) hC dX7_hangUp_0 0 rfl rfl ?_
  refine xv_iconst (v := 4) (pc := 1) hC dX7_hangUp_1 (by decide) ?_
  refine xv_iload_n (pc := 2) hC dX7_hangUp_2 1 rfl rfl ?_
  refine xv_iconst (v := 0) (pc := 3) hC dX7_hangUp_3 (by decide) ?_
  refine xv_iconst (v := 0) (pc := 4) hC dX7_hangUp_4 (by decide) ?_
  obtain ⟨q_1, hq_1, hX⟩ := bnd_some hX
  refine xv_callVxi0 (As := [.int 4, .int x1, .int 0, .int 0]) (pc := 5) hC (kX7_change hl hq_1) fV_X7_change wf_885 (rc_X7 (rfl : shC 0 = 1)) rfl ⟨Nat.le_of_ble_eq_true rfl, Nat.le_of_ble_eq_true rfl⟩ rfl (Nat.le_of_ble_eq_true rfl) dX7_hangUp_5 ⟨Nat.le_of_ble_eq_true rfl, Nat.le_of_ble_eq_true rfl⟩ (fun k9 hk9 => ?_) (fun r9 hk9 => ?_)
  · have h9 := thr_l hk9 hX
    have h8 : o = .inl k9 ∧ Z' = q_1.2 := ⟨congrArg Prod.fst h9, congrArg Prod.snd h9⟩
    rw [← h8.2]
    exact hO _ _ _ _ _ _ h8.1 (Nat.le_of_ble_eq_true rfl) (Nat.le_of_ble_eq_true rfl)
  · replace hX := thr_r hk9 hX
    revert hX hk9; revert r9; intro r9_q_1 hk9 hX
    generalize q_1.2 = Zq_1 at hX ⊢
    obtain ⟨h1, h2⟩ := some_pair hX
    exact xv_eqw (W := cwC dA a) h2 (hR _ _ _ _ _ h1.symm (Nat.le_of_ble_eq_true rfl) (Nat.le_of_ble_eq_true rfl) dX7_hangUp_8)
def sX7_pass (x1 : Int32) (Z : ZZ) : Option ((Nat ⊕ Int32) × ZZ) :=
  bnd (sX7_change 7 x1 0 0 Z) <| fun q_1 =>
  thr q_1 <| fun r9_q_1 Zq_1 =>
    some (.inr r9_q_1, Zq_1)
abbrev rmX7_pass : Room := { frames := 8, cells := 1, slots := 6, locals := 198 }
set_option maxHeartbeats 4000000 in
set_option maxRecDepth 100000 in
theorem kX7_pass {l : Launch} {D : va_G} {dA : Nat → ClassId} {sa : String → Nat → Nat} {a : Nat → Nat} (hl : l.stackTraces = false) {x1 : Int32} {Z Z' : ZZ} {o : Nat ⊕ Int32} (hX : sX7_pass x1 Z = some (o, Z')) : CXi l D dA sa yX7_pass (wz yX7_pass cX7_pass 2 (some .int)) rmX7_pass [.ref (a 0), .int x1] (cwC dA a Z) o (cwC dA a Z') := by
  refine xm_xi hl (by decide +kernel) (Nat.le_of_ble_eq_true rfl) rfl ?_
  intro p e s m args below meth c A Q hC hR hT hTw hTq hTqw hO
  unfold sX7_pass at hX
  show xv p l e rmX7_pass s m args below meth c D A 2 Q (cwC dA a Z) 0 0 0 [(0, .ref (a 0)), (1, .int x1)] []
  refine xv_aload_n (pc := 0) hC dX7_pass_0 0 rfl rfl ?_
  refine xv_bipush (v := 7) (pc := 1) hC dX7_pass_1 (by decide) ?_
  refine xv_iload_n (pc := 3) hC dX7_pass_3 1 rfl rfl ?_
  refine xv_iconst (v := 0) (pc := 4) hC dX7_pass_4 (by decide) ?_
  refine xv_iconst (v := 0) (pc := 5) hC dX7_pass_5 (by decide) ?_
  obtain ⟨q_1, hq_1, hX⟩ := bnd_some hX
  refine xv_callVxi0 (As := [.int 7, .int x1, .int 0, .int 0]) (pc := 6) hC (kX7_change hl hq_1) fV_X7_change wf_885 (rc_X7 (rfl : shC 0 = 1)) rfl ⟨Nat.le_of_ble_eq_true rfl, Nat.le_of_ble_eq_true rfl⟩ rfl (Nat.le_of_ble_eq_true rfl) dX7_pass_6 ⟨Nat.le_of_ble_eq_true rfl, Nat.le_of_ble_eq_true rfl⟩ (fun k9 hk9 => ?_) (fun r9 hk9 => ?_)
  · have h9 := thr_l hk9 hX
    have h8 : o = .inl k9 ∧ Z' = q_1.2 := ⟨congrArg Prod.fst h9, congrArg Prod.snd h9⟩
    rw [← h8.2]
    exact hO _ _ _ _ _ _ h8.1 (Nat.le_of_ble_eq_true rfl) (Nat.le_of_ble_eq_true rfl)
  · replace hX := thr_r hk9 hX
    revert hX hk9; revert r9; intro r9_q_1 hk9 hX
    generalize q_1.2 = Zq_1 at hX ⊢
    obtain ⟨h1, h2⟩ := some_pair hX
    exact xv_eqw (W := cwC dA a) h2 (hR _ _ _ _ _ h1.symm (Nat.le_of_ble_eq_true rfl) (Nat.le_of_ble_eq_true rfl) dX7_pass_9)
def sX7_switches (Z : ZZ) : Option (Int32 × ZZ) :=
  some (gI Z (19 + 1) 0, Z)
abbrev rmX7_switches : Room := { frames := 0, cells := 0, slots := 0, locals := 0 }
set_option maxHeartbeats 4000000 in
set_option maxRecDepth 100000 in
theorem kX7_switches {l : Launch} {D : va_G} {dA : Nat → ClassId} {sa : String → Nat → Nat} {a : Nat → Nat} (hl : l.stackTraces = false) {Z Z' : ZZ} {v : Int32} (hX : sX7_switches Z = some (v, Z')) : CTi l D dA sa yX7_switches (wz yX7_switches cX7_switches 1 (some .int)) rmX7_switches [.ref (a 0)] (cwC dA a Z) v (cwC dA a Z') := by
  refine xm_i hl (by decide +kernel) (Nat.le_of_ble_eq_true rfl) rfl ?_
  intro p e s m args below meth c A Q hC hR
  unfold sX7_switches at hX
  show xv p l e rmX7_switches s m args below meth c D A 1 Q (cwC dA a Z) 0 0 0 [(0, .ref (a 0))] []
  refine xv_aload_n (pc := 0) hC dX7_switches_0 0 rfl rfl ?_
  refine xgX7 (v := .ref (a 19)) (pc := 1) hC dX7_switches_1 (rfl : shC 0 = 1) 0 (by decide) wf_310 rfl ?_
  refine xgX6 (v := .ref (a (19 + 1))) (pc := 4) hC dX7_switches_4 (rfl : shC 19 = 13) 0 (by decide) wf_127 rfl ?_
  refine xgX3 (v := .int (gI Z (19 + 1) 0)) (pc := 7) hC dX7_switches_7 (sh_X6_network (rfl : shC 19 = 13)) 0 (by decide) wf_55 rfl ?_
  obtain ⟨h1, h2⟩ := some_pair hX
  exact xv_eqi (W := cwC dA a) h1 h2 (hR _ _ _ _ (Nat.le_of_ble_eq_true rfl) (Nat.le_of_ble_eq_true rfl) dX7_switches_10)
def sX7_trunks (Z : ZZ) : Option (Int32 × ZZ) :=
  some (gI Z (19 + 1) 1, Z)
abbrev rmX7_trunks : Room := { frames := 0, cells := 0, slots := 0, locals := 0 }
set_option maxHeartbeats 4000000 in
set_option maxRecDepth 100000 in
theorem kX7_trunks {l : Launch} {D : va_G} {dA : Nat → ClassId} {sa : String → Nat → Nat} {a : Nat → Nat} (hl : l.stackTraces = false) {Z Z' : ZZ} {v : Int32} (hX : sX7_trunks Z = some (v, Z')) : CTi l D dA sa yX7_trunks (wz yX7_trunks cX7_trunks 1 (some .int)) rmX7_trunks [.ref (a 0)] (cwC dA a Z) v (cwC dA a Z') := by
  refine xm_i hl (by decide +kernel) (Nat.le_of_ble_eq_true rfl) rfl ?_
  intro p e s m args below meth c A Q hC hR
  unfold sX7_trunks at hX
  show xv p l e rmX7_trunks s m args below meth c D A 1 Q (cwC dA a Z) 0 0 0 [(0, .ref (a 0))] []
  refine xv_aload_n (pc := 0) hC dX7_trunks_0 0 rfl rfl ?_
  refine xgX7 (v := .ref (a 19)) (pc := 1) hC dX7_trunks_1 (rfl : shC 0 = 1) 0 (by decide) wf_310 rfl ?_
  refine xgX6 (v := .ref (a (19 + 1))) (pc := 4) hC dX7_trunks_4 (rfl : shC 19 = 13) 0 (by decide) wf_127 rfl ?_
  refine xgX3 (v := .int (gI Z (19 + 1) 1)) (pc := 7) hC dX7_trunks_7 (sh_X6_network (rfl : shC 19 = 13)) 1 (by decide) wf_58 rfl ?_
  obtain ⟨h1, h2⟩ := some_pair hX
  exact xv_eqi (W := cwC dA a) h1 h2 (hR _ _ _ _ (Nat.le_of_ble_eq_true rfl) (Nat.le_of_ble_eq_true rfl) dX7_trunks_10)
def sX7_needTrunk (x1 : Int32) (Z : ZZ) : Option ((Nat ⊕ Unit) × ZZ) :=
  bnd (sX3_hasTrunk (19 + 1) x1 Z) <| fun q_1 =>
  if q_1.1 = 0 then (
    some (.inl 1, q_1.2)) else (
    some (.inr (), q_1.2))
abbrev rmX7_needTrunk : Room := { frames := 6, cells := 1, slots := 6, locals := 82 }
set_option maxHeartbeats 4000000 in
set_option maxRecDepth 100000 in
theorem kX7_needTrunk {l : Launch} {D : va_G} {dA : Nat → ClassId} {sa : String → Nat → Nat} {a : Nat → Nat} (hl : l.stackTraces = false) {x1 : Int32} {Z Z' : ZZ} {o : Nat ⊕ Unit} (hX : sX7_needTrunk x1 Z = some (o, Z')) : CXv l D dA sa yX7_needTrunk (wz yX7_needTrunk cX7_needTrunk 2 none) rmX7_needTrunk [.ref (a 0), .int x1] (cwC dA a Z) o (cwC dA a Z') := by
  refine xm_xv hl (by decide +kernel) (Nat.le_of_ble_eq_true rfl) rfl ?_
  intro p e s m args below meth c A Q hC hR hT hTw hTq hTqw hO
  unfold sX7_needTrunk at hX
  show xv p l e rmX7_needTrunk s m args below meth c D A 2 Q (cwC dA a Z) 0 0 0 [(0, .ref (a 0)), (1, .int x1)] []
  refine xv_aload_n (pc := 0) hC dX7_needTrunk_0 0 rfl rfl ?_
  refine xgX7 (v := .ref (a 19)) (pc := 1) hC dX7_needTrunk_1 (rfl : shC 0 = 1) 0 (by decide) wf_310 rfl ?_
  refine xgX6 (v := .ref (a (19 + 1))) (pc := 4) hC dX7_needTrunk_4 (rfl : shC 19 = 13) 0 (by decide) wf_127 rfl ?_
  refine xv_iload_n (pc := 7) hC dX7_needTrunk_7 1 rfl rfl ?_
  obtain ⟨q_1, hq_1, hX⟩ := bnd_some hX
  refine xv_callVi0 (As := [.int x1]) (pc := 8) hC (kX3_hasTrunk hl hq_1) fV_X3_hasTrunk wf_1143 (rc_X3 (sh_X6_network (rfl : shC 19 = 13))) rfl ⟨Nat.le_of_ble_eq_true rfl, Nat.le_of_ble_eq_true rfl⟩ rfl (Nat.le_of_ble_eq_true rfl) dX7_needTrunk_8 ⟨Nat.le_of_ble_eq_true rfl, Nat.le_of_ble_eq_true rfl⟩ ?_
  refine xv_if_ne (tgt := 24) (pc := 11) hC dX7_needTrunk_11 (by decide) (fun c_2 => ?_) (fun c_2 => ?_)
  · replace hX := if_f c_2 hX
    obtain ⟨h1, h2⟩ := some_pair hX
    exact xv_eqw (W := cwC dA a) h2 (hR _ _ _ _ h1.symm (Nat.le_of_ble_eq_true rfl) (Nat.le_of_ble_eq_true rfl) dX7_needTrunk_24)
  · replace hX := if_t c_2 hX
    obtain ⟨h1, h2⟩ := some_pair hX
    exact xv_eqw (W := cwC dA a) h2 (hT _ _ 14 1 _ _ _ _ _ _ h1.symm ⟨dX7_needTrunk_14, dX7_needTrunk_17, dX7_needTrunk_18, dX7_needTrunk_20, dX7_needTrunk_23⟩ tw_X7_90 (by decide +kernel : (_, 247, "there is no such trunk") ∈ xe_S) (Nat.le_of_ble_eq_true rfl) (Nat.le_of_ble_eq_true rfl) (Nat.le_of_ble_eq_true rfl) (Nat.le_of_ble_eq_true rfl))
def sX7_trunkLength (x1 : Int32) (Z : ZZ) : Option ((Nat ⊕ Int32) × ZZ) :=
  bnd (sX7_needTrunk x1 Z) <| fun q_1 =>
  thr q_1 <| fun _ Zq_1 =>
    gd (vin x1 16 = true) <|
    some (.inr (gI Zq_1 ((19 + 1) + 3) x1.toNatClampNeg), Zq_1)
abbrev rmX7_trunkLength : Room := { frames := 7, cells := 1, slots := 6, locals := 103 }
set_option maxHeartbeats 4000000 in
set_option maxRecDepth 100000 in
theorem kX7_trunkLength {l : Launch} {D : va_G} {dA : Nat → ClassId} {sa : String → Nat → Nat} {a : Nat → Nat} (hl : l.stackTraces = false) {x1 : Int32} {Z Z' : ZZ} {o : Nat ⊕ Int32} (hX : sX7_trunkLength x1 Z = some (o, Z')) : CXi l D dA sa yX7_trunkLength (wz yX7_trunkLength cX7_trunkLength 2 (some .int)) rmX7_trunkLength [.ref (a 0), .int x1] (cwC dA a Z) o (cwC dA a Z') := by
  refine xm_xi hl (by decide +kernel) (Nat.le_of_ble_eq_true rfl) rfl ?_
  intro p e s m args below meth c A Q hC hR hT hTw hTq hTqw hO
  unfold sX7_trunkLength at hX
  show xv p l e rmX7_trunkLength s m args below meth c D A 2 Q (cwC dA a Z) 0 0 0 [(0, .ref (a 0)), (1, .int x1)] []
  refine xv_aload_n (pc := 0) hC dX7_trunkLength_0 0 rfl rfl ?_
  refine xv_iload_n (pc := 1) hC dX7_trunkLength_1 1 rfl rfl ?_
  obtain ⟨q_1, hq_1, hX⟩ := bnd_some hX
  refine xv_callVxv0 (As := [.int x1]) (pc := 2) hC (kX7_needTrunk hl hq_1) fV_X7_needTrunk wf_1139 (rc_X7 (rfl : shC 0 = 1)) rfl ⟨Nat.le_of_ble_eq_true rfl, Nat.le_of_ble_eq_true rfl⟩ rfl (Nat.le_of_ble_eq_true rfl) dX7_trunkLength_2 ⟨Nat.le_of_ble_eq_true rfl, Nat.le_of_ble_eq_true rfl⟩ (fun k9 hk9 => ?_) (fun hk9 => ?_)
  · have h9 := thr_l hk9 hX
    have h8 : o = .inl k9 ∧ Z' = q_1.2 := ⟨congrArg Prod.fst h9, congrArg Prod.snd h9⟩
    rw [← h8.2]
    exact hO _ _ _ _ _ _ h8.1 (Nat.le_of_ble_eq_true rfl) (Nat.le_of_ble_eq_true rfl)
  · replace hX := thr_r hk9 hX
    skip
    generalize q_1.2 = Zq_1 at hX ⊢
    refine xv_aload_n (pc := 5) hC dX7_trunkLength_5 0 rfl rfl ?_
    refine xgX7 (v := .ref (a 19)) (pc := 6) hC dX7_trunkLength_6 (rfl : shC 0 = 1) 0 (by decide) wf_310 rfl ?_
    refine xgX6 (v := .ref (a (19 + 1))) (pc := 9) hC dX7_trunkLength_9 (rfl : shC 19 = 13) 0 (by decide) wf_127 rfl ?_
    refine xgX3 (v := .ref (a ((19 + 1) + 3))) (pc := 12) hC dX7_trunkLength_12 (sh_X6_network (rfl : shC 19 = 13)) 4 (by decide) wf_67 rfl ?_
    refine xv_iload_n (pc := 15) hC dX7_trunkLength_15 1 rfl rfl ?_
    obtain ⟨h_2, hX⟩ := gd_some hX
    refine xl_C12 (pc := 16) hC dX7_trunkLength_16 (sh_X3_lengths (sh_X6_network (rfl : shC 19 = 13))) h_2 ?_
    obtain ⟨h1, h2⟩ := some_pair hX
    exact xv_eqw (W := cwC dA a) h2 (hR _ _ _ _ _ h1.symm (Nat.le_of_ble_eq_true rfl) (Nat.le_of_ble_eq_true rfl) dX7_trunkLength_17)
def sX7_otherEnd (x1 : Int32) (x2 : Int32) (Z : ZZ) : Option ((Nat ⊕ Int32) × ZZ) :=
  bnd (sX7_needTrunk x1 Z) <| fun q_1 =>
  thr q_1 <| fun _ Zq_1 =>
    bnd (sX3_acrossFrom (19 + 1) x1 x2 Zq_1) <| fun q_2 =>
    nm (q_2.1) <| fun y_3 =>
    if y_3 = (-1) then (
      some (.inl 2, q_2.2)) else (
      some (.inr y_3, q_2.2))
abbrev rmX7_otherEnd : Room := { frames := 7, cells := 2, slots := 12, locals := 103 }
set_option maxHeartbeats 4000000 in
set_option maxRecDepth 100000 in
theorem kX7_otherEnd {l : Launch} {D : va_G} {dA : Nat → ClassId} {sa : String → Nat → Nat} {a : Nat → Nat} (hl : l.stackTraces = false) {x1 : Int32} {x2 : Int32} {Z Z' : ZZ} {o : Nat ⊕ Int32} (hX : sX7_otherEnd x1 x2 Z = some (o, Z')) : CXi l D dA sa yX7_otherEnd (wz yX7_otherEnd cX7_otherEnd 4 (some .int)) rmX7_otherEnd [.ref (a 0), .int x1, .int x2] (cwC dA a Z) o (cwC dA a Z') := by
  refine xm_xi hl (by decide +kernel) (Nat.le_of_ble_eq_true rfl) rfl ?_
  intro p e s m args below meth c A Q hC hR hT hTw hTq hTqw hO
  unfold sX7_otherEnd at hX
  show xv p l e rmX7_otherEnd s m args below meth c D A 4 Q (cwC dA a Z) 0 0 0 [(0, .ref (a 0)), (1, .int x1), (2, .int x2)] []
  refine xv_aload_n (pc := 0) hC dX7_otherEnd_0 0 rfl rfl ?_
  refine xv_iload_n (pc := 1) hC dX7_otherEnd_1 1 rfl rfl ?_
  obtain ⟨q_1, hq_1, hX⟩ := bnd_some hX
  refine xv_callVxv0 (As := [.int x1]) (pc := 2) hC (kX7_needTrunk hl hq_1) fV_X7_needTrunk wf_1139 (rc_X7 (rfl : shC 0 = 1)) rfl ⟨Nat.le_of_ble_eq_true rfl, Nat.le_of_ble_eq_true rfl⟩ rfl (Nat.le_of_ble_eq_true rfl) dX7_otherEnd_2 ⟨Nat.le_of_ble_eq_true rfl, Nat.le_of_ble_eq_true rfl⟩ (fun k9 hk9 => ?_) (fun hk9 => ?_)
  · have h9 := thr_l hk9 hX
    have h8 : o = .inl k9 ∧ Z' = q_1.2 := ⟨congrArg Prod.fst h9, congrArg Prod.snd h9⟩
    rw [← h8.2]
    exact hO _ _ _ _ _ _ h8.1 (Nat.le_of_ble_eq_true rfl) (Nat.le_of_ble_eq_true rfl)
  · replace hX := thr_r hk9 hX
    skip
    generalize q_1.2 = Zq_1 at hX ⊢
    refine xv_aload_n (pc := 5) hC dX7_otherEnd_5 0 rfl rfl ?_
    refine xgX7 (v := .ref (a 19)) (pc := 6) hC dX7_otherEnd_6 (rfl : shC 0 = 1) 0 (by decide) wf_310 rfl ?_
    refine xgX6 (v := .ref (a (19 + 1))) (pc := 9) hC dX7_otherEnd_9 (rfl : shC 19 = 13) 0 (by decide) wf_127 rfl ?_
    refine xv_iload_n (pc := 12) hC dX7_otherEnd_12 1 rfl rfl ?_
    refine xv_iload_n (pc := 13) hC dX7_otherEnd_13 2 rfl rfl ?_
    obtain ⟨q_2, hq_2, hX⟩ := bnd_some hX
    refine xv_callVi0 (As := [.int x1, .int x2]) (pc := 14) hC (kX3_acrossFrom hl hq_2) fV_X3_acrossFrom wf_1152 (rc_X3 (sh_X6_network (rfl : shC 19 = 13))) rfl ⟨Nat.le_of_ble_eq_true rfl, Nat.le_of_ble_eq_true rfl⟩ rfl (Nat.le_of_ble_eq_true rfl) dX7_otherEnd_14 ⟨Nat.le_of_ble_eq_true rfl, Nat.le_of_ble_eq_true rfl⟩ ?_
    obtain ⟨y_3, hy_3, hX⟩ := nm_some hX
    refine xv_nmi hy_3 ?_
    refine xv_istore_n (pc := 17) (lv' := [(3, .int y_3), (0, .ref (a 0)), (1, .int x1), (2, .int x2)]) hC dX7_otherEnd_17 rfl (by decide) rfl ?_
    refine xv_iload_n (pc := 18) hC dX7_otherEnd_18 0 rfl rfl ?_
    refine xv_iconst (v := (-1)) (pc := 19) hC dX7_otherEnd_19 (by decide) ?_
    refine xv_icmp_ne (tgt := 33) (pc := 20) hC dX7_otherEnd_20 (by decide) (fun c_4 => ?_) (fun c_4 => ?_)
    · replace hX := if_f c_4 hX
      refine xv_iload_n (pc := 33) hC dX7_otherEnd_33 0 rfl rfl ?_
      obtain ⟨h1, h2⟩ := some_pair hX
      exact xv_eqw (W := cwC dA a) h2 (hR _ _ _ _ _ h1.symm (Nat.le_of_ble_eq_true rfl) (Nat.le_of_ble_eq_true rfl) dX7_otherEnd_34)
    · replace hX := if_t c_4 hX
      obtain ⟨h1, h2⟩ := some_pair hX
      exact xv_eqw (W := cwC dA a) h2 (hT _ _ 23 2 _ _ _ _ _ _ h1.symm ⟨dX7_otherEnd_23, dX7_otherEnd_26, dX7_otherEnd_27, dX7_otherEnd_29, dX7_otherEnd_32⟩ tw_X7_97 (by decide +kernel : (_, 230, "the trunk does not end at this switch") ∈ xe_S) (Nat.le_of_ble_eq_true rfl) (Nat.le_of_ble_eq_true rfl) (Nat.le_of_ble_eq_true rfl) (Nat.le_of_ble_eq_true rfl))
def sX7_isCut (x1 : Int32) (Z : ZZ) : Option ((Nat ⊕ Int32) × ZZ) :=
  bnd (sX7_needTrunk x1 Z) <| fun q_1 =>
  thr q_1 <| fun _ Zq_1 =>
    bnd (sX7_hasBit (gI Zq_1 (19 + 1) 6) x1 Zq_1) <| fun q_2 =>
    gd (bq q_2.1 = true) <|
    some (.inr q_2.1, q_2.2)
abbrev rmX7_isCut : Room := { frames := 7, cells := 1, slots := 6, locals := 103 }
set_option maxHeartbeats 4000000 in
set_option maxRecDepth 100000 in
theorem kX7_isCut {l : Launch} {D : va_G} {dA : Nat → ClassId} {sa : String → Nat → Nat} {a : Nat → Nat} (hl : l.stackTraces = false) {x1 : Int32} {Z Z' : ZZ} {o : Nat ⊕ Int32} (hX : sX7_isCut x1 Z = some (o, Z')) : CXi l D dA sa yX7_isCut (wz yX7_isCut cX7_isCut 2 (some .boolean)) rmX7_isCut [.ref (a 0), .int x1] (cwC dA a Z) o (cwC dA a Z') := by
  refine xm_xz hl (by decide +kernel) (Nat.le_of_ble_eq_true rfl) rfl ?_
  intro p e s m args below meth c A Q hC hR hT hTw hTq hTqw hO
  unfold sX7_isCut at hX
  show xv p l e rmX7_isCut s m args below meth c D A 2 Q (cwC dA a Z) 0 0 0 [(0, .ref (a 0)), (1, .int x1)] []
  refine xv_aload_n (pc := 0) hC dX7_isCut_0 0 rfl rfl ?_
  refine xv_iload_n (pc := 1) hC dX7_isCut_1 1 rfl rfl ?_
  obtain ⟨q_1, hq_1, hX⟩ := bnd_some hX
  refine xv_callVxv0 (As := [.int x1]) (pc := 2) hC (kX7_needTrunk hl hq_1) fV_X7_needTrunk wf_1139 (rc_X7 (rfl : shC 0 = 1)) rfl ⟨Nat.le_of_ble_eq_true rfl, Nat.le_of_ble_eq_true rfl⟩ rfl (Nat.le_of_ble_eq_true rfl) dX7_isCut_2 ⟨Nat.le_of_ble_eq_true rfl, Nat.le_of_ble_eq_true rfl⟩ (fun k9 hk9 => ?_) (fun hk9 => ?_)
  · have h9 := thr_l hk9 hX
    have h8 : o = .inl k9 ∧ Z' = q_1.2 := ⟨congrArg Prod.fst h9, congrArg Prod.snd h9⟩
    rw [← h8.2]
    exact hO _ _ _ _ _ _ h8.1 (Nat.le_of_ble_eq_true rfl) (Nat.le_of_ble_eq_true rfl)
  · replace hX := thr_r hk9 hX
    skip
    generalize q_1.2 = Zq_1 at hX ⊢
    refine xv_aload_n (pc := 5) hC dX7_isCut_5 0 rfl rfl ?_
    refine xgX7 (v := .ref (a 19)) (pc := 6) hC dX7_isCut_6 (rfl : shC 0 = 1) 0 (by decide) wf_310 rfl ?_
    refine xgX6 (v := .ref (a (19 + 1))) (pc := 9) hC dX7_isCut_9 (rfl : shC 19 = 13) 0 (by decide) wf_127 rfl ?_
    refine xgX3 (v := .int (gI Zq_1 (19 + 1) 6)) (pc := 12) hC dX7_isCut_12 (sh_X6_network (rfl : shC 19 = 13)) 6 (by decide) wf_72 rfl ?_
    refine xv_iload_n (pc := 15) hC dX7_isCut_15 1 rfl rfl ?_
    obtain ⟨q_2, hq_2, hX⟩ := bnd_some hX
    refine xv_callSi0 (As := [.int (gI Zq_1 (19 + 1) 6), .int x1]) (pc := 16) hC (kX7_hasBit hl hq_2) fS_X7_hasBit wf_1161 rfl ⟨Nat.le_of_ble_eq_true rfl, Nat.le_of_ble_eq_true rfl⟩ rfl (Nat.le_of_ble_eq_true rfl) dX7_isCut_16 ⟨Nat.le_of_ble_eq_true rfl, Nat.le_of_ble_eq_true rfl⟩ ?_
    obtain ⟨h_3, hX⟩ := gd_some hX
    obtain ⟨h1, h2⟩ := some_pair hX
    exact xv_eqw (W := cwC dA a) h2 (hR _ _ _ _ _ h1.symm (bq_n h_3) (Nat.le_of_ble_eq_true rfl) (Nat.le_of_ble_eq_true rfl) dX7_isCut_19)
def sX7_userOf (x1 : Int32) (Z : ZZ) : Option ((Nat ⊕ Int32) × ZZ) :=
  bnd (sX7_needTrunk x1 Z) <| fun q_1 =>
  thr q_1 <| fun _ Zq_1 =>
    bnd (sX6_userIndexOf 19 x1 Zq_1) <| fun q_2 =>
    nm (q_2.1) <| fun y_3 =>
    if y_3 = (-1) then (
      some (.inl 5, q_2.2)) else (
      gd (vin y_3 5 = true) <|
      some (.inr (gI q_2.2 (elC (19 + 9) y_3) 0), q_2.2))
abbrev rmX7_userOf : Room := { frames := 7, cells := 2, slots := 12, locals := 103 }
set_option maxHeartbeats 4000000 in
set_option maxRecDepth 100000 in
theorem kX7_userOf {l : Launch} {D : va_G} {dA : Nat → ClassId} {sa : String → Nat → Nat} {a : Nat → Nat} (hl : l.stackTraces = false) {x1 : Int32} {Z Z' : ZZ} {o : Nat ⊕ Int32} (hX : sX7_userOf x1 Z = some (o, Z')) : CXi l D dA sa yX7_userOf (wz yX7_userOf cX7_userOf 3 (some .int)) rmX7_userOf [.ref (a 0), .int x1] (cwC dA a Z) o (cwC dA a Z') := by
  refine xm_xi hl (by decide +kernel) (Nat.le_of_ble_eq_true rfl) rfl ?_
  intro p e s m args below meth c A Q hC hR hT hTw hTq hTqw hO
  unfold sX7_userOf at hX
  show xv p l e rmX7_userOf s m args below meth c D A 3 Q (cwC dA a Z) 0 0 0 [(0, .ref (a 0)), (1, .int x1)] []
  refine xv_aload_n (pc := 0) hC dX7_userOf_0 0 rfl rfl ?_
  refine xv_iload_n (pc := 1) hC dX7_userOf_1 1 rfl rfl ?_
  obtain ⟨q_1, hq_1, hX⟩ := bnd_some hX
  refine xv_callVxv0 (As := [.int x1]) (pc := 2) hC (kX7_needTrunk hl hq_1) fV_X7_needTrunk wf_1139 (rc_X7 (rfl : shC 0 = 1)) rfl ⟨Nat.le_of_ble_eq_true rfl, Nat.le_of_ble_eq_true rfl⟩ rfl (Nat.le_of_ble_eq_true rfl) dX7_userOf_2 ⟨Nat.le_of_ble_eq_true rfl, Nat.le_of_ble_eq_true rfl⟩ (fun k9 hk9 => ?_) (fun hk9 => ?_)
  · have h9 := thr_l hk9 hX
    have h8 : o = .inl k9 ∧ Z' = q_1.2 := ⟨congrArg Prod.fst h9, congrArg Prod.snd h9⟩
    rw [← h8.2]
    exact hO _ _ _ _ _ _ h8.1 (Nat.le_of_ble_eq_true rfl) (Nat.le_of_ble_eq_true rfl)
  · replace hX := thr_r hk9 hX
    skip
    generalize q_1.2 = Zq_1 at hX ⊢
    refine xv_aload_n (pc := 5) hC dX7_userOf_5 0 rfl rfl ?_
    refine xgX7 (v := .ref (a 19)) (pc := 6) hC dX7_userOf_6 (rfl : shC 0 = 1) 0 (by decide) wf_310 rfl ?_
    refine xv_iload_n (pc := 9) hC dX7_userOf_9 1 rfl rfl ?_
    obtain ⟨q_2, hq_2, hX⟩ := bnd_some hX
    refine xv_callVi0 (As := [.int x1]) (pc := 10) hC (kX6_userIndexOf hl hq_2) fV_X6_userIndexOf wf_1053 (rc_X6 (rfl : shC 19 = 13)) rfl ⟨Nat.le_of_ble_eq_true rfl, Nat.le_of_ble_eq_true rfl⟩ rfl (Nat.le_of_ble_eq_true rfl) dX7_userOf_10 ⟨Nat.le_of_ble_eq_true rfl, Nat.le_of_ble_eq_true rfl⟩ ?_
    obtain ⟨y_3, hy_3, hX⟩ := nm_some hX
    refine xv_nmi hy_3 ?_
    refine xv_istore_n (pc := 13) (lv' := [(2, .int y_3), (0, .ref (a 0)), (1, .int x1)]) hC dX7_userOf_13 rfl (by decide) rfl ?_
    refine xv_iload_n (pc := 14) hC dX7_userOf_14 0 rfl rfl ?_
    refine xv_iconst (v := (-1)) (pc := 15) hC dX7_userOf_15 (by decide) ?_
    refine xv_icmp_ne (tgt := 29) (pc := 16) hC dX7_userOf_16 (by decide) (fun c_4 => ?_) (fun c_4 => ?_)
    · replace hX := if_f c_4 hX
      refine xv_aload_n (pc := 29) hC dX7_userOf_29 1 rfl rfl ?_
      refine xgX7 (v := .ref (a 19)) (pc := 30) hC dX7_userOf_30 (rfl : shC 0 = 1) 0 (by decide) wf_310 rfl ?_
      refine xgX6 (v := .ref (a (19 + 9))) (pc := 33) hC dX7_userOf_33 (rfl : shC 19 = 13) 6 (by decide) wf_138 rfl ?_
      refine xv_iload_n (pc := 36) hC dX7_userOf_36 0 rfl rfl ?_
      obtain ⟨h_5, hX⟩ := gd_some hX
      refine xa_16 (pc := 37) hC dX7_userOf_37 (sh_X6_calls (rfl : shC 19 = 13)) h_5 ?_
      refine xgX1 (v := .int (gI q_2.2 (elC (19 + 9) y_3) 0)) (pc := 38) hC dX7_userOf_38 (sh_elC (sh_X6_calls (rfl : shC 19 = 13)) h_5) 0 (by decide) wf_98 rfl ?_
      obtain ⟨h1, h2⟩ := some_pair hX
      exact xv_eqw (W := cwC dA a) h2 (hR _ _ _ _ _ h1.symm (Nat.le_of_ble_eq_true rfl) (Nat.le_of_ble_eq_true rfl) dX7_userOf_41)
    · replace hX := if_t c_4 hX
      obtain ⟨h1, h2⟩ := some_pair hX
      exact xv_eqw (W := cwC dA a) h2 (hTq _ _ 19 5 _ _ _ _ _ _ _ _ h1.symm ⟨dX7_userOf_19, dX7_userOf_22, dX7_userOf_23, dX7_userOf_25, dX7_userOf_28⟩ tw_X7_240 (by decide +kernel : (_, 238, "no call uses the trunk") ∈ xe_S) (Nat.le_of_ble_eq_true rfl) (Nat.le_of_ble_eq_true rfl) (Nat.le_of_ble_eq_true rfl) (Nat.le_of_ble_eq_true rfl))
