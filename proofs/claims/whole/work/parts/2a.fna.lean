def sX0_dropOldest_L8 : Nat → Int32 → ZZ → Option (ZZ)
  | 0, _, _ => none
  | n + 1, y1, Z =>
  if (gI Z 3 0) ≤ y1 then (
    some Z) else (
    gd (vin (y1 + 1) 8 = true) <|
    gd (vin y1 8 = true) <|
    nm (pI Z 4 y1.toNatClampNeg (gI Z 4 (y1 + 1).toNatClampNeg)) <| fun Z_4 =>
    gd (vin (y1 + 1) 8 = true) <|
    gd (vin y1 8 = true) <|
    nm (pI Z_4 5 y1.toNatClampNeg (gI Z_4 5 (y1 + 1).toNatClampNeg)) <| fun Z_7 =>
    gd (vin (y1 + 1) 8 = true) <|
    gd (vin y1 8 = true) <|
    nm (pI Z_7 6 y1.toNatClampNeg (vp_nar .char (gI Z_7 6 (y1 + 1).toNatClampNeg))) <| fun Z_10 =>
    nm (y1 + 1) <| fun y_11 =>
    sX0_dropOldest_L8 n y_11 Z_10)
def sX0_dropOldest (Z : ZZ) : Option (ZZ) :=
  nm (pI Z 3 0 7) <| fun Z_12 =>
  sX0_dropOldest_L8 3000 0 Z_12
abbrev rmX0_dropOldest : Room := { frames := 0, cells := 0, slots := 0, locals := 0 }
set_option maxHeartbeats 4000000 in
set_option maxRecDepth 100000 in
theorem kX0_dropOldest {l : Launch} {D : va_G} {dA : Nat → ClassId} {sa : String → Nat → Nat} {a : Nat → Nat} (hl : l.stackTraces = false) {Z Z' : ZZ} (hX : sX0_dropOldest Z = some Z') : CTv l D dA sa yX0_dropOldest (wz yX0_dropOldest cX0_dropOldest 2 none) rmX0_dropOldest [.ref (a 3)] (cwC dA a Z) (cwC dA a Z') := by
  refine xm_v hl (by decide +kernel) (Nat.le_of_ble_eq_true rfl) rfl ?_
  intro p e s m args below meth c A Q hC hR
  unfold sX0_dropOldest at hX
  have v8 : ∀ (n : Nat) (y1 : Int32) (Z : ZZ), sX0_dropOldest_L8 n y1 Z = some Z' → xv p l e rmX0_dropOldest s m args below meth c D A 2 Q (cwC dA a Z) 0 0 8 [(0, .ref (a 3)), (1, .int y1)] [] := by
    intro n
    induction n with
    | zero =>
      intro y1 Z hX
      exact absurd hX (by simp [sX0_dropOldest_L8])
    | succ n ih =>
      intro y1 Z hX
      rw [sX0_dropOldest_L8] at hX
      refine xv_iload_n (pc := 8) hC dX0_dropOldest_8 1 rfl rfl ?_
      refine xv_aload_n (pc := 9) hC dX0_dropOldest_9 0 rfl rfl ?_
      refine xgX0 (v := .int (gI Z 3 0)) (pc := 10) hC dX0_dropOldest_10 (rfl : shC 3 = 4) 0 (by decide) wf_188 rfl ?_
      refine xv_icmp_ge (tgt := 64) (pc := 13) hC dX0_dropOldest_13 (by decide) (fun c_1 => ?_) (fun c_1 => ?_)
      · replace hX := if_t c_1 hX
        exact xv_eqw (W := cwC dA a) (Option.some.inj hX) (hR _ _ _ _ (Nat.le_of_ble_eq_true rfl) (Nat.le_of_ble_eq_true rfl) dX0_dropOldest_64)
      · replace hX := if_f c_1 hX
        refine xv_aload_n (pc := 16) hC dX0_dropOldest_16 0 rfl rfl ?_
        refine xgX0 (v := .ref (a 4)) (pc := 17) hC dX0_dropOldest_17 (rfl : shC 3 = 4) 1 (by decide) wf_190 rfl ?_
        refine xv_iload_n (pc := 20) hC dX0_dropOldest_20 1 rfl rfl ?_
        refine xv_aload_n (pc := 21) hC dX0_dropOldest_21 0 rfl rfl ?_
        refine xgX0 (v := .ref (a 4)) (pc := 22) hC dX0_dropOldest_22 (rfl : shC 3 = 4) 1 (by decide) wf_190 rfl ?_
        refine xv_iload_n (pc := 25) hC dX0_dropOldest_25 1 rfl rfl ?_
        refine xv_iconst (v := 1) (pc := 26) hC dX0_dropOldest_26 (by decide) ?_
        refine xv_iadd (pc := 27) hC dX0_dropOldest_27 ?_
        obtain ⟨h_2, hX⟩ := gd_some hX
        refine xl_C5 (pc := 28) hC dX0_dropOldest_28 (rfl : shC 4 = 5) h_2 ?_
        obtain ⟨h_3, hX⟩ := gd_some hX
        obtain ⟨Z_4, hZ_4, hX⟩ := nm_some hX
        refine xs_C5 (pc := 29) hC dX0_dropOldest_29 (rfl : shC 4 = 5) h_3 hZ_4 ?_
        refine xv_aload_n (pc := 30) hC dX0_dropOldest_30 0 rfl rfl ?_
        refine xgX0 (v := .ref (a 5)) (pc := 31) hC dX0_dropOldest_31 (rfl : shC 3 = 4) 2 (by decide) wf_192 rfl ?_
        refine xv_iload_n (pc := 34) hC dX0_dropOldest_34 1 rfl rfl ?_
        refine xv_aload_n (pc := 35) hC dX0_dropOldest_35 0 rfl rfl ?_
        refine xgX0 (v := .ref (a 5)) (pc := 36) hC dX0_dropOldest_36 (rfl : shC 3 = 4) 2 (by decide) wf_192 rfl ?_
        refine xv_iload_n (pc := 39) hC dX0_dropOldest_39 1 rfl rfl ?_
        refine xv_iconst (v := 1) (pc := 40) hC dX0_dropOldest_40 (by decide) ?_
        refine xv_iadd (pc := 41) hC dX0_dropOldest_41 ?_
        obtain ⟨h_5, hX⟩ := gd_some hX
        refine xl_C5 (pc := 42) hC dX0_dropOldest_42 (rfl : shC 5 = 5) h_5 ?_
        obtain ⟨h_6, hX⟩ := gd_some hX
        obtain ⟨Z_7, hZ_7, hX⟩ := nm_some hX
        refine xs_C5 (pc := 43) hC dX0_dropOldest_43 (rfl : shC 5 = 5) h_6 hZ_7 ?_
        refine xv_aload_n (pc := 44) hC dX0_dropOldest_44 0 rfl rfl ?_
        refine xgX0 (v := .ref (a 6)) (pc := 45) hC dX0_dropOldest_45 (rfl : shC 3 = 4) 3 (by decide) wf_194 rfl ?_
        refine xv_iload_n (pc := 48) hC dX0_dropOldest_48 1 rfl rfl ?_
        refine xv_aload_n (pc := 49) hC dX0_dropOldest_49 0 rfl rfl ?_
        refine xgX0 (v := .ref (a 6)) (pc := 50) hC dX0_dropOldest_50 (rfl : shC 3 = 4) 3 (by decide) wf_194 rfl ?_
        refine xv_iload_n (pc := 53) hC dX0_dropOldest_53 1 rfl rfl ?_
        refine xv_iconst (v := 1) (pc := 54) hC dX0_dropOldest_54 (by decide) ?_
        refine xv_iadd (pc := 55) hC dX0_dropOldest_55 ?_
        obtain ⟨h_8, hX⟩ := gd_some hX
        refine xl_C6 (pc := 56) hC dX0_dropOldest_56 (rfl : shC 6 = 6) h_8 ?_
        obtain ⟨h_9, hX⟩ := gd_some hX
        obtain ⟨Z_10, hZ_10, hX⟩ := nm_some hX
        refine xs_C6 (pc := 57) hC dX0_dropOldest_57 (rfl : shC 6 = 6) h_9 hZ_10 ?_
        obtain ⟨y_11, hy_11, hX⟩ := nm_some hX
        refine xv_iinc (pc := 58) (v := y_11) (lv' := [(1, .int y_11), (0, .ref (a 3))]) hC dX0_dropOldest_58 1 rfl (by rw [hy_11]; rfl) (by decide) rfl ?_
        refine xv_goto (tgt := 8) (pc := 61) hC dX0_dropOldest_61 (by decide) ?_
        refine xv_sub (lv' := [(0, .ref (a 3)), (1, .int y_11)]) [1, 0] rfl ?_
        exact ih y_11 Z_10 hX
  show xv p l e rmX0_dropOldest s m args below meth c D A 2 Q (cwC dA a Z) 0 0 0 [(0, .ref (a 3))] []
  refine xv_aload_n (pc := 0) hC dX0_dropOldest_0 0 rfl rfl ?_
  refine xv_bipush (v := 7) (pc := 1) hC dX0_dropOldest_1 (by decide) ?_
  obtain ⟨Z_12, hZ_12, hX⟩ := nm_some hX
  refine xpX0 (ty := .int) (pc := 3) hC dX0_dropOldest_3 (rfl : shC 3 = 4) 0 (by decide) wf_188 rfl (by decide +kernel) rfl rfl rfl hZ_12 ?_
  refine xv_iconst (v := 0) (pc := 6) hC dX0_dropOldest_6 (by decide) ?_
  refine xv_istore_n (pc := 7) (lv' := [(1, .int 0), (0, .ref (a 3))]) hC dX0_dropOldest_7 rfl (by decide) rfl ?_
  refine xv_sub (lv' := [(0, .ref (a 3)), (1, .int 0)]) [1, 0] rfl ?_
  exact v8 3000 0 Z_12 hX
def sX0_enter_B13 (x1 : Int32) (x2 : Int32) (x3 : Int32) (Z : ZZ) : Option (ZZ) :=
  gd (vin (gI Z 3 0) 8 = true) <|
  nm (pI Z 4 (gI Z 3 0).toNatClampNeg x1) <| fun Z_2 =>
  gd (vin (gI Z_2 3 0) 8 = true) <|
  nm (pI Z_2 5 (gI Z_2 3 0).toNatClampNeg x2) <| fun Z_4 =>
  gd (vin (gI Z_4 3 0) 8 = true) <|
  nm (pI Z_4 6 (gI Z_4 3 0).toNatClampNeg (vp_nar .char x3)) <| fun Z_6 =>
  nm (pI Z_6 3 0 ((gI Z_6 3 0) + 1)) <| fun Z_7 =>
  some Z_7
def sX0_enter (x1 : Int32) (x2 : Int32) (x3 : Int32) (Z : ZZ) : Option (ZZ) :=
  if (gI Z 3 0) < 8 then (
    sX0_enter_B13 x1 x2 x3 Z) else (
    bnd (sX0_dropOldest Z) <| fun q_9 =>
    sX0_enter_B13 x1 x2 x3 q_9)
abbrev rmX0_enter : Room := { frames := 1, cells := 0, slots := 0, locals := 21 }
set_option maxHeartbeats 4000000 in
set_option maxRecDepth 100000 in
theorem kX0_enter {l : Launch} {D : va_G} {dA : Nat → ClassId} {sa : String → Nat → Nat} {a : Nat → Nat} (hl : l.stackTraces = false) {x1 : Int32} {x2 : Int32} {x3 : Int32} {Z Z' : ZZ} (hX : sX0_enter x1 x2 x3 Z = some Z') : CTv l D dA sa yX0_enter (wz yX0_enter cX0_enter 4 none) rmX0_enter [.ref (a 3), .int x1, .int x2, .int x3] (cwC dA a Z) (cwC dA a Z') := by
  refine xm_v hl (by decide +kernel) (Nat.le_of_ble_eq_true rfl) rfl ?_
  intro p e s m args below meth c A Q hC hR
  unfold sX0_enter at hX
  have v13 : ∀ (Z : ZZ), sX0_enter_B13 x1 x2 x3 Z = some Z' → xv p l e rmX0_enter s m args below meth c D A 4 Q (cwC dA a Z) 0 0 13 [(0, .ref (a 3)), (1, .int x1), (2, .int x2), (3, .int x3)] [] := by
    intro Z hX
    unfold sX0_enter_B13 at hX
    refine xv_aload_n (pc := 13) hC dX0_enter_13 0 rfl rfl ?_
    refine xgX0 (v := .ref (a 4)) (pc := 14) hC dX0_enter_14 (rfl : shC 3 = 4) 1 (by decide) wf_190 rfl ?_
    refine xv_aload_n (pc := 17) hC dX0_enter_17 0 rfl rfl ?_
    refine xgX0 (v := .int (gI Z 3 0)) (pc := 18) hC dX0_enter_18 (rfl : shC 3 = 4) 0 (by decide) wf_188 rfl ?_
    refine xv_iload_n (pc := 21) hC dX0_enter_21 1 rfl rfl ?_
    obtain ⟨h_1, hX⟩ := gd_some hX
    obtain ⟨Z_2, hZ_2, hX⟩ := nm_some hX
    refine xs_C5 (pc := 22) hC dX0_enter_22 (rfl : shC 4 = 5) h_1 hZ_2 ?_
    refine xv_aload_n (pc := 23) hC dX0_enter_23 0 rfl rfl ?_
    refine xgX0 (v := .ref (a 5)) (pc := 24) hC dX0_enter_24 (rfl : shC 3 = 4) 2 (by decide) wf_192 rfl ?_
    refine xv_aload_n (pc := 27) hC dX0_enter_27 0 rfl rfl ?_
    refine xgX0 (v := .int (gI Z_2 3 0)) (pc := 28) hC dX0_enter_28 (rfl : shC 3 = 4) 0 (by decide) wf_188 rfl ?_
    refine xv_iload_n (pc := 31) hC dX0_enter_31 2 rfl rfl ?_
    obtain ⟨h_3, hX⟩ := gd_some hX
    obtain ⟨Z_4, hZ_4, hX⟩ := nm_some hX
    refine xs_C5 (pc := 32) hC dX0_enter_32 (rfl : shC 5 = 5) h_3 hZ_4 ?_
    refine xv_aload_n (pc := 33) hC dX0_enter_33 0 rfl rfl ?_
    refine xgX0 (v := .ref (a 6)) (pc := 34) hC dX0_enter_34 (rfl : shC 3 = 4) 3 (by decide) wf_194 rfl ?_
    refine xv_aload_n (pc := 37) hC dX0_enter_37 0 rfl rfl ?_
    refine xgX0 (v := .int (gI Z_4 3 0)) (pc := 38) hC dX0_enter_38 (rfl : shC 3 = 4) 0 (by decide) wf_188 rfl ?_
    refine xv_iload_n (pc := 41) hC dX0_enter_41 3 rfl rfl ?_
    obtain ⟨h_5, hX⟩ := gd_some hX
    obtain ⟨Z_6, hZ_6, hX⟩ := nm_some hX
    refine xs_C6 (pc := 42) hC dX0_enter_42 (rfl : shC 6 = 6) h_5 hZ_6 ?_
    refine xv_aload_n (pc := 43) hC dX0_enter_43 0 rfl rfl ?_
    refine xv_dup (pc := 44) hC dX0_enter_44 rfl ?_
    refine xgX0 (v := .int (gI Z_6 3 0)) (pc := 45) hC dX0_enter_45 (rfl : shC 3 = 4) 0 (by decide) wf_188 rfl ?_
    refine xv_iconst (v := 1) (pc := 48) hC dX0_enter_48 (by decide) ?_
    refine xv_iadd (pc := 49) hC dX0_enter_49 ?_
    obtain ⟨Z_7, hZ_7, hX⟩ := nm_some hX
    refine xpX0 (ty := .int) (pc := 50) hC dX0_enter_50 (rfl : shC 3 = 4) 0 (by decide) wf_188 rfl (by decide +kernel) rfl rfl rfl hZ_7 ?_
    exact xv_eqw (W := cwC dA a) (Option.some.inj hX) (hR _ _ _ _ (Nat.le_of_ble_eq_true rfl) (Nat.le_of_ble_eq_true rfl) dX0_enter_53)
  show xv p l e rmX0_enter s m args below meth c D A 4 Q (cwC dA a Z) 0 0 0 [(0, .ref (a 3)), (1, .int x1), (2, .int x2), (3, .int x3)] []
  refine xv_aload_n (pc := 0) hC dX0_enter_0 0 rfl rfl ?_
  refine xgX0 (v := .int (gI Z 3 0)) (pc := 1) hC dX0_enter_1 (rfl : shC 3 = 4) 0 (by decide) wf_188 rfl ?_
  refine xv_bipush (v := 8) (pc := 4) hC dX0_enter_4 (by decide) ?_
  refine xv_icmp_lt (tgt := 13) (pc := 6) hC dX0_enter_6 (by decide) (fun c_8 => ?_) (fun c_8 => ?_)
  · replace hX := if_t c_8 hX
    exact v13 Z hX
  · replace hX := if_f c_8 hX
    refine xv_aload_n (pc := 9) hC dX0_enter_9 0 rfl rfl ?_
    obtain ⟨q_9, hq_9, hX⟩ := bnd_some hX
    refine xv_callVv0 (As := []) (pc := 10) hC (kX0_dropOldest hl hq_9) fV_X0_dropOldest wf_927 (rc_X0 (rfl : shC 3 = 4)) rfl ⟨Nat.le_of_ble_eq_true rfl, Nat.le_of_ble_eq_true rfl⟩ rfl (Nat.le_of_ble_eq_true rfl) dX0_enter_10 ⟨Nat.le_of_ble_eq_true rfl, Nat.le_of_ble_eq_true rfl⟩ ?_
    exact v13 q_9 hX
def sX1_isOf (t0 : Nat) (x1 : Int32) (Z : ZZ) : Option (Int32 × ZZ) :=
  gd (shC t0 = 17) <|
  if (gI Z t0 0) = x1 then (
    some (1, Z)) else (
    if (gI Z t0 1) = x1 then (
      some (1, Z)) else (
      some (0, Z)))
abbrev rmX1_isOf : Room := { frames := 0, cells := 0, slots := 0, locals := 0 }
set_option maxHeartbeats 4000000 in
set_option maxRecDepth 100000 in
theorem kX1_isOf {l : Launch} {D : va_G} {dA : Nat → ClassId} {sa : String → Nat → Nat} {a : Nat → Nat} (hl : l.stackTraces = false) {t0 : Nat} {x1 : Int32} {Z Z' : ZZ} {v : Int32} (hX : sX1_isOf t0 x1 Z = some (v, Z')) : CTi l D dA sa yX1_isOf (wz yX1_isOf cX1_isOf 2 (some .boolean)) rmX1_isOf [.ref (a t0), .int x1] (cwC dA a Z) v (cwC dA a Z') := by
  refine xm_z hl (by decide +kernel) (Nat.le_of_ble_eq_true rfl) rfl ?_
  intro p e s m args below meth c A Q hC hR
  unfold sX1_isOf at hX
  obtain ⟨g0, hX⟩ := gd_some hX
  show xv p l e rmX1_isOf s m args below meth c D A 2 Q (cwC dA a Z) 0 0 0 [(0, .ref (a t0)), (1, .int x1)] []
  refine xv_aload_n (pc := 0) hC dX1_isOf_0 0 rfl rfl ?_
  refine xgX1 (v := .int (gI Z t0 0)) (pc := 1) hC dX1_isOf_1 g0 0 (by decide) wf_96 rfl ?_
  refine xv_iload_n (pc := 4) hC dX1_isOf_4 1 rfl rfl ?_
  refine xv_icmp_eq (tgt := 16) (pc := 5) hC dX1_isOf_5 (by decide) (fun c_1 => ?_) (fun c_1 => ?_)
  · replace hX := if_t c_1 hX
    refine xv_iconst (v := 1) (pc := 16) hC dX1_isOf_16 (by decide) ?_
    refine xv_goto (tgt := 21) (pc := 17) hC dX1_isOf_17 (by decide) ?_
    obtain ⟨h1, h2⟩ := some_pair hX
    exact xv_eqi (W := cwC dA a) h1 h2 (hR _ _ _ _ (by rw [← h1]; exact (by decide)) (Nat.le_of_ble_eq_true rfl) (Nat.le_of_ble_eq_true rfl) dX1_isOf_21)
  · replace hX := if_f c_1 hX
    refine xv_aload_n (pc := 8) hC dX1_isOf_8 0 rfl rfl ?_
    refine xgX1 (v := .int (gI Z t0 1)) (pc := 9) hC dX1_isOf_9 g0 1 (by decide) wf_99 rfl ?_
    refine xv_iload_n (pc := 12) hC dX1_isOf_12 1 rfl rfl ?_
    refine xv_icmp_ne (tgt := 20) (pc := 13) hC dX1_isOf_13 (by decide) (fun c_2 => ?_) (fun c_2 => ?_)
    · replace hX := if_f c_2 hX
      refine xv_iconst (v := 0) (pc := 20) hC dX1_isOf_20 (by decide) ?_
      obtain ⟨h1, h2⟩ := some_pair hX
      exact xv_eqi (W := cwC dA a) h1 h2 (hR _ _ _ _ (by rw [← h1]; exact (by decide)) (Nat.le_of_ble_eq_true rfl) (Nat.le_of_ble_eq_true rfl) dX1_isOf_21)
    · replace hX := if_t c_2 hX
      refine xv_iconst (v := 1) (pc := 16) hC dX1_isOf_16 (by decide) ?_
      refine xv_goto (tgt := 21) (pc := 17) hC dX1_isOf_17 (by decide) ?_
      obtain ⟨h1, h2⟩ := some_pair hX
      exact xv_eqi (W := cwC dA a) h1 h2 (hR _ _ _ _ (by rw [← h1]; exact (by decide)) (Nat.le_of_ble_eq_true rfl) (Nat.le_of_ble_eq_true rfl) dX1_isOf_21)
def sX1_trunkBits_L4 (t0 : Nat) : Nat → Int32 → Int32 → ZZ → Option (Int32 × ZZ)
  | 0, _, _, _ => none
  | n + 1, y1, y2, Z =>
  if (gI Z t0 3) ≤ y2 then (
    some (y1, Z)) else (
    gd (vin y2 7 = true) <|
    nm (y1 ||| (1 <<< ((gI Z (t0 + 1) y2.toNatClampNeg) &&& 31))) <| fun y_3 =>
    nm (y2 + 1) <| fun y_4 =>
    sX1_trunkBits_L4 t0 n y_3 y_4 Z)
def sX1_trunkBits (t0 : Nat) (Z : ZZ) : Option (Int32 × ZZ) :=
  gd (shC t0 = 17) <|
  sX1_trunkBits_L4 t0 3000 0 0 Z
abbrev rmX1_trunkBits : Room := { frames := 0, cells := 0, slots := 0, locals := 0 }
set_option maxHeartbeats 4000000 in
set_option maxRecDepth 100000 in
theorem kX1_trunkBits {l : Launch} {D : va_G} {dA : Nat → ClassId} {sa : String → Nat → Nat} {a : Nat → Nat} (hl : l.stackTraces = false) {t0 : Nat} {Z Z' : ZZ} {v : Int32} (hX : sX1_trunkBits t0 Z = some (v, Z')) : CTi l D dA sa yX1_trunkBits (wz yX1_trunkBits cX1_trunkBits 3 (some .int)) rmX1_trunkBits [.ref (a t0)] (cwC dA a Z) v (cwC dA a Z') := by
  refine xm_i hl (by decide +kernel) (Nat.le_of_ble_eq_true rfl) rfl ?_
  intro p e s m args below meth c A Q hC hR
  unfold sX1_trunkBits at hX
  obtain ⟨g0, hX⟩ := gd_some hX
  have v4 : ∀ (n : Nat) (y1 : Int32) (y2 : Int32) (Z : ZZ), sX1_trunkBits_L4 t0 n y1 y2 Z = some (v, Z') → xv p l e rmX1_trunkBits s m args below meth c D A 3 Q (cwC dA a Z) 0 0 4 [(0, .ref (a t0)), (1, .int y1), (2, .int y2)] [] := by
    intro n
    induction n with
    | zero =>
      intro y1 y2 Z hX
      exact absurd hX (by simp [sX1_trunkBits_L4])
    | succ n ih =>
      intro y1 y2 Z hX
      rw [sX1_trunkBits_L4] at hX
      refine xv_iload_n (pc := 4) hC dX1_trunkBits_4 2 rfl rfl ?_
      refine xv_aload_n (pc := 5) hC dX1_trunkBits_5 0 rfl rfl ?_
      refine xgX1 (v := .int (gI Z t0 3)) (pc := 6) hC dX1_trunkBits_6 g0 3 (by decide) wf_105 rfl ?_
      refine xv_icmp_ge (tgt := 29) (pc := 9) hC dX1_trunkBits_9 (by decide) (fun c_1 => ?_) (fun c_1 => ?_)
      · replace hX := if_t c_1 hX
        refine xv_iload_n (pc := 29) hC dX1_trunkBits_29 1 rfl rfl ?_
        obtain ⟨h1, h2⟩ := some_pair hX
        exact xv_eqi (W := cwC dA a) h1 h2 (hR _ _ _ _ (Nat.le_of_ble_eq_true rfl) (Nat.le_of_ble_eq_true rfl) dX1_trunkBits_30)
      · replace hX := if_f c_1 hX
        refine xv_iload_n (pc := 12) hC dX1_trunkBits_12 1 rfl rfl ?_
        refine xv_iconst (v := 1) (pc := 13) hC dX1_trunkBits_13 (by decide) ?_
        refine xv_aload_n (pc := 14) hC dX1_trunkBits_14 0 rfl rfl ?_
        refine xgX1 (v := .ref (a (t0 + 1))) (pc := 15) hC dX1_trunkBits_15 g0 5 (by decide) wf_110 rfl ?_
        refine xv_iload_n (pc := 18) hC dX1_trunkBits_18 2 rfl rfl ?_
        obtain ⟨h_2, hX⟩ := gd_some hX
        refine xl_C11 (pc := 19) hC dX1_trunkBits_19 (sh_X1_route g0) h_2 ?_
        refine xv_ishl (pc := 20) hC dX1_trunkBits_20 ?_
        refine xv_ior (pc := 21) hC dX1_trunkBits_21 ?_
        obtain ⟨y_3, hy_3, hX⟩ := nm_some hX
        refine xv_nmi hy_3 ?_
        refine xv_istore_n (pc := 22) (lv' := [(1, .int y_3), (0, .ref (a t0)), (2, .int y2)]) hC dX1_trunkBits_22 rfl (by decide) rfl ?_
        obtain ⟨y_4, hy_4, hX⟩ := nm_some hX
        refine xv_iinc (pc := 23) (v := y_4) (lv' := [(2, .int y_4), (1, .int y_3), (0, .ref (a t0))]) hC dX1_trunkBits_23 2 rfl (by rw [hy_4]; rfl) (by decide) rfl ?_
        refine xv_goto (tgt := 4) (pc := 26) hC dX1_trunkBits_26 (by decide) ?_
        refine xv_sub (lv' := [(0, .ref (a t0)), (1, .int y_3), (2, .int y_4)]) [2, 1, 0] rfl ?_
        exact ih y_3 y_4 Z hX
  show xv p l e rmX1_trunkBits s m args below meth c D A 3 Q (cwC dA a Z) 0 0 0 [(0, .ref (a t0))] []
  refine xv_iconst (v := 0) (pc := 0) hC dX1_trunkBits_0 (by decide) ?_
  refine xv_istore_n (pc := 1) (lv' := [(1, .int 0), (0, .ref (a t0))]) hC dX1_trunkBits_1 rfl (by decide) rfl ?_
  refine xv_iconst (v := 0) (pc := 2) hC dX1_trunkBits_2 (by decide) ?_
  refine xv_istore_n (pc := 3) (lv' := [(2, .int 0), (1, .int 0), (0, .ref (a t0))]) hC dX1_trunkBits_3 rfl (by decide) rfl ?_
  refine xv_sub (lv' := [(0, .ref (a t0)), (1, .int 0), (2, .int 0)]) [2, 1, 0] rfl ?_
  exact v4 3000 0 0 Z hX
def sX7_copyRow_11_11 (t0 : Nat) (t1 : Nat) (Z : ZZ) : Option (ZZ) :=
  gd (shC t0 = 11) <|
  gd (shC t1 = 11) <|
  gd (cpo 0 0 (imin 7 7) 7 7 = true) <|
  nm (pC Z t0 0 t1 0 (imin 7 7)) <| fun Z_2 =>
  some Z_2
abbrev rmX7_copyRow_11_11 : Room := { frames := 1, cells := 0, slots := 0, locals := 60 }
set_option maxHeartbeats 4000000 in
set_option maxRecDepth 100000 in
theorem kX7_copyRow_11_11 {l : Launch} {D : va_G} {dA : Nat → ClassId} {sa : String → Nat → Nat} {a : Nat → Nat} (hl : l.stackTraces = false) {t0 : Nat} {t1 : Nat} {Z Z' : ZZ} (hX : sX7_copyRow_11_11 t0 t1 Z = some Z') : CTv l D dA sa yX7_copyRow (wz yX7_copyRow cX7_copyRow 2 none) rmX7_copyRow_11_11 [.ref (a t0), .ref (a t1)] (cwC dA a Z) (cwC dA a Z') := by
  refine xm_v hl (by decide +kernel) (Nat.le_of_ble_eq_true rfl) rfl ?_
  intro p e s m args below meth c A Q hC hR
  unfold sX7_copyRow_11_11 at hX
  obtain ⟨g0, hX⟩ := gd_some hX
  obtain ⟨g1, hX⟩ := gd_some hX
  show xv p l e rmX7_copyRow_11_11 s m args below meth c D A 2 Q (cwC dA a Z) 0 0 0 [(0, .ref (a t0)), (1, .ref (a t1))] []
  refine xv_aload_n (pc := 0) hC dX7_copyRow_0 0 rfl rfl ?_
  refine xv_iconst (v := 0) (pc := 1) hC dX7_copyRow_1 (by decide) ?_
  refine xv_aload_n (pc := 2) hC dX7_copyRow_2 1 rfl rfl ?_
  refine xv_iconst (v := 0) (pc := 3) hC dX7_copyRow_3 (by decide) ?_
  refine xv_aload_n (pc := 4) hC dX7_copyRow_4 0 rfl rfl ?_
  refine xn_C11 (v := 7) (pc := 5) hC dX7_copyRow_5 g0 (by decide) ?_
  refine xv_aload_n (pc := 6) hC dX7_copyRow_6 1 rfl rfl ?_
  refine xn_C11 (v := 7) (pc := 7) hC dX7_copyRow_7 g1 (by decide) ?_
  refine xv_immin (pc := 8) hC dX7_copyRow_8 wf_869 fm_min (Nat.le_of_ble_eq_true rfl) (Nat.le_of_ble_eq_true rfl) (Nat.le_of_ble_eq_true rfl) (Nat.le_of_ble_eq_true rfl) ?_
  obtain ⟨h_1, hX⟩ := gd_some hX
  obtain ⟨Z_2, hZ_2, hX⟩ := nm_some hX
  refine xy_C11 (pc := 11) hC dX7_copyRow_11 g0 g1 wf_870 fm_arraycopy h_1 (Nat.le_of_ble_eq_true rfl) (Nat.le_of_ble_eq_true rfl) hZ_2 ?_
  exact xv_eqw (W := cwC dA a) (Option.some.inj hX) (hR _ _ _ _ (Nat.le_of_ble_eq_true rfl) (Nat.le_of_ble_eq_true rfl) dX7_copyRow_14)
def sX1_takeRoute (t0 : Nat) (Z : ZZ) : Option (ZZ) :=
  gd (shC t0 = 17) <|
  bnd (sX7_copyRow_11_11 14 (t0 + 1) Z) <| fun q_1 =>
  nm (pI q_1 t0 3 (gI q_1 13 1)) <| fun Z_2 =>
  nm (pI Z_2 t0 4 (gI Z_2 13 2)) <| fun Z_3 =>
  some Z_3
abbrev rmX1_takeRoute : Room := { frames := 2, cells := 0, slots := 0, locals := 81 }
set_option maxHeartbeats 4000000 in
set_option maxRecDepth 100000 in
theorem kX1_takeRoute {l : Launch} {D : va_G} {dA : Nat → ClassId} {sa : String → Nat → Nat} {a : Nat → Nat} (hl : l.stackTraces = false) {t0 : Nat} {Z Z' : ZZ} (hX : sX1_takeRoute t0 Z = some Z') : CTv l D dA sa yX1_takeRoute (wz yX1_takeRoute cX1_takeRoute 2 none) rmX1_takeRoute [.ref (a t0), .ref (a 13)] (cwC dA a Z) (cwC dA a Z') := by
  refine xm_v hl (by decide +kernel) (Nat.le_of_ble_eq_true rfl) rfl ?_
  intro p e s m args below meth c A Q hC hR
  unfold sX1_takeRoute at hX
  obtain ⟨g0, hX⟩ := gd_some hX
  show xv p l e rmX1_takeRoute s m args below meth c D A 2 Q (cwC dA a Z) 0 0 0 [(0, .ref (a t0)), (1, .ref (a 13))] []
  refine xv_aload_n (pc := 0) hC dX1_takeRoute_0 1 rfl rfl ?_
  refine xgX5 (v := .ref (a 14)) (pc := 1) hC dX1_takeRoute_1 (rfl : shC 13 = 10) 0 (by decide) wf_253 rfl ?_
  refine xv_aload_n (pc := 4) hC dX1_takeRoute_4 0 rfl rfl ?_
  refine xgX1 (v := .ref (a (t0 + 1))) (pc := 5) hC dX1_takeRoute_5 g0 5 (by decide) wf_110 rfl ?_
  obtain ⟨q_1, hq_1, hX⟩ := bnd_some hX
  refine xv_callNv0 (As := [.ref (a 14), .ref (a (t0 + 1))]) (host := "Switchboard") (pc := 8) hC (kX7_copyRow_11_11 hl hq_1) fS_X7_copyRow (by decide +kernel) rfl ⟨Nat.le_of_ble_eq_true rfl, Nat.le_of_ble_eq_true rfl⟩ rfl (Nat.le_of_ble_eq_true rfl) dX1_takeRoute_8 ⟨Nat.le_of_ble_eq_true rfl, Nat.le_of_ble_eq_true rfl⟩ ?_
  refine xv_aload_n (pc := 11) hC dX1_takeRoute_11 0 rfl rfl ?_
  refine xv_aload_n (pc := 12) hC dX1_takeRoute_12 1 rfl rfl ?_
  refine xgX5 (v := .int (gI q_1 13 1)) (pc := 13) hC dX1_takeRoute_13 (rfl : shC 13 = 10) 1 (by decide) wf_255 rfl ?_
  obtain ⟨Z_2, hZ_2, hX⟩ := nm_some hX
  refine xpX1 (ty := .int) (pc := 16) hC dX1_takeRoute_16 g0 3 (by decide) wf_105 rfl (by decide +kernel) rfl rfl rfl hZ_2 ?_
  refine xv_aload_n (pc := 19) hC dX1_takeRoute_19 0 rfl rfl ?_
  refine xv_aload_n (pc := 20) hC dX1_takeRoute_20 1 rfl rfl ?_
  refine xgX5 (v := .int (gI Z_2 13 2)) (pc := 21) hC dX1_takeRoute_21 (rfl : shC 13 = 10) 2 (by decide) wf_257 rfl ?_
  obtain ⟨Z_3, hZ_3, hX⟩ := nm_some hX
  refine xpX1 (ty := .int) (pc := 24) hC dX1_takeRoute_24 g0 4 (by decide) wf_108 rfl (by decide +kernel) rfl rfl rfl hZ_3 ?_
  exact xv_eqw (W := cwC dA a) (Option.some.inj hX) (hR _ _ _ _ (Nat.le_of_ble_eq_true rfl) (Nat.le_of_ble_eq_true rfl) dX1_takeRoute_27)
def sX1_copyFrom (t0 : Nat) (t1 : Nat) (Z : ZZ) : Option (ZZ) :=
  gd (shC t0 = 17) <|
  gd (shC t1 = 17) <|
  nm (pI Z t0 0 (gI Z t1 0)) <| fun Z_1 =>
  nm (pI Z_1 t0 1 (gI Z_1 t1 1)) <| fun Z_2 =>
  nm (pI Z_2 t0 2 (gI Z_2 t1 2)) <| fun Z_3 =>
  nm (pI Z_3 t0 3 (gI Z_3 t1 3)) <| fun Z_4 =>
  nm (pI Z_4 t0 4 (gI Z_4 t1 4)) <| fun Z_5 =>
  bnd (sX7_copyRow_11_11 (t1 + 1) (t0 + 1) Z_5) <| fun q_6 =>
  some q_6
abbrev rmX1_copyFrom : Room := { frames := 2, cells := 0, slots := 0, locals := 81 }
set_option maxHeartbeats 4000000 in
set_option maxRecDepth 100000 in
theorem kX1_copyFrom {l : Launch} {D : va_G} {dA : Nat → ClassId} {sa : String → Nat → Nat} {a : Nat → Nat} (hl : l.stackTraces = false) {t0 : Nat} {t1 : Nat} {Z Z' : ZZ} (hX : sX1_copyFrom t0 t1 Z = some Z') : CTv l D dA sa yX1_copyFrom (wz yX1_copyFrom cX1_copyFrom 2 none) rmX1_copyFrom [.ref (a t0), .ref (a t1)] (cwC dA a Z) (cwC dA a Z') := by
  refine xm_v hl (by decide +kernel) (Nat.le_of_ble_eq_true rfl) rfl ?_
  intro p e s m args below meth c A Q hC hR
  unfold sX1_copyFrom at hX
  obtain ⟨g0, hX⟩ := gd_some hX
  obtain ⟨g1, hX⟩ := gd_some hX
  show xv p l e rmX1_copyFrom s m args below meth c D A 2 Q (cwC dA a Z) 0 0 0 [(0, .ref (a t0)), (1, .ref (a t1))] []
  refine xv_aload_n (pc := 0) hC dX1_copyFrom_0 0 rfl rfl ?_
  refine xv_aload_n (pc := 1) hC dX1_copyFrom_1 1 rfl rfl ?_
  refine xgX1 (v := .int (gI Z t1 0)) (pc := 2) hC dX1_copyFrom_2 g1 0 (by decide) wf_96 rfl ?_
  obtain ⟨Z_1, hZ_1, hX⟩ := nm_some hX
  refine xpX1 (ty := .int) (pc := 5) hC dX1_copyFrom_5 g0 0 (by decide) wf_96 rfl (by decide +kernel) rfl rfl rfl hZ_1 ?_
  refine xv_aload_n (pc := 8) hC dX1_copyFrom_8 0 rfl rfl ?_
  refine xv_aload_n (pc := 9) hC dX1_copyFrom_9 1 rfl rfl ?_
  refine xgX1 (v := .int (gI Z_1 t1 1)) (pc := 10) hC dX1_copyFrom_10 g1 1 (by decide) wf_99 rfl ?_
  obtain ⟨Z_2, hZ_2, hX⟩ := nm_some hX
  refine xpX1 (ty := .int) (pc := 13) hC dX1_copyFrom_13 g0 1 (by decide) wf_99 rfl (by decide +kernel) rfl rfl rfl hZ_2 ?_
  refine xv_aload_n (pc := 16) hC dX1_copyFrom_16 0 rfl rfl ?_
  refine xv_aload_n (pc := 17) hC dX1_copyFrom_17 1 rfl rfl ?_
  refine xgX1 (v := .int (gI Z_2 t1 2)) (pc := 18) hC dX1_copyFrom_18 g1 2 (by decide) wf_102 rfl ?_
  obtain ⟨Z_3, hZ_3, hX⟩ := nm_some hX
  refine xpX1 (ty := .int) (pc := 21) hC dX1_copyFrom_21 g0 2 (by decide) wf_102 rfl (by decide +kernel) rfl rfl rfl hZ_3 ?_
  refine xv_aload_n (pc := 24) hC dX1_copyFrom_24 0 rfl rfl ?_
  refine xv_aload_n (pc := 25) hC dX1_copyFrom_25 1 rfl rfl ?_
  refine xgX1 (v := .int (gI Z_3 t1 3)) (pc := 26) hC dX1_copyFrom_26 g1 3 (by decide) wf_105 rfl ?_
  obtain ⟨Z_4, hZ_4, hX⟩ := nm_some hX
  refine xpX1 (ty := .int) (pc := 29) hC dX1_copyFrom_29 g0 3 (by decide) wf_105 rfl (by decide +kernel) rfl rfl rfl hZ_4 ?_
  refine xv_aload_n (pc := 32) hC dX1_copyFrom_32 0 rfl rfl ?_
  refine xv_aload_n (pc := 33) hC dX1_copyFrom_33 1 rfl rfl ?_
  refine xgX1 (v := .int (gI Z_4 t1 4)) (pc := 34) hC dX1_copyFrom_34 g1 4 (by decide) wf_108 rfl ?_
  obtain ⟨Z_5, hZ_5, hX⟩ := nm_some hX
  refine xpX1 (ty := .int) (pc := 37) hC dX1_copyFrom_37 g0 4 (by decide) wf_108 rfl (by decide +kernel) rfl rfl rfl hZ_5 ?_
  refine xv_aload_n (pc := 40) hC dX1_copyFrom_40 1 rfl rfl ?_
  refine xgX1 (v := .ref (a (t1 + 1))) (pc := 41) hC dX1_copyFrom_41 g1 5 (by decide) wf_110 rfl ?_
  refine xv_aload_n (pc := 44) hC dX1_copyFrom_44 0 rfl rfl ?_
  refine xgX1 (v := .ref (a (t0 + 1))) (pc := 45) hC dX1_copyFrom_45 g0 5 (by decide) wf_110 rfl ?_
  obtain ⟨q_6, hq_6, hX⟩ := bnd_some hX
  refine xv_callNv0 (As := [.ref (a (t1 + 1)), .ref (a (t0 + 1))]) (host := "Switchboard") (pc := 48) hC (kX7_copyRow_11_11 hl hq_6) fS_X7_copyRow (by decide +kernel) rfl ⟨Nat.le_of_ble_eq_true rfl, Nat.le_of_ble_eq_true rfl⟩ rfl (Nat.le_of_ble_eq_true rfl) dX1_copyFrom_48 ⟨Nat.le_of_ble_eq_true rfl, Nat.le_of_ble_eq_true rfl⟩ ?_
  exact xv_eqw (W := cwC dA a) (Option.some.inj hX) (hR _ _ _ _ (Nat.le_of_ble_eq_true rfl) (Nat.le_of_ble_eq_true rfl) dX1_copyFrom_51)
def sX3_hasSwitch (t0 : Nat) (x1 : Int32) (Z : ZZ) : Option (Int32 × ZZ) :=
  gd (shC t0 = 14) <|
  if x1 < 0 then (
    some (0, Z)) else (
    if (gI Z t0 0) ≤ x1 then (
      some (0, Z)) else (
      some (1, Z)))
abbrev rmX3_hasSwitch : Room := { frames := 0, cells := 0, slots := 0, locals := 0 }
set_option maxHeartbeats 4000000 in
set_option maxRecDepth 100000 in
theorem kX3_hasSwitch {l : Launch} {D : va_G} {dA : Nat → ClassId} {sa : String → Nat → Nat} {a : Nat → Nat} (hl : l.stackTraces = false) {t0 : Nat} {x1 : Int32} {Z Z' : ZZ} {v : Int32} (hX : sX3_hasSwitch t0 x1 Z = some (v, Z')) : CTi l D dA sa yX3_hasSwitch (wz yX3_hasSwitch cX3_hasSwitch 2 (some .boolean)) rmX3_hasSwitch [.ref (a t0), .int x1] (cwC dA a Z) v (cwC dA a Z') := by
  refine xm_z hl (by decide +kernel) (Nat.le_of_ble_eq_true rfl) rfl ?_
  intro p e s m args below meth c A Q hC hR
  unfold sX3_hasSwitch at hX
  obtain ⟨g0, hX⟩ := gd_some hX
  show xv p l e rmX3_hasSwitch s m args below meth c D A 2 Q (cwC dA a Z) 0 0 0 [(0, .ref (a t0)), (1, .int x1)] []
  refine xv_iload_n (pc := 0) hC dX3_hasSwitch_0 1 rfl rfl ?_
  refine xv_if_lt (tgt := 16) (pc := 1) hC dX3_hasSwitch_1 (by decide) (fun c_1 => ?_) (fun c_1 => ?_)
  · replace hX := if_t c_1 hX
    refine xv_iconst (v := 0) (pc := 16) hC dX3_hasSwitch_16 (by decide) ?_
    obtain ⟨h1, h2⟩ := some_pair hX
    exact xv_eqi (W := cwC dA a) h1 h2 (hR _ _ _ _ (by rw [← h1]; exact (by decide)) (Nat.le_of_ble_eq_true rfl) (Nat.le_of_ble_eq_true rfl) dX3_hasSwitch_17)
  · replace hX := if_f c_1 hX
    refine xv_iload_n (pc := 4) hC dX3_hasSwitch_4 1 rfl rfl ?_
    refine xv_aload_n (pc := 5) hC dX3_hasSwitch_5 0 rfl rfl ?_
    refine xgX3 (v := .int (gI Z t0 0)) (pc := 6) hC dX3_hasSwitch_6 g0 0 (by decide) wf_53 rfl ?_
    refine xv_icmp_ge (tgt := 16) (pc := 9) hC dX3_hasSwitch_9 (by decide) (fun c_2 => ?_) (fun c_2 => ?_)
    · replace hX := if_t c_2 hX
      refine xv_iconst (v := 0) (pc := 16) hC dX3_hasSwitch_16 (by decide) ?_
      obtain ⟨h1, h2⟩ := some_pair hX
      exact xv_eqi (W := cwC dA a) h1 h2 (hR _ _ _ _ (by rw [← h1]; exact (by decide)) (Nat.le_of_ble_eq_true rfl) (Nat.le_of_ble_eq_true rfl) dX3_hasSwitch_17)
    · replace hX := if_f c_2 hX
      refine xv_iconst (v := 1) (pc := 12) hC dX3_hasSwitch_12 (by decide) ?_
      refine xv_goto (tgt := 17) (pc := 13) hC dX3_hasSwitch_13 (by decide) ?_
      obtain ⟨h1, h2⟩ := some_pair hX
      exact xv_eqi (W := cwC dA a) h1 h2 (hR _ _ _ _ (by rw [← h1]; exact (by decide)) (Nat.le_of_ble_eq_true rfl) (Nat.le_of_ble_eq_true rfl) dX3_hasSwitch_17)
def sX3_hasTrunk (t0 : Nat) (x1 : Int32) (Z : ZZ) : Option (Int32 × ZZ) :=
  gd (shC t0 = 14) <|
  if x1 < 0 then (
    some (0, Z)) else (
    if (gI Z t0 1) ≤ x1 then (
      some (0, Z)) else (
      some (1, Z)))
abbrev rmX3_hasTrunk : Room := { frames := 0, cells := 0, slots := 0, locals := 0 }
set_option maxHeartbeats 4000000 in
set_option maxRecDepth 100000 in
theorem kX3_hasTrunk {l : Launch} {D : va_G} {dA : Nat → ClassId} {sa : String → Nat → Nat} {a : Nat → Nat} (hl : l.stackTraces = false) {t0 : Nat} {x1 : Int32} {Z Z' : ZZ} {v : Int32} (hX : sX3_hasTrunk t0 x1 Z = some (v, Z')) : CTi l D dA sa yX3_hasTrunk (wz yX3_hasTrunk cX3_hasTrunk 2 (some .boolean)) rmX3_hasTrunk [.ref (a t0), .int x1] (cwC dA a Z) v (cwC dA a Z') := by
  refine xm_z hl (by decide +kernel) (Nat.le_of_ble_eq_true rfl) rfl ?_
  intro p e s m args below meth c A Q hC hR
  unfold sX3_hasTrunk at hX
  obtain ⟨g0, hX⟩ := gd_some hX
  show xv p l e rmX3_hasTrunk s m args below meth c D A 2 Q (cwC dA a Z) 0 0 0 [(0, .ref (a t0)), (1, .int x1)] []
  refine xv_iload_n (pc := 0) hC dX3_hasTrunk_0 1 rfl rfl ?_
  refine xv_if_lt (tgt := 16) (pc := 1) hC dX3_hasTrunk_1 (by decide) (fun c_1 => ?_) (fun c_1 => ?_)
  · replace hX := if_t c_1 hX
    refine xv_iconst (v := 0) (pc := 16) hC dX3_hasTrunk_16 (by decide) ?_
    obtain ⟨h1, h2⟩ := some_pair hX
    exact xv_eqi (W := cwC dA a) h1 h2 (hR _ _ _ _ (by rw [← h1]; exact (by decide)) (Nat.le_of_ble_eq_true rfl) (Nat.le_of_ble_eq_true rfl) dX3_hasTrunk_17)
  · replace hX := if_f c_1 hX
    refine xv_iload_n (pc := 4) hC dX3_hasTrunk_4 1 rfl rfl ?_
    refine xv_aload_n (pc := 5) hC dX3_hasTrunk_5 0 rfl rfl ?_
    refine xgX3 (v := .int (gI Z t0 1)) (pc := 6) hC dX3_hasTrunk_6 g0 1 (by decide) wf_57 rfl ?_
    refine xv_icmp_ge (tgt := 16) (pc := 9) hC dX3_hasTrunk_9 (by decide) (fun c_2 => ?_) (fun c_2 => ?_)
    · replace hX := if_t c_2 hX
      refine xv_iconst (v := 0) (pc := 16) hC dX3_hasTrunk_16 (by decide) ?_
      obtain ⟨h1, h2⟩ := some_pair hX
      exact xv_eqi (W := cwC dA a) h1 h2 (hR _ _ _ _ (by rw [← h1]; exact (by decide)) (Nat.le_of_ble_eq_true rfl) (Nat.le_of_ble_eq_true rfl) dX3_hasTrunk_17)
    · replace hX := if_f c_2 hX
      refine xv_iconst (v := 1) (pc := 12) hC dX3_hasTrunk_12 (by decide) ?_
      refine xv_goto (tgt := 17) (pc := 13) hC dX3_hasTrunk_13 (by decide) ?_
      obtain ⟨h1, h2⟩ := some_pair hX
      exact xv_eqi (W := cwC dA a) h1 h2 (hR _ _ _ _ (by rw [← h1]; exact (by decide)) (Nat.le_of_ble_eq_true rfl) (Nat.le_of_ble_eq_true rfl) dX3_hasTrunk_17)
def sX3_switchProblem (t0 : Nat) (Z : ZZ) : Option (Int32 × ZZ) :=
  gd (shC t0 = 14) <|
  if (8 : Int32) ≤ (gI Z t0 0) then (
    some (3, Z)) else (
    some (0, Z))
abbrev rmX3_switchProblem : Room := { frames := 0, cells := 0, slots := 0, locals := 0 }
set_option maxHeartbeats 4000000 in
set_option maxRecDepth 100000 in
theorem kX3_switchProblem {l : Launch} {D : va_G} {dA : Nat → ClassId} {sa : String → Nat → Nat} {a : Nat → Nat} (hl : l.stackTraces = false) {t0 : Nat} {Z Z' : ZZ} {v : Int32} (hX : sX3_switchProblem t0 Z = some (v, Z')) : CTi l D dA sa yX3_switchProblem (wz yX3_switchProblem cX3_switchProblem 1 (some .int)) rmX3_switchProblem [.ref (a t0)] (cwC dA a Z) v (cwC dA a Z') := by
  refine xm_i hl (by decide +kernel) (Nat.le_of_ble_eq_true rfl) rfl ?_
  intro p e s m args below meth c A Q hC hR
  unfold sX3_switchProblem at hX
  obtain ⟨g0, hX⟩ := gd_some hX
  show xv p l e rmX3_switchProblem s m args below meth c D A 1 Q (cwC dA a Z) 0 0 0 [(0, .ref (a t0))] []
  refine xv_aload_n (pc := 0) hC dX3_switchProblem_0 0 rfl rfl ?_
  refine xgX3 (v := .int (gI Z t0 0)) (pc := 1) hC dX3_switchProblem_1 g0 0 (by decide) wf_53 rfl ?_
  refine xv_bipush (v := 8) (pc := 4) hC dX3_switchProblem_4 (by decide) ?_
  refine xv_icmp_ge (tgt := 13) (pc := 6) hC dX3_switchProblem_6 (by decide) (fun c_1 => ?_) (fun c_1 => ?_)
  · replace hX := if_t c_1 hX
    refine xv_iconst (v := 3) (pc := 13) hC dX3_switchProblem_13 (by decide) ?_
    obtain ⟨h1, h2⟩ := some_pair hX
    exact xv_eqi (W := cwC dA a) h1 h2 (hR _ _ _ _ (Nat.le_of_ble_eq_true rfl) (Nat.le_of_ble_eq_true rfl) dX3_switchProblem_14)
  · replace hX := if_f c_1 hX
    refine xv_iconst (v := 0) (pc := 9) hC dX3_switchProblem_9 (by decide) ?_
    refine xv_goto (tgt := 14) (pc := 10) hC dX3_switchProblem_10 (by decide) ?_
    obtain ⟨h1, h2⟩ := some_pair hX
    exact xv_eqi (W := cwC dA a) h1 h2 (hR _ _ _ _ (Nat.le_of_ble_eq_true rfl) (Nat.le_of_ble_eq_true rfl) dX3_switchProblem_14)
def sX3_trunkProblem (t0 : Nat) (x1 : Int32) (x2 : Int32) (x3 : Int32) (Z : ZZ) : Option (Int32 × ZZ) :=
  gd (shC t0 = 14) <|
  bnd (sX3_hasSwitch t0 x1 Z) <| fun q_1 =>
  if q_1.1 = 0 then (
    some (1, q_1.2)) else (
    bnd (sX3_hasSwitch t0 x2 q_1.2) <| fun q_3 =>
    if q_3.1 = 0 then (
      some (1, q_3.2)) else (
      if x1 = x2 then (
        some (2, q_3.2)) else (
        if x3 < 1 then (
          some (2, q_3.2)) else (
          if x3 ≤ 20 then (
            if (16 : Int32) ≤ (gI q_3.2 t0 1) then (
              some (3, q_3.2)) else (
              some (0, q_3.2))) else (
            some (2, q_3.2))))))
abbrev rmX3_trunkProblem : Room := { frames := 1, cells := 0, slots := 0, locals := 21 }
set_option maxHeartbeats 4000000 in
set_option maxRecDepth 100000 in
theorem kX3_trunkProblem {l : Launch} {D : va_G} {dA : Nat → ClassId} {sa : String → Nat → Nat} {a : Nat → Nat} (hl : l.stackTraces = false) {t0 : Nat} {x1 : Int32} {x2 : Int32} {x3 : Int32} {Z Z' : ZZ} {v : Int32} (hX : sX3_trunkProblem t0 x1 x2 x3 Z = some (v, Z')) : CTi l D dA sa yX3_trunkProblem (wz yX3_trunkProblem cX3_trunkProblem 4 (some .int)) rmX3_trunkProblem [.ref (a t0), .int x1, .int x2, .int x3] (cwC dA a Z) v (cwC dA a Z') := by
  refine xm_i hl (by decide +kernel) (Nat.le_of_ble_eq_true rfl) rfl ?_
  intro p e s m args below meth c A Q hC hR
  unfold sX3_trunkProblem at hX
  obtain ⟨g0, hX⟩ := gd_some hX
  show xv p l e rmX3_trunkProblem s m args below meth c D A 4 Q (cwC dA a Z) 0 0 0 [(0, .ref (a t0)), (1, .int x1), (2, .int x2), (3, .int x3)] []
  refine xv_aload_n (pc := 0) hC dX3_trunkProblem_0 0 rfl rfl ?_
  refine xv_iload_n (pc := 1) hC dX3_trunkProblem_1 1 rfl rfl ?_
  obtain ⟨q_1, hq_1, hX⟩ := bnd_some hX
  refine xv_callVi0 (As := [.int x1]) (pc := 2) hC (kX3_hasSwitch hl hq_1) fV_X3_hasSwitch wf_901 (rc_X3 g0) rfl ⟨Nat.le_of_ble_eq_true rfl, Nat.le_of_ble_eq_true rfl⟩ rfl (Nat.le_of_ble_eq_true rfl) dX3_trunkProblem_2 ⟨Nat.le_of_ble_eq_true rfl, Nat.le_of_ble_eq_true rfl⟩ ?_
  refine xv_if_eq (tgt := 16) (pc := 5) hC dX3_trunkProblem_5 (by decide) (fun c_2 => ?_) (fun c_2 => ?_)
  · replace hX := if_t c_2 hX
    refine xv_iconst (v := 1) (pc := 16) hC dX3_trunkProblem_16 (by decide) ?_
    obtain ⟨h1, h2⟩ := some_pair hX
    exact xv_eqi (W := cwC dA a) h1 h2 (hR _ _ _ _ (Nat.le_of_ble_eq_true rfl) (Nat.le_of_ble_eq_true rfl) dX3_trunkProblem_17)
  · replace hX := if_f c_2 hX
    refine xv_aload_n (pc := 8) hC dX3_trunkProblem_8 0 rfl rfl ?_
    refine xv_iload_n (pc := 9) hC dX3_trunkProblem_9 2 rfl rfl ?_
    obtain ⟨q_3, hq_3, hX⟩ := bnd_some hX
    refine xv_callVi0 (As := [.int x2]) (pc := 10) hC (kX3_hasSwitch hl hq_3) fV_X3_hasSwitch wf_901 (rc_X3 g0) rfl ⟨Nat.le_of_ble_eq_true rfl, Nat.le_of_ble_eq_true rfl⟩ rfl (Nat.le_of_ble_eq_true rfl) dX3_trunkProblem_10 ⟨Nat.le_of_ble_eq_true rfl, Nat.le_of_ble_eq_true rfl⟩ ?_
    refine xv_if_ne (tgt := 18) (pc := 13) hC dX3_trunkProblem_13 (by decide) (fun c_4 => ?_) (fun c_4 => ?_)
    · replace hX := if_f c_4 hX
      refine xv_iload_n (pc := 18) hC dX3_trunkProblem_18 1 rfl rfl ?_
      refine xv_iload_n (pc := 19) hC dX3_trunkProblem_19 2 rfl rfl ?_
      refine xv_icmp_eq (tgt := 34) (pc := 20) hC dX3_trunkProblem_20 (by decide) (fun c_5 => ?_) (fun c_5 => ?_)
      · replace hX := if_t c_5 hX
        refine xv_iconst (v := 2) (pc := 34) hC dX3_trunkProblem_34 (by decide) ?_
        obtain ⟨h1, h2⟩ := some_pair hX
        exact xv_eqi (W := cwC dA a) h1 h2 (hR _ _ _ _ (Nat.le_of_ble_eq_true rfl) (Nat.le_of_ble_eq_true rfl) dX3_trunkProblem_35)
      · replace hX := if_f c_5 hX
        refine xv_iload_n (pc := 23) hC dX3_trunkProblem_23 3 rfl rfl ?_
        refine xv_iconst (v := 1) (pc := 24) hC dX3_trunkProblem_24 (by decide) ?_
        refine xv_icmp_lt (tgt := 34) (pc := 25) hC dX3_trunkProblem_25 (by decide) (fun c_6 => ?_) (fun c_6 => ?_)
        · replace hX := if_t c_6 hX
          refine xv_iconst (v := 2) (pc := 34) hC dX3_trunkProblem_34 (by decide) ?_
          obtain ⟨h1, h2⟩ := some_pair hX
          exact xv_eqi (W := cwC dA a) h1 h2 (hR _ _ _ _ (Nat.le_of_ble_eq_true rfl) (Nat.le_of_ble_eq_true rfl) dX3_trunkProblem_35)
        · replace hX := if_f c_6 hX
          refine xv_iload_n (pc := 28) hC dX3_trunkProblem_28 3 rfl rfl ?_
          refine xv_bipush (v := 20) (pc := 29) hC dX3_trunkProblem_29 (by decide) ?_
          refine xv_icmp_le (tgt := 36) (pc := 31) hC dX3_trunkProblem_31 (by decide) (fun c_7 => ?_) (fun c_7 => ?_)
          · replace hX := if_t c_7 hX
            refine xv_aload_n (pc := 36) hC dX3_trunkProblem_36 0 rfl rfl ?_
            refine xgX3 (v := .int (gI q_3.2 t0 1)) (pc := 37) hC dX3_trunkProblem_37 g0 1 (by decide) wf_57 rfl ?_
            refine xv_bipush (v := 16) (pc := 40) hC dX3_trunkProblem_40 (by decide) ?_
            refine xv_icmp_ge (tgt := 49) (pc := 42) hC dX3_trunkProblem_42 (by decide) (fun c_8 => ?_) (fun c_8 => ?_)
            · replace hX := if_t c_8 hX
              refine xv_iconst (v := 3) (pc := 49) hC dX3_trunkProblem_49 (by decide) ?_
              obtain ⟨h1, h2⟩ := some_pair hX
              exact xv_eqi (W := cwC dA a) h1 h2 (hR _ _ _ _ (Nat.le_of_ble_eq_true rfl) (Nat.le_of_ble_eq_true rfl) dX3_trunkProblem_50)
            · replace hX := if_f c_8 hX
              refine xv_iconst (v := 0) (pc := 45) hC dX3_trunkProblem_45 (by decide) ?_
              refine xv_goto (tgt := 50) (pc := 46) hC dX3_trunkProblem_46 (by decide) ?_
              obtain ⟨h1, h2⟩ := some_pair hX
              exact xv_eqi (W := cwC dA a) h1 h2 (hR _ _ _ _ (Nat.le_of_ble_eq_true rfl) (Nat.le_of_ble_eq_true rfl) dX3_trunkProblem_50)
          · replace hX := if_f c_7 hX
            refine xv_iconst (v := 2) (pc := 34) hC dX3_trunkProblem_34 (by decide) ?_
            obtain ⟨h1, h2⟩ := some_pair hX
            exact xv_eqi (W := cwC dA a) h1 h2 (hR _ _ _ _ (Nat.le_of_ble_eq_true rfl) (Nat.le_of_ble_eq_true rfl) dX3_trunkProblem_35)
    · replace hX := if_t c_4 hX
      refine xv_iconst (v := 1) (pc := 16) hC dX3_trunkProblem_16 (by decide) ?_
      obtain ⟨h1, h2⟩ := some_pair hX
      exact xv_eqi (W := cwC dA a) h1 h2 (hR _ _ _ _ (Nat.le_of_ble_eq_true rfl) (Nat.le_of_ble_eq_true rfl) dX3_trunkProblem_17)
def sX7_hasBit (x0 : Int32) (x1 : Int32) (Z : ZZ) : Option (Int32 × ZZ) :=
  if ((x0 >>> (x1 &&& 31)) &&& 1) = 0 then (
    some (0, Z)) else (
    some (1, Z))
abbrev rmX7_hasBit : Room := { frames := 0, cells := 0, slots := 0, locals := 0 }
set_option maxHeartbeats 4000000 in
set_option maxRecDepth 100000 in
theorem kX7_hasBit {l : Launch} {D : va_G} {dA : Nat → ClassId} {sa : String → Nat → Nat} {a : Nat → Nat} (hl : l.stackTraces = false) {x0 : Int32} {x1 : Int32} {Z Z' : ZZ} {v : Int32} (hX : sX7_hasBit x0 x1 Z = some (v, Z')) : CTi l D dA sa yX7_hasBit (wz yX7_hasBit cX7_hasBit 2 (some .boolean)) rmX7_hasBit [.int x0, .int x1] (cwC dA a Z) v (cwC dA a Z') := by
  refine xm_z hl (by decide +kernel) (Nat.le_of_ble_eq_true rfl) rfl ?_
  intro p e s m args below meth c A Q hC hR
  unfold sX7_hasBit at hX
  show xv p l e rmX7_hasBit s m args below meth c D A 2 Q (cwC dA a Z) 0 0 0 [(0, .int x0), (1, .int x1)] []
  refine xv_iload_n (pc := 0) hC dX7_hasBit_0 0 rfl rfl ?_
  refine xv_iload_n (pc := 1) hC dX7_hasBit_1 1 rfl rfl ?_
  refine xv_ishr (pc := 2) hC dX7_hasBit_2 ?_
  refine xv_iconst (v := 1) (pc := 3) hC dX7_hasBit_3 (by decide) ?_
  refine xv_iand (pc := 4) hC dX7_hasBit_4 ?_
  refine xv_if_eq (tgt := 12) (pc := 5) hC dX7_hasBit_5 (by decide) (fun c_1 => ?_) (fun c_1 => ?_)
  · replace hX := if_t c_1 hX
    refine xv_iconst (v := 0) (pc := 12) hC dX7_hasBit_12 (by decide) ?_
    obtain ⟨h1, h2⟩ := some_pair hX
    exact xv_eqi (W := cwC dA a) h1 h2 (hR _ _ _ _ (by rw [← h1]; exact (by decide)) (Nat.le_of_ble_eq_true rfl) (Nat.le_of_ble_eq_true rfl) dX7_hasBit_13)
  · replace hX := if_f c_1 hX
    refine xv_iconst (v := 1) (pc := 8) hC dX7_hasBit_8 (by decide) ?_
    refine xv_goto (tgt := 13) (pc := 9) hC dX7_hasBit_9 (by decide) ?_
    obtain ⟨h1, h2⟩ := some_pair hX
    exact xv_eqi (W := cwC dA a) h1 h2 (hR _ _ _ _ (by rw [← h1]; exact (by decide)) (Nat.le_of_ble_eq_true rfl) (Nat.le_of_ble_eq_true rfl) dX7_hasBit_13)
def sX3_repairProblem (t0 : Nat) (x1 : Int32) (x2 : Int32) (Z : ZZ) : Option (Int32 × ZZ) :=
  gd (shC t0 = 14) <|
  bnd (sX3_hasTrunk t0 x1 Z) <| fun q_1 =>
  if q_1.1 = 0 then (
    some (1, q_1.2)) else (
    bnd (sX7_hasBit (gI q_1.2 t0 6) x1 q_1.2) <| fun q_3 =>
    if q_3.1 = x2 then (
      some (0, q_3.2)) else (
      some (3, q_3.2)))
abbrev rmX3_repairProblem : Room := { frames := 1, cells := 0, slots := 0, locals := 21 }
set_option maxHeartbeats 4000000 in
set_option maxRecDepth 100000 in
theorem kX3_repairProblem {l : Launch} {D : va_G} {dA : Nat → ClassId} {sa : String → Nat → Nat} {a : Nat → Nat} (hl : l.stackTraces = false) {t0 : Nat} {x1 : Int32} {x2 : Int32} {Z Z' : ZZ} {v : Int32} (hX : sX3_repairProblem t0 x1 x2 Z = some (v, Z')) : CTi l D dA sa yX3_repairProblem (wz yX3_repairProblem cX3_repairProblem 3 (some .int)) rmX3_repairProblem [.ref (a t0), .int x1, .int x2] (cwC dA a Z) v (cwC dA a Z') := by
  refine xm_i hl (by decide +kernel) (Nat.le_of_ble_eq_true rfl) rfl ?_
  intro p e s m args below meth c A Q hC hR
  unfold sX3_repairProblem at hX
  obtain ⟨g0, hX⟩ := gd_some hX
  show xv p l e rmX3_repairProblem s m args below meth c D A 3 Q (cwC dA a Z) 0 0 0 [(0, .ref (a t0)), (1, .int x1), (2, .int x2)] []
  refine xv_aload_n (pc := 0) hC dX3_repairProblem_0 0 rfl rfl ?_
  refine xv_iload_n (pc := 1) hC dX3_repairProblem_1 1 rfl rfl ?_
  obtain ⟨q_1, hq_1, hX⟩ := bnd_some hX
  refine xv_callVi0 (As := [.int x1]) (pc := 2) hC (kX3_hasTrunk hl hq_1) fV_X3_hasTrunk wf_953 (rc_X3 g0) rfl ⟨Nat.le_of_ble_eq_true rfl, Nat.le_of_ble_eq_true rfl⟩ rfl (Nat.le_of_ble_eq_true rfl) dX3_repairProblem_2 ⟨Nat.le_of_ble_eq_true rfl, Nat.le_of_ble_eq_true rfl⟩ ?_
  refine xv_if_ne (tgt := 10) (pc := 5) hC dX3_repairProblem_5 (by decide) (fun c_2 => ?_) (fun c_2 => ?_)
  · replace hX := if_f c_2 hX
    refine xv_aload_n (pc := 10) hC dX3_repairProblem_10 0 rfl rfl ?_
    refine xgX3 (v := .int (gI q_1.2 t0 6)) (pc := 11) hC dX3_repairProblem_11 g0 6 (by decide) wf_70 rfl ?_
    refine xv_iload_n (pc := 14) hC dX3_repairProblem_14 1 rfl rfl ?_
    obtain ⟨q_3, hq_3, hX⟩ := bnd_some hX
    refine xv_callNi0 (As := [.int (gI q_1.2 t0 6), .int x1]) (host := "Switchboard") (pc := 15) hC (kX7_hasBit hl hq_3) fS_X7_hasBit (by decide +kernel) rfl ⟨Nat.le_of_ble_eq_true rfl, Nat.le_of_ble_eq_true rfl⟩ rfl (Nat.le_of_ble_eq_true rfl) dX3_repairProblem_15 ⟨Nat.le_of_ble_eq_true rfl, Nat.le_of_ble_eq_true rfl⟩ ?_
    refine xv_iload_n (pc := 18) hC dX3_repairProblem_18 2 rfl rfl ?_
    refine xv_icmp_ne (tgt := 26) (pc := 19) hC dX3_repairProblem_19 (by decide) (fun c_4 => ?_) (fun c_4 => ?_)
    · replace hX := if_f c_4 hX
      refine xv_iconst (v := 3) (pc := 26) hC dX3_repairProblem_26 (by decide) ?_
      obtain ⟨h1, h2⟩ := some_pair hX
      exact xv_eqi (W := cwC dA a) h1 h2 (hR _ _ _ _ (Nat.le_of_ble_eq_true rfl) (Nat.le_of_ble_eq_true rfl) dX3_repairProblem_27)
    · replace hX := if_t c_4 hX
      refine xv_iconst (v := 0) (pc := 22) hC dX3_repairProblem_22 (by decide) ?_
      refine xv_goto (tgt := 27) (pc := 23) hC dX3_repairProblem_23 (by decide) ?_
      obtain ⟨h1, h2⟩ := some_pair hX
      exact xv_eqi (W := cwC dA a) h1 h2 (hR _ _ _ _ (Nat.le_of_ble_eq_true rfl) (Nat.le_of_ble_eq_true rfl) dX3_repairProblem_27)
  · replace hX := if_t c_2 hX
    refine xv_iconst (v := 1) (pc := 8) hC dX3_repairProblem_8 (by decide) ?_
    obtain ⟨h1, h2⟩ := some_pair hX
    exact xv_eqi (W := cwC dA a) h1 h2 (hR _ _ _ _ (Nat.le_of_ble_eq_true rfl) (Nat.le_of_ble_eq_true rfl) dX3_repairProblem_9)
def sX3_attachSwitch (t0 : Nat) (Z : ZZ) : Option (Int32 × ZZ) :=
  gd (shC t0 = 14) <|
  nm (pI Z t0 0 ((gI Z t0 0) + 1)) <| fun Z_1 =>
  some (gI Z t0 0, Z_1)
abbrev rmX3_attachSwitch : Room := { frames := 0, cells := 0, slots := 0, locals := 0 }
set_option maxHeartbeats 4000000 in
set_option maxRecDepth 100000 in
theorem kX3_attachSwitch {l : Launch} {D : va_G} {dA : Nat → ClassId} {sa : String → Nat → Nat} {a : Nat → Nat} (hl : l.stackTraces = false) {t0 : Nat} {Z Z' : ZZ} {v : Int32} (hX : sX3_attachSwitch t0 Z = some (v, Z')) : CTi l D dA sa yX3_attachSwitch (wz yX3_attachSwitch cX3_attachSwitch 1 (some .int)) rmX3_attachSwitch [.ref (a t0)] (cwC dA a Z) v (cwC dA a Z') := by
  refine xm_i hl (by decide +kernel) (Nat.le_of_ble_eq_true rfl) rfl ?_
  intro p e s m args below meth c A Q hC hR
  unfold sX3_attachSwitch at hX
  obtain ⟨g0, hX⟩ := gd_some hX
  show xv p l e rmX3_attachSwitch s m args below meth c D A 1 Q (cwC dA a Z) 0 0 0 [(0, .ref (a t0))] []
  refine xv_aload_n (pc := 0) hC dX3_attachSwitch_0 0 rfl rfl ?_
  refine xv_dup (pc := 1) hC dX3_attachSwitch_1 rfl ?_
  refine xgX3 (v := .int (gI Z t0 0)) (pc := 2) hC dX3_attachSwitch_2 g0 0 (by decide) wf_53 rfl ?_
  refine xv_dup_x1 (pc := 5) hC dX3_attachSwitch_5 rfl rfl ?_
  refine xv_iconst (v := 1) (pc := 6) hC dX3_attachSwitch_6 (by decide) ?_
  refine xv_iadd (pc := 7) hC dX3_attachSwitch_7 ?_
  obtain ⟨Z_1, hZ_1, hX⟩ := nm_some hX
  refine xpX3 (ty := .int) (pc := 8) hC dX3_attachSwitch_8 g0 0 (by decide) wf_53 rfl (by decide +kernel) rfl rfl rfl hZ_1 ?_
  obtain ⟨h1, h2⟩ := some_pair hX
  exact xv_eqi (W := cwC dA a) h1 h2 (hR _ _ _ _ (Nat.le_of_ble_eq_true rfl) (Nat.le_of_ble_eq_true rfl) dX3_attachSwitch_11)
def sX3_attachTrunk (t0 : Nat) (x1 : Int32) (x2 : Int32) (x3 : Int32) (Z : ZZ) : Option (Int32 × ZZ) :=
  gd (shC t0 = 14) <|
  nm (gI Z t0 1) <| fun y_1 =>
  if y_1 < 16 then (
    gd (vin y_1 16 = true) <|
    nm (pI Z (t0 + 1) y_1.toNatClampNeg x1) <| fun Z_4 =>
    gd (vin y_1 16 = true) <|
    nm (pI Z_4 (t0 + 2) y_1.toNatClampNeg x2) <| fun Z_6 =>
    gd (vin y_1 16 = true) <|
    nm (pI Z_6 (t0 + 3) y_1.toNatClampNeg x3) <| fun Z_8 =>
    nm (pI Z_8 t0 1 ((gI Z_8 t0 1) + 1)) <| fun Z_9 =>
    some (y_1, Z_9)) else (
    some ((-1), Z))
abbrev rmX3_attachTrunk : Room := { frames := 0, cells := 0, slots := 0, locals := 0 }
set_option maxHeartbeats 4000000 in
set_option maxRecDepth 100000 in
theorem kX3_attachTrunk {l : Launch} {D : va_G} {dA : Nat → ClassId} {sa : String → Nat → Nat} {a : Nat → Nat} (hl : l.stackTraces = false) {t0 : Nat} {x1 : Int32} {x2 : Int32} {x3 : Int32} {Z Z' : ZZ} {v : Int32} (hX : sX3_attachTrunk t0 x1 x2 x3 Z = some (v, Z')) : CTi l D dA sa yX3_attachTrunk (wz yX3_attachTrunk cX3_attachTrunk 5 (some .int)) rmX3_attachTrunk [.ref (a t0), .int x1, .int x2, .int x3] (cwC dA a Z) v (cwC dA a Z') := by
  refine xm_i hl (by decide +kernel) (Nat.le_of_ble_eq_true rfl) rfl ?_
  intro p e s m args below meth c A Q hC hR
  unfold sX3_attachTrunk at hX
  obtain ⟨g0, hX⟩ := gd_some hX
  show xv p l e rmX3_attachTrunk s m args below meth c D A 5 Q (cwC dA a Z) 0 0 0 [(0, .ref (a t0)), (1, .int x1), (2, .int x2), (3, .int x3)] []
  refine xv_aload_n (pc := 0) hC dX3_attachTrunk_0 0 rfl rfl ?_
  refine xgX3 (v := .int (gI Z t0 1)) (pc := 1) hC dX3_attachTrunk_1 g0 1 (by decide) wf_57 rfl ?_
  obtain ⟨y_1, hy_1, hX⟩ := nm_some hX
  refine xv_nmi hy_1 ?_
  refine xv_istore (pc := 4) (lv' := [(4, .int y_1), (0, .ref (a t0)), (1, .int x1), (2, .int x2), (3, .int x3)]) hC dX3_attachTrunk_4 (by decide) rfl ?_
  refine xv_iload (pc := 6) hC dX3_attachTrunk_6 0 rfl ?_
  refine xv_bipush (v := 16) (pc := 8) hC dX3_attachTrunk_8 (by decide) ?_
  refine xv_icmp_lt (tgt := 15) (pc := 10) hC dX3_attachTrunk_10 (by decide) (fun c_2 => ?_) (fun c_2 => ?_)
  · replace hX := if_t c_2 hX
    refine xv_aload_n (pc := 15) hC dX3_attachTrunk_15 1 rfl rfl ?_
    refine xgX3 (v := .ref (a (t0 + 1))) (pc := 16) hC dX3_attachTrunk_16 g0 2 (by decide) wf_59 rfl ?_
    refine xv_iload (pc := 19) hC dX3_attachTrunk_19 0 rfl ?_
    refine xv_iload_n (pc := 21) hC dX3_attachTrunk_21 2 rfl rfl ?_
    obtain ⟨h_3, hX⟩ := gd_some hX
    obtain ⟨Z_4, hZ_4, hX⟩ := nm_some hX
    refine xs_C12 (pc := 22) hC dX3_attachTrunk_22 (sh_X3_ones g0) h_3 hZ_4 ?_
    refine xv_aload_n (pc := 23) hC dX3_attachTrunk_23 1 rfl rfl ?_
    refine xgX3 (v := .ref (a (t0 + 2))) (pc := 24) hC dX3_attachTrunk_24 g0 3 (by decide) wf_62 rfl ?_
    refine xv_iload (pc := 27) hC dX3_attachTrunk_27 0 rfl ?_
    refine xv_iload_n (pc := 29) hC dX3_attachTrunk_29 3 rfl rfl ?_
    obtain ⟨h_5, hX⟩ := gd_some hX
    obtain ⟨Z_6, hZ_6, hX⟩ := nm_some hX
    refine xs_C12 (pc := 30) hC dX3_attachTrunk_30 (sh_X3_others g0) h_5 hZ_6 ?_
    refine xv_aload_n (pc := 31) hC dX3_attachTrunk_31 1 rfl rfl ?_
    refine xgX3 (v := .ref (a (t0 + 3))) (pc := 32) hC dX3_attachTrunk_32 g0 4 (by decide) wf_65 rfl ?_
    refine xv_iload (pc := 35) hC dX3_attachTrunk_35 0 rfl ?_
    refine xv_iload_n (pc := 37) hC dX3_attachTrunk_37 4 rfl rfl ?_
    obtain ⟨h_7, hX⟩ := gd_some hX
    obtain ⟨Z_8, hZ_8, hX⟩ := nm_some hX
    refine xs_C12 (pc := 38) hC dX3_attachTrunk_38 (sh_X3_lengths g0) h_7 hZ_8 ?_
    refine xv_aload_n (pc := 39) hC dX3_attachTrunk_39 1 rfl rfl ?_
    refine xv_dup (pc := 40) hC dX3_attachTrunk_40 rfl ?_
    refine xgX3 (v := .int (gI Z_8 t0 1)) (pc := 41) hC dX3_attachTrunk_41 g0 1 (by decide) wf_57 rfl ?_
    refine xv_iconst (v := 1) (pc := 44) hC dX3_attachTrunk_44 (by decide) ?_
    refine xv_iadd (pc := 45) hC dX3_attachTrunk_45 ?_
    obtain ⟨Z_9, hZ_9, hX⟩ := nm_some hX
    refine xpX3 (ty := .int) (pc := 46) hC dX3_attachTrunk_46 g0 1 (by decide) wf_57 rfl (by decide +kernel) rfl rfl rfl hZ_9 ?_
    refine xv_iload (pc := 49) hC dX3_attachTrunk_49 0 rfl ?_
    obtain ⟨h1, h2⟩ := some_pair hX
    exact xv_eqi (W := cwC dA a) h1 h2 (hR _ _ _ _ (Nat.le_of_ble_eq_true rfl) (Nat.le_of_ble_eq_true rfl) dX3_attachTrunk_51)
  · replace hX := if_f c_2 hX
    refine xv_iconst (v := (-1)) (pc := 13) hC dX3_attachTrunk_13 (by decide) ?_
    obtain ⟨h1, h2⟩ := some_pair hX
    exact xv_eqi (W := cwC dA a) h1 h2 (hR _ _ _ _ (Nat.le_of_ble_eq_true rfl) (Nat.le_of_ble_eq_true rfl) dX3_attachTrunk_14)
def sX7_bit (x0 : Int32) (Z : ZZ) : Option (Int32 × ZZ) :=
  some (1 <<< (x0 &&& 31), Z)
abbrev rmX7_bit : Room := { frames := 0, cells := 0, slots := 0, locals := 0 }
set_option maxHeartbeats 4000000 in
set_option maxRecDepth 100000 in
theorem kX7_bit {l : Launch} {D : va_G} {dA : Nat → ClassId} {sa : String → Nat → Nat} {a : Nat → Nat} (hl : l.stackTraces = false) {x0 : Int32} {Z Z' : ZZ} {v : Int32} (hX : sX7_bit x0 Z = some (v, Z')) : CTi l D dA sa yX7_bit (wz yX7_bit cX7_bit 1 (some .int)) rmX7_bit [.int x0] (cwC dA a Z) v (cwC dA a Z') := by
  refine xm_i hl (by decide +kernel) (Nat.le_of_ble_eq_true rfl) rfl ?_
  intro p e s m args below meth c A Q hC hR
  unfold sX7_bit at hX
  show xv p l e rmX7_bit s m args below meth c D A 1 Q (cwC dA a Z) 0 0 0 [(0, .int x0)] []
  refine xv_iconst (v := 1) (pc := 0) hC dX7_bit_0 (by decide) ?_
  refine xv_iload_n (pc := 1) hC dX7_bit_1 0 rfl rfl ?_
  refine xv_ishl (pc := 2) hC dX7_bit_2 ?_
  obtain ⟨h1, h2⟩ := some_pair hX
  exact xv_eqi (W := cwC dA a) h1 h2 (hR _ _ _ _ (Nat.le_of_ble_eq_true rfl) (Nat.le_of_ble_eq_true rfl) dX7_bit_3)
def sJ_bitCount (x0 : Int32) (Z : ZZ) : Option (Int32 × ZZ) :=
  nm (x0 - ((iush x0 1) &&& 1431655765)) <| fun y_1 =>
  nm ((y_1 &&& 858993459) + ((iush y_1 2) &&& 858993459)) <| fun y_2 =>
  nm ((y_2 + (iush y_2 4)) &&& 252645135) <| fun y_3 =>
  nm (y_3 + (iush y_3 8)) <| fun y_4 =>
  nm (y_4 + (iush y_4 16)) <| fun y_5 =>
  some (y_5 &&& 63, Z)
abbrev rmJ_bitCount : Room := { frames := 0, cells := 0, slots := 0, locals := 0 }
set_option maxHeartbeats 4000000 in
set_option maxRecDepth 100000 in
theorem kJ_bitCount {l : Launch} {D : va_G} {dA : Nat → ClassId} {sa : String → Nat → Nat} {a : Nat → Nat} (hl : l.stackTraces = false) {x0 : Int32} {Z Z' : ZZ} {v : Int32} (hX : sJ_bitCount x0 Z = some (v, Z')) : CTi l D dA sa ⟨"java/lang/Integer", "bitCount", "(I)I"⟩ (wz ⟨"java/lang/Integer", "bitCount", "(I)I"⟩ prog_23_method_49_code 1 (some .int)) rmJ_bitCount [.int x0] (cwC dA a Z) v (cwC dA a Z') := by
  refine xm_i hl (by decide +kernel) (Nat.le_of_ble_eq_true rfl) rfl ?_
  intro p e s m args below meth c A Q hC hR
  unfold sJ_bitCount at hX
  show xv p l e rmJ_bitCount s m args below meth c D A 1 Q (cwC dA a Z) 0 0 0 [(0, .int x0)] []
  refine xv_iload_n (pc := 0) hC dJ_bitCount_0 0 rfl rfl ?_
  refine xv_iload_n (pc := 1) hC dJ_bitCount_1 0 rfl rfl ?_
  refine xv_iconst (v := 1) (pc := 2) hC dJ_bitCount_2 (by decide) ?_
  refine xv_iushr (pc := 3) hC dJ_bitCount_3 ?_
  refine xv_ldcw (v := 1431655765) (pc := 4) hC dJ_bitCount_4 wf_1067 ?_
  refine xv_iand (pc := 7) hC dJ_bitCount_7 ?_
  refine xv_isub (pc := 8) hC dJ_bitCount_8 ?_
  obtain ⟨y_1, hy_1, hX⟩ := nm_some hX
  refine xv_nmi hy_1 ?_
  refine xv_istore_n (pc := 9) (lv' := [(0, .int y_1)]) hC dJ_bitCount_9 rfl (by decide) rfl ?_
  refine xv_iload_n (pc := 10) hC dJ_bitCount_10 0 rfl rfl ?_
  refine xv_ldcw (v := 858993459) (pc := 11) hC dJ_bitCount_11 wf_1068 ?_
  refine xv_iand (pc := 14) hC dJ_bitCount_14 ?_
  refine xv_iload_n (pc := 15) hC dJ_bitCount_15 0 rfl rfl ?_
  refine xv_iconst (v := 2) (pc := 16) hC dJ_bitCount_16 (by decide) ?_
  refine xv_iushr (pc := 17) hC dJ_bitCount_17 ?_
  refine xv_ldcw (v := 858993459) (pc := 18) hC dJ_bitCount_18 wf_1068 ?_
  refine xv_iand (pc := 21) hC dJ_bitCount_21 ?_
  refine xv_iadd (pc := 22) hC dJ_bitCount_22 ?_
  obtain ⟨y_2, hy_2, hX⟩ := nm_some hX
  refine xv_nmi hy_2 ?_
  refine xv_istore_n (pc := 23) (lv' := [(0, .int y_2)]) hC dJ_bitCount_23 rfl (by decide) rfl ?_
  refine xv_iload_n (pc := 24) hC dJ_bitCount_24 0 rfl rfl ?_
  refine xv_iload_n (pc := 25) hC dJ_bitCount_25 0 rfl rfl ?_
  refine xv_iconst (v := 4) (pc := 26) hC dJ_bitCount_26 (by decide) ?_
  refine xv_iushr (pc := 27) hC dJ_bitCount_27 ?_
  refine xv_iadd (pc := 28) hC dJ_bitCount_28 ?_
  refine xv_ldcw (v := 252645135) (pc := 29) hC dJ_bitCount_29 wf_1069 ?_
  refine xv_iand (pc := 32) hC dJ_bitCount_32 ?_
  obtain ⟨y_3, hy_3, hX⟩ := nm_some hX
  refine xv_nmi hy_3 ?_
  refine xv_istore_n (pc := 33) (lv' := [(0, .int y_3)]) hC dJ_bitCount_33 rfl (by decide) rfl ?_
  refine xv_iload_n (pc := 34) hC dJ_bitCount_34 0 rfl rfl ?_
  refine xv_iload_n (pc := 35) hC dJ_bitCount_35 0 rfl rfl ?_
  refine xv_bipush (v := 8) (pc := 36) hC dJ_bitCount_36 (by decide) ?_
  refine xv_iushr (pc := 38) hC dJ_bitCount_38 ?_
  refine xv_iadd (pc := 39) hC dJ_bitCount_39 ?_
  obtain ⟨y_4, hy_4, hX⟩ := nm_some hX
  refine xv_nmi hy_4 ?_
  refine xv_istore_n (pc := 40) (lv' := [(0, .int y_4)]) hC dJ_bitCount_40 rfl (by decide) rfl ?_
  refine xv_iload_n (pc := 41) hC dJ_bitCount_41 0 rfl rfl ?_
  refine xv_iload_n (pc := 42) hC dJ_bitCount_42 0 rfl rfl ?_
  refine xv_bipush (v := 16) (pc := 43) hC dJ_bitCount_43 (by decide) ?_
  refine xv_iushr (pc := 45) hC dJ_bitCount_45 ?_
  refine xv_iadd (pc := 46) hC dJ_bitCount_46 ?_
  obtain ⟨y_5, hy_5, hX⟩ := nm_some hX
  refine xv_nmi hy_5 ?_
  refine xv_istore_n (pc := 47) (lv' := [(0, .int y_5)]) hC dJ_bitCount_47 rfl (by decide) rfl ?_
  refine xv_iload_n (pc := 48) hC dJ_bitCount_48 0 rfl rfl ?_
  refine xv_bipush (v := 63) (pc := 49) hC dJ_bitCount_49 (by decide) ?_
  refine xv_iand (pc := 51) hC dJ_bitCount_51 ?_
  obtain ⟨h1, h2⟩ := some_pair hX
  exact xv_eqi (W := cwC dA a) h1 h2 (hR _ _ _ _ (Nat.le_of_ble_eq_true rfl) (Nat.le_of_ble_eq_true rfl) dJ_bitCount_52)
def sX3_repairTrunk (t0 : Nat) (x1 : Int32) (Z : ZZ) : Option (Int32 × ZZ) :=
  gd (shC t0 = 14) <|
  bnd (sX7_bit x1 Z) <| fun q_1 =>
  nm (pI q_1.2 t0 6 ((gI Z t0 6) &&& (q_1.1 ^^^ (-1)))) <| fun Z_2 =>
  bnd (sJ_bitCount (gI Z_2 t0 6) Z_2) <| fun q_3 =>
  some (q_3.1, q_3.2)
abbrev rmX3_repairTrunk : Room := { frames := 1, cells := 0, slots := 0, locals := 20 }
set_option maxHeartbeats 4000000 in
set_option maxRecDepth 100000 in
theorem kX3_repairTrunk {l : Launch} {D : va_G} {dA : Nat → ClassId} {sa : String → Nat → Nat} {a : Nat → Nat} (hl : l.stackTraces = false) {t0 : Nat} {x1 : Int32} {Z Z' : ZZ} {v : Int32} (hX : sX3_repairTrunk t0 x1 Z = some (v, Z')) : CTi l D dA sa yX3_repairTrunk (wz yX3_repairTrunk cX3_repairTrunk 2 (some .int)) rmX3_repairTrunk [.ref (a t0), .int x1] (cwC dA a Z) v (cwC dA a Z') := by
  refine xm_i hl (by decide +kernel) (Nat.le_of_ble_eq_true rfl) rfl ?_
  intro p e s m args below meth c A Q hC hR
  unfold sX3_repairTrunk at hX
  obtain ⟨g0, hX⟩ := gd_some hX
  show xv p l e rmX3_repairTrunk s m args below meth c D A 2 Q (cwC dA a Z) 0 0 0 [(0, .ref (a t0)), (1, .int x1)] []
  refine xv_aload_n (pc := 0) hC dX3_repairTrunk_0 0 rfl rfl ?_
  refine xv_dup (pc := 1) hC dX3_repairTrunk_1 rfl ?_
  refine xgX3 (v := .int (gI Z t0 6)) (pc := 2) hC dX3_repairTrunk_2 g0 6 (by decide) wf_70 rfl ?_
  refine xv_iload_n (pc := 5) hC dX3_repairTrunk_5 1 rfl rfl ?_
  obtain ⟨q_1, hq_1, hX⟩ := bnd_some hX
  refine xv_callNi0 (As := [.int x1]) (host := "Switchboard") (pc := 6) hC (kX7_bit hl hq_1) fS_X7_bit (by decide +kernel) rfl ⟨Nat.le_of_ble_eq_true rfl, Nat.le_of_ble_eq_true rfl⟩ rfl (Nat.le_of_ble_eq_true rfl) dX3_repairTrunk_6 ⟨Nat.le_of_ble_eq_true rfl, Nat.le_of_ble_eq_true rfl⟩ ?_
  refine xv_iconst (v := (-1)) (pc := 9) hC dX3_repairTrunk_9 (by decide) ?_
  refine xv_ixor (pc := 10) hC dX3_repairTrunk_10 ?_
  refine xv_iand (pc := 11) hC dX3_repairTrunk_11 ?_
  obtain ⟨Z_2, hZ_2, hX⟩ := nm_some hX
  refine xpX3 (ty := .int) (pc := 12) hC dX3_repairTrunk_12 g0 6 (by decide) wf_70 rfl (by decide +kernel) rfl rfl rfl hZ_2 ?_
  refine xv_aload_n (pc := 15) hC dX3_repairTrunk_15 0 rfl rfl ?_
  refine xgX3 (v := .int (gI Z_2 t0 6)) (pc := 16) hC dX3_repairTrunk_16 g0 6 (by decide) wf_70 rfl ?_
  obtain ⟨q_3, hq_3, hX⟩ := bnd_some hX
  refine xv_callSi0 (As := [.int (gI Z_2 t0 6)]) (pc := 19) hC (kJ_bitCount hl hq_3) fS_J6_bitCount_0f7a4 wf_1064 rfl ⟨Nat.le_of_ble_eq_true rfl, Nat.le_of_ble_eq_true rfl⟩ rfl (Nat.le_of_ble_eq_true rfl) dX3_repairTrunk_19 ⟨Nat.le_of_ble_eq_true rfl, Nat.le_of_ble_eq_true rfl⟩ ?_
  obtain ⟨h1, h2⟩ := some_pair hX
  exact xv_eqi (W := cwC dA a) h1 h2 (hR _ _ _ _ (Nat.le_of_ble_eq_true rfl) (Nat.le_of_ble_eq_true rfl) dX3_repairTrunk_22)
def sX3_acrossFrom (t0 : Nat) (x1 : Int32) (x2 : Int32) (Z : ZZ) : Option (Int32 × ZZ) :=
  gd (shC t0 = 14) <|
  if x1 < 0 then (
    some ((-1), Z)) else (
    if x1 < (gI Z t0 1) then (
      gd (vin x1 16 = true) <|
      if (gI Z (t0 + 1) x1.toNatClampNeg) = x2 then (
        gd (vin x1 16 = true) <|
        some (gI Z (t0 + 2) x1.toNatClampNeg, Z)) else (
        gd (vin x1 16 = true) <|
        if (gI Z (t0 + 2) x1.toNatClampNeg) = x2 then (
          gd (vin x1 16 = true) <|
          some (gI Z (t0 + 1) x1.toNatClampNeg, Z)) else (
          some ((-1), Z)))) else (
      some ((-1), Z)))
abbrev rmX3_acrossFrom : Room := { frames := 0, cells := 0, slots := 0, locals := 0 }
set_option maxHeartbeats 4000000 in
set_option maxRecDepth 100000 in
theorem kX3_acrossFrom {l : Launch} {D : va_G} {dA : Nat → ClassId} {sa : String → Nat → Nat} {a : Nat → Nat} (hl : l.stackTraces = false) {t0 : Nat} {x1 : Int32} {x2 : Int32} {Z Z' : ZZ} {v : Int32} (hX : sX3_acrossFrom t0 x1 x2 Z = some (v, Z')) : CTi l D dA sa yX3_acrossFrom (wz yX3_acrossFrom cX3_acrossFrom 3 (some .int)) rmX3_acrossFrom [.ref (a t0), .int x1, .int x2] (cwC dA a Z) v (cwC dA a Z') := by
  refine xm_i hl (by decide +kernel) (Nat.le_of_ble_eq_true rfl) rfl ?_
  intro p e s m args below meth c A Q hC hR
  unfold sX3_acrossFrom at hX
  obtain ⟨g0, hX⟩ := gd_some hX
  show xv p l e rmX3_acrossFrom s m args below meth c D A 3 Q (cwC dA a Z) 0 0 0 [(0, .ref (a t0)), (1, .int x1), (2, .int x2)] []
  refine xv_iload_n (pc := 0) hC dX3_acrossFrom_0 1 rfl rfl ?_
  refine xv_if_lt (tgt := 12) (pc := 1) hC dX3_acrossFrom_1 (by decide) (fun c_1 => ?_) (fun c_1 => ?_)
  · replace hX := if_t c_1 hX
    refine xv_iconst (v := (-1)) (pc := 12) hC dX3_acrossFrom_12 (by decide) ?_
    obtain ⟨h1, h2⟩ := some_pair hX
    exact xv_eqi (W := cwC dA a) h1 h2 (hR _ _ _ _ (Nat.le_of_ble_eq_true rfl) (Nat.le_of_ble_eq_true rfl) dX3_acrossFrom_13)
  · replace hX := if_f c_1 hX
    refine xv_iload_n (pc := 4) hC dX3_acrossFrom_4 1 rfl rfl ?_
    refine xv_aload_n (pc := 5) hC dX3_acrossFrom_5 0 rfl rfl ?_
    refine xgX3 (v := .int (gI Z t0 1)) (pc := 6) hC dX3_acrossFrom_6 g0 1 (by decide) wf_57 rfl ?_
    refine xv_icmp_lt (tgt := 14) (pc := 9) hC dX3_acrossFrom_9 (by decide) (fun c_2 => ?_) (fun c_2 => ?_)
    · replace hX := if_t c_2 hX
      refine xv_aload_n (pc := 14) hC dX3_acrossFrom_14 0 rfl rfl ?_
      refine xgX3 (v := .ref (a (t0 + 1))) (pc := 15) hC dX3_acrossFrom_15 g0 2 (by decide) wf_59 rfl ?_
      refine xv_iload_n (pc := 18) hC dX3_acrossFrom_18 1 rfl rfl ?_
      obtain ⟨h_3, hX⟩ := gd_some hX
      refine xl_C12 (pc := 19) hC dX3_acrossFrom_19 (sh_X3_ones g0) h_3 ?_
      refine xv_iload_n (pc := 20) hC dX3_acrossFrom_20 2 rfl rfl ?_
      refine xv_icmp_ne (tgt := 31) (pc := 21) hC dX3_acrossFrom_21 (by decide) (fun c_4 => ?_) (fun c_4 => ?_)
      · replace hX := if_f c_4 hX
        refine xv_aload_n (pc := 31) hC dX3_acrossFrom_31 0 rfl rfl ?_
        refine xgX3 (v := .ref (a (t0 + 2))) (pc := 32) hC dX3_acrossFrom_32 g0 3 (by decide) wf_62 rfl ?_
        refine xv_iload_n (pc := 35) hC dX3_acrossFrom_35 1 rfl rfl ?_
        obtain ⟨h_5, hX⟩ := gd_some hX
        refine xl_C12 (pc := 36) hC dX3_acrossFrom_36 (sh_X3_others g0) h_5 ?_
        refine xv_iload_n (pc := 37) hC dX3_acrossFrom_37 2 rfl rfl ?_
        refine xv_icmp_ne (tgt := 50) (pc := 38) hC dX3_acrossFrom_38 (by decide) (fun c_6 => ?_) (fun c_6 => ?_)
        · replace hX := if_f c_6 hX
          refine xv_iconst (v := (-1)) (pc := 50) hC dX3_acrossFrom_50 (by decide) ?_
          obtain ⟨h1, h2⟩ := some_pair hX
          exact xv_eqi (W := cwC dA a) h1 h2 (hR _ _ _ _ (Nat.le_of_ble_eq_true rfl) (Nat.le_of_ble_eq_true rfl) dX3_acrossFrom_51)
        · replace hX := if_t c_6 hX
          refine xv_aload_n (pc := 41) hC dX3_acrossFrom_41 0 rfl rfl ?_
          refine xgX3 (v := .ref (a (t0 + 1))) (pc := 42) hC dX3_acrossFrom_42 g0 2 (by decide) wf_59 rfl ?_
          refine xv_iload_n (pc := 45) hC dX3_acrossFrom_45 1 rfl rfl ?_
          obtain ⟨h_7, hX⟩ := gd_some hX
          refine xl_C12 (pc := 46) hC dX3_acrossFrom_46 (sh_X3_ones g0) h_7 ?_
          refine xv_goto (tgt := 51) (pc := 47) hC dX3_acrossFrom_47 (by decide) ?_
          obtain ⟨h1, h2⟩ := some_pair hX
          exact xv_eqi (W := cwC dA a) h1 h2 (hR _ _ _ _ (Nat.le_of_ble_eq_true rfl) (Nat.le_of_ble_eq_true rfl) dX3_acrossFrom_51)
      · replace hX := if_t c_4 hX
        refine xv_aload_n (pc := 24) hC dX3_acrossFrom_24 0 rfl rfl ?_
        refine xgX3 (v := .ref (a (t0 + 2))) (pc := 25) hC dX3_acrossFrom_25 g0 3 (by decide) wf_62 rfl ?_
        refine xv_iload_n (pc := 28) hC dX3_acrossFrom_28 1 rfl rfl ?_
        obtain ⟨h_8, hX⟩ := gd_some hX
        refine xl_C12 (pc := 29) hC dX3_acrossFrom_29 (sh_X3_others g0) h_8 ?_
        obtain ⟨h1, h2⟩ := some_pair hX
        exact xv_eqi (W := cwC dA a) h1 h2 (hR _ _ _ _ (Nat.le_of_ble_eq_true rfl) (Nat.le_of_ble_eq_true rfl) dX3_acrossFrom_30)
    · replace hX := if_f c_2 hX
      refine xv_iconst (v := (-1)) (pc := 12) hC dX3_acrossFrom_12 (by decide) ?_
      obtain ⟨h1, h2⟩ := some_pair hX
      exact xv_eqi (W := cwC dA a) h1 h2 (hR _ _ _ _ (Nat.le_of_ble_eq_true rfl) (Nat.le_of_ble_eq_true rfl) dX3_acrossFrom_13)
def sX3_countMinutes (t0 : Nat) (x1 : Int32) (x2 : Int32) (Z : ZZ) : Option (ZZ) :=
  gd (shC t0 = 14) <|
  bnd (sX3_hasTrunk t0 x1 Z) <| fun q_1 =>
  if q_1.1 = 0 then (
    some q_1.2) else (
    gd (vin x1 16 = true) <|
    gd (vin x1 16 = true) <|
    nm (pI q_1.2 (t0 + 4) x1.toNatClampNeg ((gI q_1.2 (t0 + 4) x1.toNatClampNeg) + x2)) <| fun Z_5 =>
    some Z_5)
abbrev rmX3_countMinutes : Room := { frames := 1, cells := 0, slots := 0, locals := 21 }
set_option maxHeartbeats 4000000 in
set_option maxRecDepth 100000 in
theorem kX3_countMinutes {l : Launch} {D : va_G} {dA : Nat → ClassId} {sa : String → Nat → Nat} {a : Nat → Nat} (hl : l.stackTraces = false) {t0 : Nat} {x1 : Int32} {x2 : Int32} {Z Z' : ZZ} (hX : sX3_countMinutes t0 x1 x2 Z = some Z') : CTv l D dA sa yX3_countMinutes (wz yX3_countMinutes cX3_countMinutes 3 none) rmX3_countMinutes [.ref (a t0), .int x1, .int x2] (cwC dA a Z) (cwC dA a Z') := by
  refine xm_v hl (by decide +kernel) (Nat.le_of_ble_eq_true rfl) rfl ?_
  intro p e s m args below meth c A Q hC hR
  unfold sX3_countMinutes at hX
  obtain ⟨g0, hX⟩ := gd_some hX
  show xv p l e rmX3_countMinutes s m args below meth c D A 3 Q (cwC dA a Z) 0 0 0 [(0, .ref (a t0)), (1, .int x1), (2, .int x2)] []
  refine xv_aload_n (pc := 0) hC dX3_countMinutes_0 0 rfl rfl ?_
  refine xv_iload_n (pc := 1) hC dX3_countMinutes_1 1 rfl rfl ?_
  obtain ⟨q_1, hq_1, hX⟩ := bnd_some hX
  refine xv_callVi0 (As := [.int x1]) (pc := 2) hC (kX3_hasTrunk hl hq_1) fV_X3_hasTrunk wf_953 (rc_X3 g0) rfl ⟨Nat.le_of_ble_eq_true rfl, Nat.le_of_ble_eq_true rfl⟩ rfl (Nat.le_of_ble_eq_true rfl) dX3_countMinutes_2 ⟨Nat.le_of_ble_eq_true rfl, Nat.le_of_ble_eq_true rfl⟩ ?_
  refine xv_if_eq (tgt := 18) (pc := 5) hC dX3_countMinutes_5 (by decide) (fun c_2 => ?_) (fun c_2 => ?_)
  · replace hX := if_t c_2 hX
    exact xv_eqw (W := cwC dA a) (Option.some.inj hX) (hR _ _ _ _ (Nat.le_of_ble_eq_true rfl) (Nat.le_of_ble_eq_true rfl) dX3_countMinutes_18)
  · replace hX := if_f c_2 hX
    refine xv_aload_n (pc := 8) hC dX3_countMinutes_8 0 rfl rfl ?_
    refine xgX3 (v := .ref (a (t0 + 4))) (pc := 9) hC dX3_countMinutes_9 g0 5 (by decide) wf_68 rfl ?_
    refine xv_iload_n (pc := 12) hC dX3_countMinutes_12 1 rfl rfl ?_
    refine xv_dup2 (pc := 13) hC dX3_countMinutes_13 rfl rfl ?_
    obtain ⟨h_3, hX⟩ := gd_some hX
    refine xl_C12 (pc := 14) hC dX3_countMinutes_14 (sh_X3_carried g0) h_3 ?_
    refine xv_iload_n (pc := 15) hC dX3_countMinutes_15 2 rfl rfl ?_
    refine xv_iadd (pc := 16) hC dX3_countMinutes_16 ?_
    obtain ⟨h_4, hX⟩ := gd_some hX
    obtain ⟨Z_5, hZ_5, hX⟩ := nm_some hX
    refine xs_C12 (pc := 17) hC dX3_countMinutes_17 (sh_X3_carried g0) h_4 hZ_5 ?_
    exact xv_eqw (W := cwC dA a) (Option.some.inj hX) (hR _ _ _ _ (Nat.le_of_ble_eq_true rfl) (Nat.le_of_ble_eq_true rfl) dX3_countMinutes_18)
def sX3_allTrunks (t0 : Nat) (Z : ZZ) : Option (Int32 × ZZ) :=
  gd (shC t0 = 14) <|
  bnd (sX7_bit (gI Z t0 1) Z) <| fun q_1 =>
  some (q_1.1 - 1, q_1.2)
abbrev rmX3_allTrunks : Room := { frames := 1, cells := 0, slots := 0, locals := 20 }
set_option maxHeartbeats 4000000 in
set_option maxRecDepth 100000 in
theorem kX3_allTrunks {l : Launch} {D : va_G} {dA : Nat → ClassId} {sa : String → Nat → Nat} {a : Nat → Nat} (hl : l.stackTraces = false) {t0 : Nat} {Z Z' : ZZ} {v : Int32} (hX : sX3_allTrunks t0 Z = some (v, Z')) : CTi l D dA sa yX3_allTrunks (wz yX3_allTrunks cX3_allTrunks 1 (some .int)) rmX3_allTrunks [.ref (a t0)] (cwC dA a Z) v (cwC dA a Z') := by
  refine xm_i hl (by decide +kernel) (Nat.le_of_ble_eq_true rfl) rfl ?_
  intro p e s m args below meth c A Q hC hR
  unfold sX3_allTrunks at hX
  obtain ⟨g0, hX⟩ := gd_some hX
  show xv p l e rmX3_allTrunks s m args below meth c D A 1 Q (cwC dA a Z) 0 0 0 [(0, .ref (a t0))] []
  refine xv_aload_n (pc := 0) hC dX3_allTrunks_0 0 rfl rfl ?_
  refine xgX3 (v := .int (gI Z t0 1)) (pc := 1) hC dX3_allTrunks_1 g0 1 (by decide) wf_57 rfl ?_
  obtain ⟨q_1, hq_1, hX⟩ := bnd_some hX
  refine xv_callNi0 (As := [.int (gI Z t0 1)]) (host := "Switchboard") (pc := 4) hC (kX7_bit hl hq_1) fS_X7_bit (by decide +kernel) rfl ⟨Nat.le_of_ble_eq_true rfl, Nat.le_of_ble_eq_true rfl⟩ rfl (Nat.le_of_ble_eq_true rfl) dX3_allTrunks_4 ⟨Nat.le_of_ble_eq_true rfl, Nat.le_of_ble_eq_true rfl⟩ ?_
  refine xv_iconst (v := 1) (pc := 7) hC dX3_allTrunks_7 (by decide) ?_
  refine xv_isub (pc := 8) hC dX3_allTrunks_8 ?_
  obtain ⟨h1, h2⟩ := some_pair hX
  exact xv_eqi (W := cwC dA a) h1 h2 (hR _ _ _ _ (Nat.le_of_ble_eq_true rfl) (Nat.le_of_ble_eq_true rfl) dX3_allTrunks_9)
def sX7_copyRow_12_12 (t0 : Nat) (t1 : Nat) (Z : ZZ) : Option (ZZ) :=
  gd (shC t0 = 12) <|
  gd (shC t1 = 12) <|
  gd (cpo 0 0 (imin 16 16) 16 16 = true) <|
  nm (pC Z t0 0 t1 0 (imin 16 16)) <| fun Z_2 =>
  some Z_2
abbrev rmX7_copyRow_12_12 : Room := { frames := 1, cells := 0, slots := 0, locals := 60 }
set_option maxHeartbeats 4000000 in
set_option maxRecDepth 100000 in
theorem kX7_copyRow_12_12 {l : Launch} {D : va_G} {dA : Nat → ClassId} {sa : String → Nat → Nat} {a : Nat → Nat} (hl : l.stackTraces = false) {t0 : Nat} {t1 : Nat} {Z Z' : ZZ} (hX : sX7_copyRow_12_12 t0 t1 Z = some Z') : CTv l D dA sa yX7_copyRow (wz yX7_copyRow cX7_copyRow 2 none) rmX7_copyRow_12_12 [.ref (a t0), .ref (a t1)] (cwC dA a Z) (cwC dA a Z') := by
  refine xm_v hl (by decide +kernel) (Nat.le_of_ble_eq_true rfl) rfl ?_
  intro p e s m args below meth c A Q hC hR
  unfold sX7_copyRow_12_12 at hX
  obtain ⟨g0, hX⟩ := gd_some hX
  obtain ⟨g1, hX⟩ := gd_some hX
  show xv p l e rmX7_copyRow_12_12 s m args below meth c D A 2 Q (cwC dA a Z) 0 0 0 [(0, .ref (a t0)), (1, .ref (a t1))] []
  refine xv_aload_n (pc := 0) hC dX7_copyRow_0 0 rfl rfl ?_
  refine xv_iconst (v := 0) (pc := 1) hC dX7_copyRow_1 (by decide) ?_
  refine xv_aload_n (pc := 2) hC dX7_copyRow_2 1 rfl rfl ?_
  refine xv_iconst (v := 0) (pc := 3) hC dX7_copyRow_3 (by decide) ?_
  refine xv_aload_n (pc := 4) hC dX7_copyRow_4 0 rfl rfl ?_
  refine xn_C12 (v := 16) (pc := 5) hC dX7_copyRow_5 g0 (by decide) ?_
  refine xv_aload_n (pc := 6) hC dX7_copyRow_6 1 rfl rfl ?_
  refine xn_C12 (v := 16) (pc := 7) hC dX7_copyRow_7 g1 (by decide) ?_
  refine xv_immin (pc := 8) hC dX7_copyRow_8 wf_869 fm_min (Nat.le_of_ble_eq_true rfl) (Nat.le_of_ble_eq_true rfl) (Nat.le_of_ble_eq_true rfl) (Nat.le_of_ble_eq_true rfl) ?_
  obtain ⟨h_1, hX⟩ := gd_some hX
  obtain ⟨Z_2, hZ_2, hX⟩ := nm_some hX
  refine xy_C12 (pc := 11) hC dX7_copyRow_11 g0 g1 wf_870 fm_arraycopy h_1 (Nat.le_of_ble_eq_true rfl) (Nat.le_of_ble_eq_true rfl) hZ_2 ?_
  exact xv_eqw (W := cwC dA a) (Option.some.inj hX) (hR _ _ _ _ (Nat.le_of_ble_eq_true rfl) (Nat.le_of_ble_eq_true rfl) dX7_copyRow_14)
def sX3_copyFrom (t0 : Nat) (t1 : Nat) (Z : ZZ) : Option (ZZ) :=
  gd (shC t0 = 14) <|
  gd (shC t1 = 14) <|
  nm (pI Z t0 0 (gI Z t1 0)) <| fun Z_1 =>
  nm (pI Z_1 t0 1 (gI Z_1 t1 1)) <| fun Z_2 =>
  nm (pI Z_2 t0 6 (gI Z_2 t1 6)) <| fun Z_3 =>
  bnd (sX7_copyRow_12_12 (t1 + 1) (t0 + 1) Z_3) <| fun q_4 =>
  bnd (sX7_copyRow_12_12 (t1 + 2) (t0 + 2) q_4) <| fun q_5 =>
  bnd (sX7_copyRow_12_12 (t1 + 3) (t0 + 3) q_5) <| fun q_6 =>
  bnd (sX7_copyRow_12_12 (t1 + 4) (t0 + 4) q_6) <| fun q_7 =>
  some q_7
abbrev rmX3_copyFrom : Room := { frames := 2, cells := 0, slots := 0, locals := 81 }
set_option maxHeartbeats 4000000 in
set_option maxRecDepth 100000 in
theorem kX3_copyFrom {l : Launch} {D : va_G} {dA : Nat → ClassId} {sa : String → Nat → Nat} {a : Nat → Nat} (hl : l.stackTraces = false) {t0 : Nat} {t1 : Nat} {Z Z' : ZZ} (hX : sX3_copyFrom t0 t1 Z = some Z') : CTv l D dA sa yX3_copyFrom (wz yX3_copyFrom cX3_copyFrom 2 none) rmX3_copyFrom [.ref (a t0), .ref (a t1)] (cwC dA a Z) (cwC dA a Z') := by
  refine xm_v hl (by decide +kernel) (Nat.le_of_ble_eq_true rfl) rfl ?_
  intro p e s m args below meth c A Q hC hR
  unfold sX3_copyFrom at hX
  obtain ⟨g0, hX⟩ := gd_some hX
  obtain ⟨g1, hX⟩ := gd_some hX
  show xv p l e rmX3_copyFrom s m args below meth c D A 2 Q (cwC dA a Z) 0 0 0 [(0, .ref (a t0)), (1, .ref (a t1))] []
  refine xv_aload_n (pc := 0) hC dX3_copyFrom_0 0 rfl rfl ?_
  refine xv_aload_n (pc := 1) hC dX3_copyFrom_1 1 rfl rfl ?_
  refine xgX3 (v := .int (gI Z t1 0)) (pc := 2) hC dX3_copyFrom_2 g1 0 (by decide) wf_53 rfl ?_
  obtain ⟨Z_1, hZ_1, hX⟩ := nm_some hX
  refine xpX3 (ty := .int) (pc := 5) hC dX3_copyFrom_5 g0 0 (by decide) wf_53 rfl (by decide +kernel) rfl rfl rfl hZ_1 ?_
  refine xv_aload_n (pc := 8) hC dX3_copyFrom_8 0 rfl rfl ?_
  refine xv_aload_n (pc := 9) hC dX3_copyFrom_9 1 rfl rfl ?_
  refine xgX3 (v := .int (gI Z_1 t1 1)) (pc := 10) hC dX3_copyFrom_10 g1 1 (by decide) wf_57 rfl ?_
  obtain ⟨Z_2, hZ_2, hX⟩ := nm_some hX
  refine xpX3 (ty := .int) (pc := 13) hC dX3_copyFrom_13 g0 1 (by decide) wf_57 rfl (by decide +kernel) rfl rfl rfl hZ_2 ?_
  refine xv_aload_n (pc := 16) hC dX3_copyFrom_16 0 rfl rfl ?_
  refine xv_aload_n (pc := 17) hC dX3_copyFrom_17 1 rfl rfl ?_
  refine xgX3 (v := .int (gI Z_2 t1 6)) (pc := 18) hC dX3_copyFrom_18 g1 6 (by decide) wf_70 rfl ?_
  obtain ⟨Z_3, hZ_3, hX⟩ := nm_some hX
  refine xpX3 (ty := .int) (pc := 21) hC dX3_copyFrom_21 g0 6 (by decide) wf_70 rfl (by decide +kernel) rfl rfl rfl hZ_3 ?_
  refine xv_aload_n (pc := 24) hC dX3_copyFrom_24 1 rfl rfl ?_
  refine xgX3 (v := .ref (a (t1 + 1))) (pc := 25) hC dX3_copyFrom_25 g1 2 (by decide) wf_59 rfl ?_
  refine xv_aload_n (pc := 28) hC dX3_copyFrom_28 0 rfl rfl ?_
  refine xgX3 (v := .ref (a (t0 + 1))) (pc := 29) hC dX3_copyFrom_29 g0 2 (by decide) wf_59 rfl ?_
  obtain ⟨q_4, hq_4, hX⟩ := bnd_some hX
  refine xv_callNv0 (As := [.ref (a (t1 + 1)), .ref (a (t0 + 1))]) (host := "Switchboard") (pc := 32) hC (kX7_copyRow_12_12 hl hq_4) fS_X7_copyRow (by decide +kernel) rfl ⟨Nat.le_of_ble_eq_true rfl, Nat.le_of_ble_eq_true rfl⟩ rfl (Nat.le_of_ble_eq_true rfl) dX3_copyFrom_32 ⟨Nat.le_of_ble_eq_true rfl, Nat.le_of_ble_eq_true rfl⟩ ?_
  refine xv_aload_n (pc := 35) hC dX3_copyFrom_35 1 rfl rfl ?_
  refine xgX3 (v := .ref (a (t1 + 2))) (pc := 36) hC dX3_copyFrom_36 g1 3 (by decide) wf_62 rfl ?_
  refine xv_aload_n (pc := 39) hC dX3_copyFrom_39 0 rfl rfl ?_
  refine xgX3 (v := .ref (a (t0 + 2))) (pc := 40) hC dX3_copyFrom_40 g0 3 (by decide) wf_62 rfl ?_
  obtain ⟨q_5, hq_5, hX⟩ := bnd_some hX
  refine xv_callNv0 (As := [.ref (a (t1 + 2)), .ref (a (t0 + 2))]) (host := "Switchboard") (pc := 43) hC (kX7_copyRow_12_12 hl hq_5) fS_X7_copyRow (by decide +kernel) rfl ⟨Nat.le_of_ble_eq_true rfl, Nat.le_of_ble_eq_true rfl⟩ rfl (Nat.le_of_ble_eq_true rfl) dX3_copyFrom_43 ⟨Nat.le_of_ble_eq_true rfl, Nat.le_of_ble_eq_true rfl⟩ ?_
  refine xv_aload_n (pc := 46) hC dX3_copyFrom_46 1 rfl rfl ?_
  refine xgX3 (v := .ref (a (t1 + 3))) (pc := 47) hC dX3_copyFrom_47 g1 4 (by decide) wf_65 rfl ?_
  refine xv_aload_n (pc := 50) hC dX3_copyFrom_50 0 rfl rfl ?_
  refine xgX3 (v := .ref (a (t0 + 3))) (pc := 51) hC dX3_copyFrom_51 g0 4 (by decide) wf_65 rfl ?_
  obtain ⟨q_6, hq_6, hX⟩ := bnd_some hX
  refine xv_callNv0 (As := [.ref (a (t1 + 3)), .ref (a (t0 + 3))]) (host := "Switchboard") (pc := 54) hC (kX7_copyRow_12_12 hl hq_6) fS_X7_copyRow (by decide +kernel) rfl ⟨Nat.le_of_ble_eq_true rfl, Nat.le_of_ble_eq_true rfl⟩ rfl (Nat.le_of_ble_eq_true rfl) dX3_copyFrom_54 ⟨Nat.le_of_ble_eq_true rfl, Nat.le_of_ble_eq_true rfl⟩ ?_
  refine xv_aload_n (pc := 57) hC dX3_copyFrom_57 1 rfl rfl ?_
  refine xgX3 (v := .ref (a (t1 + 4))) (pc := 58) hC dX3_copyFrom_58 g1 5 (by decide) wf_68 rfl ?_
  refine xv_aload_n (pc := 61) hC dX3_copyFrom_61 0 rfl rfl ?_
  refine xgX3 (v := .ref (a (t0 + 4))) (pc := 62) hC dX3_copyFrom_62 g0 5 (by decide) wf_68 rfl ?_
  obtain ⟨q_7, hq_7, hX⟩ := bnd_some hX
  refine xv_callNv0 (As := [.ref (a (t1 + 4)), .ref (a (t0 + 4))]) (host := "Switchboard") (pc := 65) hC (kX7_copyRow_12_12 hl hq_7) fS_X7_copyRow (by decide +kernel) rfl ⟨Nat.le_of_ble_eq_true rfl, Nat.le_of_ble_eq_true rfl⟩ rfl (Nat.le_of_ble_eq_true rfl) dX3_copyFrom_65 ⟨Nat.le_of_ble_eq_true rfl, Nat.le_of_ble_eq_true rfl⟩ ?_
  exact xv_eqw (W := cwC dA a) (Option.some.inj hX) (hR _ _ _ _ (Nat.le_of_ble_eq_true rfl) (Nat.le_of_ble_eq_true rfl) dX3_copyFrom_68)
def sX6_hasSubscriber (t0 : Nat) (x1 : Int32) (Z : ZZ) : Option (Int32 × ZZ) :=
  gd (shC t0 = 13) <|
  if x1 < 0 then (
    some (0, Z)) else (
    if (gI Z t0 1) ≤ x1 then (
      some (0, Z)) else (
      some (1, Z)))
abbrev rmX6_hasSubscriber : Room := { frames := 0, cells := 0, slots := 0, locals := 0 }
set_option maxHeartbeats 4000000 in
set_option maxRecDepth 100000 in
theorem kX6_hasSubscriber {l : Launch} {D : va_G} {dA : Nat → ClassId} {sa : String → Nat → Nat} {a : Nat → Nat} (hl : l.stackTraces = false) {t0 : Nat} {x1 : Int32} {Z Z' : ZZ} {v : Int32} (hX : sX6_hasSubscriber t0 x1 Z = some (v, Z')) : CTi l D dA sa yX6_hasSubscriber (wz yX6_hasSubscriber cX6_hasSubscriber 2 (some .boolean)) rmX6_hasSubscriber [.ref (a t0), .int x1] (cwC dA a Z) v (cwC dA a Z') := by
  refine xm_z hl (by decide +kernel) (Nat.le_of_ble_eq_true rfl) rfl ?_
  intro p e s m args below meth c A Q hC hR
  unfold sX6_hasSubscriber at hX
  obtain ⟨g0, hX⟩ := gd_some hX
  show xv p l e rmX6_hasSubscriber s m args below meth c D A 2 Q (cwC dA a Z) 0 0 0 [(0, .ref (a t0)), (1, .int x1)] []
  refine xv_iload_n (pc := 0) hC dX6_hasSubscriber_0 1 rfl rfl ?_
  refine xv_if_lt (tgt := 16) (pc := 1) hC dX6_hasSubscriber_1 (by decide) (fun c_1 => ?_) (fun c_1 => ?_)
  · replace hX := if_t c_1 hX
    refine xv_iconst (v := 0) (pc := 16) hC dX6_hasSubscriber_16 (by decide) ?_
    obtain ⟨h1, h2⟩ := some_pair hX
    exact xv_eqi (W := cwC dA a) h1 h2 (hR _ _ _ _ (by rw [← h1]; exact (by decide)) (Nat.le_of_ble_eq_true rfl) (Nat.le_of_ble_eq_true rfl) dX6_hasSubscriber_17)
  · replace hX := if_f c_1 hX
    refine xv_iload_n (pc := 4) hC dX6_hasSubscriber_4 1 rfl rfl ?_
    refine xv_aload_n (pc := 5) hC dX6_hasSubscriber_5 0 rfl rfl ?_
    refine xgX6 (v := .int (gI Z t0 1)) (pc := 6) hC dX6_hasSubscriber_6 g0 1 (by decide) wf_128 rfl ?_
    refine xv_icmp_ge (tgt := 16) (pc := 9) hC dX6_hasSubscriber_9 (by decide) (fun c_2 => ?_) (fun c_2 => ?_)
    · replace hX := if_t c_2 hX
      refine xv_iconst (v := 0) (pc := 16) hC dX6_hasSubscriber_16 (by decide) ?_
      obtain ⟨h1, h2⟩ := some_pair hX
      exact xv_eqi (W := cwC dA a) h1 h2 (hR _ _ _ _ (by rw [← h1]; exact (by decide)) (Nat.le_of_ble_eq_true rfl) (Nat.le_of_ble_eq_true rfl) dX6_hasSubscriber_17)
    · replace hX := if_f c_2 hX
      refine xv_iconst (v := 1) (pc := 12) hC dX6_hasSubscriber_12 (by decide) ?_
      refine xv_goto (tgt := 17) (pc := 13) hC dX6_hasSubscriber_13 (by decide) ?_
      obtain ⟨h1, h2⟩ := some_pair hX
      exact xv_eqi (W := cwC dA a) h1 h2 (hR _ _ _ _ (by rw [← h1]; exact (by decide)) (Nat.le_of_ble_eq_true rfl) (Nat.le_of_ble_eq_true rfl) dX6_hasSubscriber_17)
def sX6_homeOf (t0 : Nat) (x1 : Int32) (Z : ZZ) : Option (Int32 × ZZ) :=
  gd (shC t0 = 13) <|
  bnd (sX6_hasSubscriber t0 x1 Z) <| fun q_1 =>
  if q_1.1 = 0 then (
    some ((-1), q_1.2)) else (
    gd (vin x1 10 = true) <|
    some (gI q_1.2 (t0 + 6) x1.toNatClampNeg, q_1.2))
abbrev rmX6_homeOf : Room := { frames := 1, cells := 0, slots := 0, locals := 21 }
set_option maxHeartbeats 4000000 in
set_option maxRecDepth 100000 in
theorem kX6_homeOf {l : Launch} {D : va_G} {dA : Nat → ClassId} {sa : String → Nat → Nat} {a : Nat → Nat} (hl : l.stackTraces = false) {t0 : Nat} {x1 : Int32} {Z Z' : ZZ} {v : Int32} (hX : sX6_homeOf t0 x1 Z = some (v, Z')) : CTi l D dA sa yX6_homeOf (wz yX6_homeOf cX6_homeOf 2 (some .int)) rmX6_homeOf [.ref (a t0), .int x1] (cwC dA a Z) v (cwC dA a Z') := by
  refine xm_i hl (by decide +kernel) (Nat.le_of_ble_eq_true rfl) rfl ?_
  intro p e s m args below meth c A Q hC hR
  unfold sX6_homeOf at hX
  obtain ⟨g0, hX⟩ := gd_some hX
  show xv p l e rmX6_homeOf s m args below meth c D A 2 Q (cwC dA a Z) 0 0 0 [(0, .ref (a t0)), (1, .int x1)] []
  refine xv_aload_n (pc := 0) hC dX6_homeOf_0 0 rfl rfl ?_
  refine xv_iload_n (pc := 1) hC dX6_homeOf_1 1 rfl rfl ?_
  obtain ⟨q_1, hq_1, hX⟩ := bnd_some hX
  refine xv_callVi0 (As := [.int x1]) (pc := 2) hC (kX6_hasSubscriber hl hq_1) fV_X6_hasSubscriber wf_935 (rc_X6 g0) rfl ⟨Nat.le_of_ble_eq_true rfl, Nat.le_of_ble_eq_true rfl⟩ rfl (Nat.le_of_ble_eq_true rfl) dX6_homeOf_2 ⟨Nat.le_of_ble_eq_true rfl, Nat.le_of_ble_eq_true rfl⟩ ?_
  refine xv_if_eq (tgt := 17) (pc := 5) hC dX6_homeOf_5 (by decide) (fun c_2 => ?_) (fun c_2 => ?_)
  · replace hX := if_t c_2 hX
    refine xv_iconst (v := (-1)) (pc := 17) hC dX6_homeOf_17 (by decide) ?_
    obtain ⟨h1, h2⟩ := some_pair hX
    exact xv_eqi (W := cwC dA a) h1 h2 (hR _ _ _ _ (Nat.le_of_ble_eq_true rfl) (Nat.le_of_ble_eq_true rfl) dX6_homeOf_18)
  · replace hX := if_f c_2 hX
    refine xv_aload_n (pc := 8) hC dX6_homeOf_8 0 rfl rfl ?_
    refine xgX6 (v := .ref (a (t0 + 6))) (pc := 9) hC dX6_homeOf_9 g0 2 (by decide) wf_130 rfl ?_
    refine xv_iload_n (pc := 12) hC dX6_homeOf_12 1 rfl rfl ?_
    obtain ⟨h_3, hX⟩ := gd_some hX
    refine xl_C15 (pc := 13) hC dX6_homeOf_13 (sh_X6_homes g0) h_3 ?_
    refine xv_goto (tgt := 18) (pc := 14) hC dX6_homeOf_14 (by decide) ?_
    obtain ⟨h1, h2⟩ := some_pair hX
    exact xv_eqi (W := cwC dA a) h1 h2 (hR _ _ _ _ (Nat.le_of_ble_eq_true rfl) (Nat.le_of_ble_eq_true rfl) dX6_homeOf_18)
def sX6_subscriberProblem (t0 : Nat) (x1 : Int32) (x2 : Int32) (Z : ZZ) : Option (Int32 × ZZ) :=
  gd (shC t0 = 13) <|
  bnd (sX3_hasSwitch (t0 + 1) x1 Z) <| fun q_1 =>
  if q_1.1 = 0 then (
    some (1, q_1.2)) else (
    if x2 < 0 then (
      some (2, q_1.2)) else (
      if x2 ≤ 2 then (
        if (10 : Int32) ≤ (gI q_1.2 t0 1) then (
          some (3, q_1.2)) else (
          some (0, q_1.2))) else (
        some (2, q_1.2))))
abbrev rmX6_subscriberProblem : Room := { frames := 1, cells := 0, slots := 0, locals := 21 }
set_option maxHeartbeats 4000000 in
set_option maxRecDepth 100000 in
theorem kX6_subscriberProblem {l : Launch} {D : va_G} {dA : Nat → ClassId} {sa : String → Nat → Nat} {a : Nat → Nat} (hl : l.stackTraces = false) {t0 : Nat} {x1 : Int32} {x2 : Int32} {Z Z' : ZZ} {v : Int32} (hX : sX6_subscriberProblem t0 x1 x2 Z = some (v, Z')) : CTi l D dA sa yX6_subscriberProblem (wz yX6_subscriberProblem cX6_subscriberProblem 3 (some .int)) rmX6_subscriberProblem [.ref (a t0), .int x1, .int x2] (cwC dA a Z) v (cwC dA a Z') := by
  refine xm_i hl (by decide +kernel) (Nat.le_of_ble_eq_true rfl) rfl ?_
  intro p e s m args below meth c A Q hC hR
  unfold sX6_subscriberProblem at hX
  obtain ⟨g0, hX⟩ := gd_some hX
  show xv p l e rmX6_subscriberProblem s m args below meth c D A 3 Q (cwC dA a Z) 0 0 0 [(0, .ref (a t0)), (1, .int x1), (2, .int x2)] []
  refine xv_aload_n (pc := 0) hC dX6_subscriberProblem_0 0 rfl rfl ?_
  refine xgX6 (v := .ref (a (t0 + 1))) (pc := 1) hC dX6_subscriberProblem_1 g0 0 (by decide) wf_126 rfl ?_
  refine xv_iload_n (pc := 4) hC dX6_subscriberProblem_4 1 rfl rfl ?_
  obtain ⟨q_1, hq_1, hX⟩ := bnd_some hX
  refine xv_callVi0 (As := [.int x1]) (pc := 5) hC (kX3_hasSwitch hl hq_1) fV_X3_hasSwitch wf_906 (rc_X3 (sh_X6_network g0)) rfl ⟨Nat.le_of_ble_eq_true rfl, Nat.le_of_ble_eq_true rfl⟩ rfl (Nat.le_of_ble_eq_true rfl) dX6_subscriberProblem_5 ⟨Nat.le_of_ble_eq_true rfl, Nat.le_of_ble_eq_true rfl⟩ ?_
  refine xv_if_ne (tgt := 13) (pc := 8) hC dX6_subscriberProblem_8 (by decide) (fun c_2 => ?_) (fun c_2 => ?_)
  · replace hX := if_f c_2 hX
    refine xv_iload_n (pc := 13) hC dX6_subscriberProblem_13 2 rfl rfl ?_
    refine xv_if_lt (tgt := 22) (pc := 14) hC dX6_subscriberProblem_14 (by decide) (fun c_3 => ?_) (fun c_3 => ?_)
    · replace hX := if_t c_3 hX
      refine xv_iconst (v := 2) (pc := 22) hC dX6_subscriberProblem_22 (by decide) ?_
      obtain ⟨h1, h2⟩ := some_pair hX
      exact xv_eqi (W := cwC dA a) h1 h2 (hR _ _ _ _ (Nat.le_of_ble_eq_true rfl) (Nat.le_of_ble_eq_true rfl) dX6_subscriberProblem_23)
    · replace hX := if_f c_3 hX
      refine xv_iload_n (pc := 17) hC dX6_subscriberProblem_17 2 rfl rfl ?_
      refine xv_iconst (v := 2) (pc := 18) hC dX6_subscriberProblem_18 (by decide) ?_
      refine xv_icmp_le (tgt := 24) (pc := 19) hC dX6_subscriberProblem_19 (by decide) (fun c_4 => ?_) (fun c_4 => ?_)
      · replace hX := if_t c_4 hX
        refine xv_aload_n (pc := 24) hC dX6_subscriberProblem_24 0 rfl rfl ?_
        refine xgX6 (v := .int (gI q_1.2 t0 1)) (pc := 25) hC dX6_subscriberProblem_25 g0 1 (by decide) wf_128 rfl ?_
        refine xv_bipush (v := 10) (pc := 28) hC dX6_subscriberProblem_28 (by decide) ?_
        refine xv_icmp_ge (tgt := 37) (pc := 30) hC dX6_subscriberProblem_30 (by decide) (fun c_5 => ?_) (fun c_5 => ?_)
        · replace hX := if_t c_5 hX
          refine xv_iconst (v := 3) (pc := 37) hC dX6_subscriberProblem_37 (by decide) ?_
          obtain ⟨h1, h2⟩ := some_pair hX
          exact xv_eqi (W := cwC dA a) h1 h2 (hR _ _ _ _ (Nat.le_of_ble_eq_true rfl) (Nat.le_of_ble_eq_true rfl) dX6_subscriberProblem_38)
        · replace hX := if_f c_5 hX
          refine xv_iconst (v := 0) (pc := 33) hC dX6_subscriberProblem_33 (by decide) ?_
          refine xv_goto (tgt := 38) (pc := 34) hC dX6_subscriberProblem_34 (by decide) ?_
          obtain ⟨h1, h2⟩ := some_pair hX
          exact xv_eqi (W := cwC dA a) h1 h2 (hR _ _ _ _ (Nat.le_of_ble_eq_true rfl) (Nat.le_of_ble_eq_true rfl) dX6_subscriberProblem_38)
      · replace hX := if_f c_4 hX
        refine xv_iconst (v := 2) (pc := 22) hC dX6_subscriberProblem_22 (by decide) ?_
        obtain ⟨h1, h2⟩ := some_pair hX
        exact xv_eqi (W := cwC dA a) h1 h2 (hR _ _ _ _ (Nat.le_of_ble_eq_true rfl) (Nat.le_of_ble_eq_true rfl) dX6_subscriberProblem_23)
  · replace hX := if_t c_2 hX
    refine xv_iconst (v := 1) (pc := 11) hC dX6_subscriberProblem_11 (by decide) ?_
    obtain ⟨h1, h2⟩ := some_pair hX
    exact xv_eqi (W := cwC dA a) h1 h2 (hR _ _ _ _ (Nat.le_of_ble_eq_true rfl) (Nat.le_of_ble_eq_true rfl) dX6_subscriberProblem_12)
def sX6_callIndexOf_L2 (t0 : Nat) (x1 : Int32) : Nat → Int32 → ZZ → Option (Int32 × ZZ)
  | 0, _, _ => none
  | n + 1, y2, Z =>
  if (gI Z t0 5) ≤ y2 then (
    some ((-1), Z)) else (
    gd (vin y2 5 = true) <|
    bnd (sX1_isOf (elC (t0 + 9) y2) x1 Z) <| fun q_3 =>
    if q_3.1 = 0 then (
      nm (y2 + 1) <| fun y_5 =>
      sX6_callIndexOf_L2 t0 x1 n y_5 q_3.2) else (
      some (y2, q_3.2)))
def sX6_callIndexOf (t0 : Nat) (x1 : Int32) (Z : ZZ) : Option (Int32 × ZZ) :=
  gd (shC t0 = 13) <|
  sX6_callIndexOf_L2 t0 x1 3000 0 Z
abbrev rmX6_callIndexOf : Room := { frames := 1, cells := 0, slots := 0, locals := 21 }
set_option maxHeartbeats 4000000 in
set_option maxRecDepth 100000 in
theorem kX6_callIndexOf {l : Launch} {D : va_G} {dA : Nat → ClassId} {sa : String → Nat → Nat} {a : Nat → Nat} (hl : l.stackTraces = false) {t0 : Nat} {x1 : Int32} {Z Z' : ZZ} {v : Int32} (hX : sX6_callIndexOf t0 x1 Z = some (v, Z')) : CTi l D dA sa yX6_callIndexOf (wz yX6_callIndexOf cX6_callIndexOf 3 (some .int)) rmX6_callIndexOf [.ref (a t0), .int x1] (cwC dA a Z) v (cwC dA a Z') := by
  refine xm_i hl (by decide +kernel) (Nat.le_of_ble_eq_true rfl) rfl ?_
  intro p e s m args below meth c A Q hC hR
  unfold sX6_callIndexOf at hX
  obtain ⟨g0, hX⟩ := gd_some hX
  have v2 : ∀ (n : Nat) (y2 : Int32) (Z : ZZ), sX6_callIndexOf_L2 t0 x1 n y2 Z = some (v, Z') → xv p l e rmX6_callIndexOf s m args below meth c D A 3 Q (cwC dA a Z) 0 0 2 [(0, .ref (a t0)), (1, .int x1), (2, .int y2)] [] := by
    intro n
    induction n with
    | zero =>
      intro y2 Z hX
      exact absurd hX (by simp [sX6_callIndexOf_L2])
    | succ n ih =>
      intro y2 Z hX
      rw [sX6_callIndexOf_L2] at hX
      refine xv_iload_n (pc := 2) hC dX6_callIndexOf_2 2 rfl rfl ?_
      refine xv_aload_n (pc := 3) hC dX6_callIndexOf_3 0 rfl rfl ?_
      refine xgX6 (v := .int (gI Z t0 5)) (pc := 4) hC dX6_callIndexOf_4 g0 5 (by decide) wf_135 rfl ?_
      refine xv_icmp_ge (tgt := 31) (pc := 7) hC dX6_callIndexOf_7 (by decide) (fun c_1 => ?_) (fun c_1 => ?_)
      · replace hX := if_t c_1 hX
        refine xv_iconst (v := (-1)) (pc := 31) hC dX6_callIndexOf_31 (by decide) ?_
        obtain ⟨h1, h2⟩ := some_pair hX
        exact xv_eqi (W := cwC dA a) h1 h2 (hR _ _ _ _ (Nat.le_of_ble_eq_true rfl) (Nat.le_of_ble_eq_true rfl) dX6_callIndexOf_32)
      · replace hX := if_f c_1 hX
        refine xv_aload_n (pc := 10) hC dX6_callIndexOf_10 0 rfl rfl ?_
        refine xgX6 (v := .ref (a (t0 + 9))) (pc := 11) hC dX6_callIndexOf_11 g0 6 (by decide) wf_137 rfl ?_
        refine xv_iload_n (pc := 14) hC dX6_callIndexOf_14 2 rfl rfl ?_
        obtain ⟨h_2, hX⟩ := gd_some hX
        refine xa_16 (pc := 15) hC dX6_callIndexOf_15 (sh_X6_calls g0) h_2 ?_
        refine xv_iload_n (pc := 16) hC dX6_callIndexOf_16 1 rfl rfl ?_
        obtain ⟨q_3, hq_3, hX⟩ := bnd_some hX
        refine xv_callVi0 (As := [.int x1]) (pc := 17) hC (kX1_isOf hl hq_3) fV_X1_isOf wf_919 (rc_X1 (sh_elC (sh_X6_calls g0) h_2)) rfl ⟨Nat.le_of_ble_eq_true rfl, Nat.le_of_ble_eq_true rfl⟩ rfl (Nat.le_of_ble_eq_true rfl) dX6_callIndexOf_17 ⟨Nat.le_of_ble_eq_true rfl, Nat.le_of_ble_eq_true rfl⟩ ?_
        refine xv_if_eq (tgt := 25) (pc := 20) hC dX6_callIndexOf_20 (by decide) (fun c_4 => ?_) (fun c_4 => ?_)
        · replace hX := if_t c_4 hX
          obtain ⟨y_5, hy_5, hX⟩ := nm_some hX
          refine xv_iinc (pc := 25) (v := y_5) (lv' := [(2, .int y_5), (0, .ref (a t0)), (1, .int x1)]) hC dX6_callIndexOf_25 2 rfl (by rw [hy_5]; rfl) (by decide) rfl ?_
          refine xv_goto (tgt := 2) (pc := 28) hC dX6_callIndexOf_28 (by decide) ?_
          refine xv_sub (lv' := [(0, .ref (a t0)), (1, .int x1), (2, .int y_5)]) [1, 2, 0] rfl ?_
          exact ih y_5 q_3.2 hX
        · replace hX := if_f c_4 hX
          refine xv_iload_n (pc := 23) hC dX6_callIndexOf_23 2 rfl rfl ?_
          obtain ⟨h1, h2⟩ := some_pair hX
          exact xv_eqi (W := cwC dA a) h1 h2 (hR _ _ _ _ (Nat.le_of_ble_eq_true rfl) (Nat.le_of_ble_eq_true rfl) dX6_callIndexOf_24)
  show xv p l e rmX6_callIndexOf s m args below meth c D A 3 Q (cwC dA a Z) 0 0 0 [(0, .ref (a t0)), (1, .int x1)] []
  refine xv_iconst (v := 0) (pc := 0) hC dX6_callIndexOf_0 (by decide) ?_
  refine xv_istore_n (pc := 1) (lv' := [(2, .int 0), (0, .ref (a t0)), (1, .int x1)]) hC dX6_callIndexOf_1 rfl (by decide) rfl ?_
  refine xv_sub (lv' := [(0, .ref (a t0)), (1, .int x1), (2, .int 0)]) [1, 2, 0] rfl ?_
  exact v2 3000 0 Z hX
def sX6_hangUpProblem (t0 : Nat) (x1 : Int32) (Z : ZZ) : Option (Int32 × ZZ) :=
  gd (shC t0 = 13) <|
  bnd (sX6_hasSubscriber t0 x1 Z) <| fun q_1 =>
  if q_1.1 = 0 then (
    some (1, q_1.2)) else (
    bnd (sX6_callIndexOf t0 x1 q_1.2) <| fun q_3 =>
    if q_3.1 = (-1) then (
      some (3, q_3.2)) else (
      some (0, q_3.2)))
abbrev rmX6_hangUpProblem : Room := { frames := 2, cells := 0, slots := 0, locals := 43 }
set_option maxHeartbeats 4000000 in
set_option maxRecDepth 100000 in
theorem kX6_hangUpProblem {l : Launch} {D : va_G} {dA : Nat → ClassId} {sa : String → Nat → Nat} {a : Nat → Nat} (hl : l.stackTraces = false) {t0 : Nat} {x1 : Int32} {Z Z' : ZZ} {v : Int32} (hX : sX6_hangUpProblem t0 x1 Z = some (v, Z')) : CTi l D dA sa yX6_hangUpProblem (wz yX6_hangUpProblem cX6_hangUpProblem 2 (some .int)) rmX6_hangUpProblem [.ref (a t0), .int x1] (cwC dA a Z) v (cwC dA a Z') := by
  refine xm_i hl (by decide +kernel) (Nat.le_of_ble_eq_true rfl) rfl ?_
  intro p e s m args below meth c A Q hC hR
  unfold sX6_hangUpProblem at hX
  obtain ⟨g0, hX⟩ := gd_some hX
  show xv p l e rmX6_hangUpProblem s m args below meth c D A 2 Q (cwC dA a Z) 0 0 0 [(0, .ref (a t0)), (1, .int x1)] []
  refine xv_aload_n (pc := 0) hC dX6_hangUpProblem_0 0 rfl rfl ?_
  refine xv_iload_n (pc := 1) hC dX6_hangUpProblem_1 1 rfl rfl ?_
  obtain ⟨q_1, hq_1, hX⟩ := bnd_some hX
  refine xv_callVi0 (As := [.int x1]) (pc := 2) hC (kX6_hasSubscriber hl hq_1) fV_X6_hasSubscriber wf_935 (rc_X6 g0) rfl ⟨Nat.le_of_ble_eq_true rfl, Nat.le_of_ble_eq_true rfl⟩ rfl (Nat.le_of_ble_eq_true rfl) dX6_hangUpProblem_2 ⟨Nat.le_of_ble_eq_true rfl, Nat.le_of_ble_eq_true rfl⟩ ?_
  refine xv_if_ne (tgt := 10) (pc := 5) hC dX6_hangUpProblem_5 (by decide) (fun c_2 => ?_) (fun c_2 => ?_)
  · replace hX := if_f c_2 hX
    refine xv_aload_n (pc := 10) hC dX6_hangUpProblem_10 0 rfl rfl ?_
    refine xv_iload_n (pc := 11) hC dX6_hangUpProblem_11 1 rfl rfl ?_
    obtain ⟨q_3, hq_3, hX⟩ := bnd_some hX
    refine xv_callVi0 (As := [.int x1]) (pc := 12) hC (kX6_callIndexOf hl hq_3) fV_X6_callIndexOf wf_948 (rc_X6 g0) rfl ⟨Nat.le_of_ble_eq_true rfl, Nat.le_of_ble_eq_true rfl⟩ rfl (Nat.le_of_ble_eq_true rfl) dX6_hangUpProblem_12 ⟨Nat.le_of_ble_eq_true rfl, Nat.le_of_ble_eq_true rfl⟩ ?_
    refine xv_iconst (v := (-1)) (pc := 15) hC dX6_hangUpProblem_15 (by decide) ?_
    refine xv_icmp_eq (tgt := 23) (pc := 16) hC dX6_hangUpProblem_16 (by decide) (fun c_4 => ?_) (fun c_4 => ?_)
    · replace hX := if_t c_4 hX
      refine xv_iconst (v := 3) (pc := 23) hC dX6_hangUpProblem_23 (by decide) ?_
      obtain ⟨h1, h2⟩ := some_pair hX
      exact xv_eqi (W := cwC dA a) h1 h2 (hR _ _ _ _ (Nat.le_of_ble_eq_true rfl) (Nat.le_of_ble_eq_true rfl) dX6_hangUpProblem_24)
    · replace hX := if_f c_4 hX
      refine xv_iconst (v := 0) (pc := 19) hC dX6_hangUpProblem_19 (by decide) ?_
      refine xv_goto (tgt := 24) (pc := 20) hC dX6_hangUpProblem_20 (by decide) ?_
      obtain ⟨h1, h2⟩ := some_pair hX
      exact xv_eqi (W := cwC dA a) h1 h2 (hR _ _ _ _ (Nat.le_of_ble_eq_true rfl) (Nat.le_of_ble_eq_true rfl) dX6_hangUpProblem_24)
  · replace hX := if_t c_2 hX
    refine xv_iconst (v := 1) (pc := 8) hC dX6_hangUpProblem_8 (by decide) ?_
    obtain ⟨h1, h2⟩ := some_pair hX
    exact xv_eqi (W := cwC dA a) h1 h2 (hR _ _ _ _ (Nat.le_of_ble_eq_true rfl) (Nat.le_of_ble_eq_true rfl) dX6_hangUpProblem_9)
def sX6_attachSubscriber (t0 : Nat) (x1 : Int32) (x2 : Int32) (Z : ZZ) : Option (Int32 × ZZ) :=
  gd (shC t0 = 13) <|
  nm (gI Z t0 1) <| fun y_1 =>
  if y_1 < 10 then (
    gd (vin y_1 10 = true) <|
    nm (pI Z (t0 + 6) y_1.toNatClampNeg x1) <| fun Z_4 =>
    gd (vin y_1 10 = true) <|
    nm (pI Z_4 (t0 + 7) y_1.toNatClampNeg x2) <| fun Z_6 =>
    nm (pI Z_6 t0 1 ((gI Z_6 t0 1) + 1)) <| fun Z_7 =>
    some (y_1, Z_7)) else (
    some ((-1), Z))
abbrev rmX6_attachSubscriber : Room := { frames := 0, cells := 0, slots := 0, locals := 0 }
set_option maxHeartbeats 4000000 in
set_option maxRecDepth 100000 in
theorem kX6_attachSubscriber {l : Launch} {D : va_G} {dA : Nat → ClassId} {sa : String → Nat → Nat} {a : Nat → Nat} (hl : l.stackTraces = false) {t0 : Nat} {x1 : Int32} {x2 : Int32} {Z Z' : ZZ} {v : Int32} (hX : sX6_attachSubscriber t0 x1 x2 Z = some (v, Z')) : CTi l D dA sa yX6_attachSubscriber (wz yX6_attachSubscriber cX6_attachSubscriber 4 (some .int)) rmX6_attachSubscriber [.ref (a t0), .int x1, .int x2] (cwC dA a Z) v (cwC dA a Z') := by
  refine xm_i hl (by decide +kernel) (Nat.le_of_ble_eq_true rfl) rfl ?_
  intro p e s m args below meth c A Q hC hR
  unfold sX6_attachSubscriber at hX
  obtain ⟨g0, hX⟩ := gd_some hX
  show xv p l e rmX6_attachSubscriber s m args below meth c D A 4 Q (cwC dA a Z) 0 0 0 [(0, .ref (a t0)), (1, .int x1), (2, .int x2)] []
  refine xv_aload_n (pc := 0) hC dX6_attachSubscriber_0 0 rfl rfl ?_
  refine xgX6 (v := .int (gI Z t0 1)) (pc := 1) hC dX6_attachSubscriber_1 g0 1 (by decide) wf_128 rfl ?_
  obtain ⟨y_1, hy_1, hX⟩ := nm_some hX
  refine xv_nmi hy_1 ?_
  refine xv_istore_n (pc := 4) (lv' := [(3, .int y_1), (0, .ref (a t0)), (1, .int x1), (2, .int x2)]) hC dX6_attachSubscriber_4 rfl (by decide) rfl ?_
  refine xv_iload_n (pc := 5) hC dX6_attachSubscriber_5 0 rfl rfl ?_
  refine xv_bipush (v := 10) (pc := 6) hC dX6_attachSubscriber_6 (by decide) ?_
  refine xv_icmp_lt (tgt := 13) (pc := 8) hC dX6_attachSubscriber_8 (by decide) (fun c_2 => ?_) (fun c_2 => ?_)
  · replace hX := if_t c_2 hX
    refine xv_aload_n (pc := 13) hC dX6_attachSubscriber_13 1 rfl rfl ?_
    refine xgX6 (v := .ref (a (t0 + 6))) (pc := 14) hC dX6_attachSubscriber_14 g0 2 (by decide) wf_130 rfl ?_
    refine xv_iload_n (pc := 17) hC dX6_attachSubscriber_17 0 rfl rfl ?_
    refine xv_iload_n (pc := 18) hC dX6_attachSubscriber_18 2 rfl rfl ?_
    obtain ⟨h_3, hX⟩ := gd_some hX
    obtain ⟨Z_4, hZ_4, hX⟩ := nm_some hX
    refine xs_C15 (pc := 19) hC dX6_attachSubscriber_19 (sh_X6_homes g0) h_3 hZ_4 ?_
    refine xv_aload_n (pc := 20) hC dX6_attachSubscriber_20 1 rfl rfl ?_
    refine xgX6 (v := .ref (a (t0 + 7))) (pc := 21) hC dX6_attachSubscriber_21 g0 3 (by decide) wf_131 rfl ?_
    refine xv_iload_n (pc := 24) hC dX6_attachSubscriber_24 0 rfl rfl ?_
    refine xv_iload_n (pc := 25) hC dX6_attachSubscriber_25 3 rfl rfl ?_
    obtain ⟨h_5, hX⟩ := gd_some hX
    obtain ⟨Z_6, hZ_6, hX⟩ := nm_some hX
    refine xs_C15 (pc := 26) hC dX6_attachSubscriber_26 (sh_X6_tariffs g0) h_5 hZ_6 ?_
    refine xv_aload_n (pc := 27) hC dX6_attachSubscriber_27 1 rfl rfl ?_
    refine xv_dup (pc := 28) hC dX6_attachSubscriber_28 rfl ?_
    refine xgX6 (v := .int (gI Z_6 t0 1)) (pc := 29) hC dX6_attachSubscriber_29 g0 1 (by decide) wf_128 rfl ?_
    refine xv_iconst (v := 1) (pc := 32) hC dX6_attachSubscriber_32 (by decide) ?_
    refine xv_iadd (pc := 33) hC dX6_attachSubscriber_33 ?_
    obtain ⟨Z_7, hZ_7, hX⟩ := nm_some hX
    refine xpX6 (ty := .int) (pc := 34) hC dX6_attachSubscriber_34 g0 1 (by decide) wf_128 rfl (by decide +kernel) rfl rfl rfl hZ_7 ?_
    refine xv_iload_n (pc := 37) hC dX6_attachSubscriber_37 0 rfl rfl ?_
    obtain ⟨h1, h2⟩ := some_pair hX
    exact xv_eqi (W := cwC dA a) h1 h2 (hR _ _ _ _ (Nat.le_of_ble_eq_true rfl) (Nat.le_of_ble_eq_true rfl) dX6_attachSubscriber_38)
  · replace hX := if_f c_2 hX
    refine xv_iconst (v := (-1)) (pc := 11) hC dX6_attachSubscriber_11 (by decide) ?_
    obtain ⟨h1, h2⟩ := some_pair hX
    exact xv_eqi (W := cwC dA a) h1 h2 (hR _ _ _ _ (Nat.le_of_ble_eq_true rfl) (Nat.le_of_ble_eq_true rfl) dX6_attachSubscriber_12)
def sX6_userIndexOf_L2 (t0 : Nat) (x1 : Int32) : Nat → Int32 → ZZ → Option (Int32 × ZZ)
  | 0, _, _ => none
  | n + 1, y2, Z =>
  if (gI Z t0 5) ≤ y2 then (
    some ((-1), Z)) else (
    gd (vin y2 5 = true) <|
    bnd (sX1_trunkBits (elC (t0 + 9) y2) Z) <| fun q_3 =>
    bnd (sX7_hasBit q_3.1 x1 q_3.2) <| fun q_4 =>
    if q_4.1 = 0 then (
      nm (y2 + 1) <| fun y_6 =>
      sX6_userIndexOf_L2 t0 x1 n y_6 q_4.2) else (
      some (y2, q_4.2)))
def sX6_userIndexOf (t0 : Nat) (x1 : Int32) (Z : ZZ) : Option (Int32 × ZZ) :=
  gd (shC t0 = 13) <|
  sX6_userIndexOf_L2 t0 x1 3000 0 Z
abbrev rmX6_userIndexOf : Room := { frames := 1, cells := 0, slots := 0, locals := 22 }
set_option maxHeartbeats 4000000 in
set_option maxRecDepth 100000 in
theorem kX6_userIndexOf {l : Launch} {D : va_G} {dA : Nat → ClassId} {sa : String → Nat → Nat} {a : Nat → Nat} (hl : l.stackTraces = false) {t0 : Nat} {x1 : Int32} {Z Z' : ZZ} {v : Int32} (hX : sX6_userIndexOf t0 x1 Z = some (v, Z')) : CTi l D dA sa yX6_userIndexOf (wz yX6_userIndexOf cX6_userIndexOf 3 (some .int)) rmX6_userIndexOf [.ref (a t0), .int x1] (cwC dA a Z) v (cwC dA a Z') := by
  refine xm_i hl (by decide +kernel) (Nat.le_of_ble_eq_true rfl) rfl ?_
  intro p e s m args below meth c A Q hC hR
  unfold sX6_userIndexOf at hX
  obtain ⟨g0, hX⟩ := gd_some hX
  have v2 : ∀ (n : Nat) (y2 : Int32) (Z : ZZ), sX6_userIndexOf_L2 t0 x1 n y2 Z = some (v, Z') → xv p l e rmX6_userIndexOf s m args below meth c D A 3 Q (cwC dA a Z) 0 0 2 [(0, .ref (a t0)), (1, .int x1), (2, .int y2)] [] := by
    intro n
    induction n with
    | zero =>
      intro y2 Z hX
      exact absurd hX (by simp [sX6_userIndexOf_L2])
    | succ n ih =>
      intro y2 Z hX
      rw [sX6_userIndexOf_L2] at hX
      refine xv_iload_n (pc := 2) hC dX6_userIndexOf_2 2 rfl rfl ?_
      refine xv_aload_n (pc := 3) hC dX6_userIndexOf_3 0 rfl rfl ?_
      refine xgX6 (v := .int (gI Z t0 5)) (pc := 4) hC dX6_userIndexOf_4 g0 5 (by decide) wf_135 rfl ?_
      refine xv_icmp_ge (tgt := 34) (pc := 7) hC dX6_userIndexOf_7 (by decide) (fun c_1 => ?_) (fun c_1 => ?_)
      · replace hX := if_t c_1 hX
        refine xv_iconst (v := (-1)) (pc := 34) hC dX6_userIndexOf_34 (by decide) ?_
        obtain ⟨h1, h2⟩ := some_pair hX
        exact xv_eqi (W := cwC dA a) h1 h2 (hR _ _ _ _ (Nat.le_of_ble_eq_true rfl) (Nat.le_of_ble_eq_true rfl) dX6_userIndexOf_35)
      · replace hX := if_f c_1 hX
        refine xv_aload_n (pc := 10) hC dX6_userIndexOf_10 0 rfl rfl ?_
        refine xgX6 (v := .ref (a (t0 + 9))) (pc := 11) hC dX6_userIndexOf_11 g0 6 (by decide) wf_137 rfl ?_
        refine xv_iload_n (pc := 14) hC dX6_userIndexOf_14 2 rfl rfl ?_
        obtain ⟨h_2, hX⟩ := gd_some hX
        refine xa_16 (pc := 15) hC dX6_userIndexOf_15 (sh_X6_calls g0) h_2 ?_
        obtain ⟨q_3, hq_3, hX⟩ := bnd_some hX
        refine xv_callVi0 (As := []) (pc := 16) hC (kX1_trunkBits hl hq_3) fV_X1_trunkBits wf_395 (rc_X1 (sh_elC (sh_X6_calls g0) h_2)) rfl ⟨Nat.le_of_ble_eq_true rfl, Nat.le_of_ble_eq_true rfl⟩ rfl (Nat.le_of_ble_eq_true rfl) dX6_userIndexOf_16 ⟨Nat.le_of_ble_eq_true rfl, Nat.le_of_ble_eq_true rfl⟩ ?_
        refine xv_iload_n (pc := 19) hC dX6_userIndexOf_19 1 rfl rfl ?_
        obtain ⟨q_4, hq_4, hX⟩ := bnd_some hX
        refine xv_callNi0 (As := [.int q_3.1, .int x1]) (host := "Switchboard") (pc := 20) hC (kX7_hasBit hl hq_4) fS_X7_hasBit (by decide +kernel) rfl ⟨Nat.le_of_ble_eq_true rfl, Nat.le_of_ble_eq_true rfl⟩ rfl (Nat.le_of_ble_eq_true rfl) dX6_userIndexOf_20 ⟨Nat.le_of_ble_eq_true rfl, Nat.le_of_ble_eq_true rfl⟩ ?_
        refine xv_if_eq (tgt := 28) (pc := 23) hC dX6_userIndexOf_23 (by decide) (fun c_5 => ?_) (fun c_5 => ?_)
        · replace hX := if_t c_5 hX
          obtain ⟨y_6, hy_6, hX⟩ := nm_some hX
          refine xv_iinc (pc := 28) (v := y_6) (lv' := [(2, .int y_6), (0, .ref (a t0)), (1, .int x1)]) hC dX6_userIndexOf_28 2 rfl (by rw [hy_6]; rfl) (by decide) rfl ?_
          refine xv_goto (tgt := 2) (pc := 31) hC dX6_userIndexOf_31 (by decide) ?_
          refine xv_sub (lv' := [(0, .ref (a t0)), (1, .int x1), (2, .int y_6)]) [1, 2, 0] rfl ?_
          exact ih y_6 q_4.2 hX
        · replace hX := if_f c_5 hX
          refine xv_iload_n (pc := 26) hC dX6_userIndexOf_26 2 rfl rfl ?_
          obtain ⟨h1, h2⟩ := some_pair hX
          exact xv_eqi (W := cwC dA a) h1 h2 (hR _ _ _ _ (Nat.le_of_ble_eq_true rfl) (Nat.le_of_ble_eq_true rfl) dX6_userIndexOf_27)
  show xv p l e rmX6_userIndexOf s m args below meth c D A 3 Q (cwC dA a Z) 0 0 0 [(0, .ref (a t0)), (1, .int x1)] []
  refine xv_iconst (v := 0) (pc := 0) hC dX6_userIndexOf_0 (by decide) ?_
  refine xv_istore_n (pc := 1) (lv' := [(2, .int 0), (0, .ref (a t0)), (1, .int x1)]) hC dX6_userIndexOf_1 rfl (by decide) rfl ?_
  refine xv_sub (lv' := [(0, .ref (a t0)), (1, .int x1), (2, .int 0)]) [1, 2, 0] rfl ?_
  exact v2 3000 0 Z hX
def sX6_usedTrunks_L4 (t0 : Nat) : Nat → Int32 → Int32 → ZZ → Option (Int32 × ZZ)
  | 0, _, _, _ => none
  | n + 1, y1, y2, Z =>
  if (gI Z t0 5) ≤ y2 then (
    some (y1, Z)) else (
    gd (vin y2 5 = true) <|
    bnd (sX1_trunkBits (elC (t0 + 9) y2) Z) <| fun q_3 =>
    nm (y1 ||| q_3.1) <| fun y_4 =>
    nm (y2 + 1) <| fun y_5 =>
    sX6_usedTrunks_L4 t0 n y_4 y_5 q_3.2)
def sX6_usedTrunks (t0 : Nat) (Z : ZZ) : Option (Int32 × ZZ) :=
  gd (shC t0 = 13) <|
  sX6_usedTrunks_L4 t0 3000 0 0 Z
abbrev rmX6_usedTrunks : Room := { frames := 1, cells := 0, slots := 0, locals := 22 }
set_option maxHeartbeats 4000000 in
set_option maxRecDepth 100000 in
theorem kX6_usedTrunks {l : Launch} {D : va_G} {dA : Nat → ClassId} {sa : String → Nat → Nat} {a : Nat → Nat} (hl : l.stackTraces = false) {t0 : Nat} {Z Z' : ZZ} {v : Int32} (hX : sX6_usedTrunks t0 Z = some (v, Z')) : CTi l D dA sa yX6_usedTrunks (wz yX6_usedTrunks cX6_usedTrunks 3 (some .int)) rmX6_usedTrunks [.ref (a t0)] (cwC dA a Z) v (cwC dA a Z') := by
  refine xm_i hl (by decide +kernel) (Nat.le_of_ble_eq_true rfl) rfl ?_
  intro p e s m args below meth c A Q hC hR
  unfold sX6_usedTrunks at hX
  obtain ⟨g0, hX⟩ := gd_some hX
  have v4 : ∀ (n : Nat) (y1 : Int32) (y2 : Int32) (Z : ZZ), sX6_usedTrunks_L4 t0 n y1 y2 Z = some (v, Z') → xv p l e rmX6_usedTrunks s m args below meth c D A 3 Q (cwC dA a Z) 0 0 4 [(0, .ref (a t0)), (1, .int y1), (2, .int y2)] [] := by
    intro n
    induction n with
    | zero =>
      intro y1 y2 Z hX
      exact absurd hX (by simp [sX6_usedTrunks_L4])
    | succ n ih =>
      intro y1 y2 Z hX
      rw [sX6_usedTrunks_L4] at hX
      refine xv_iload_n (pc := 4) hC dX6_usedTrunks_4 2 rfl rfl ?_
      refine xv_aload_n (pc := 5) hC dX6_usedTrunks_5 0 rfl rfl ?_
      refine xgX6 (v := .int (gI Z t0 5)) (pc := 6) hC dX6_usedTrunks_6 g0 5 (by decide) wf_135 rfl ?_
      refine xv_icmp_ge (tgt := 30) (pc := 9) hC dX6_usedTrunks_9 (by decide) (fun c_1 => ?_) (fun c_1 => ?_)
      · replace hX := if_t c_1 hX
        refine xv_iload_n (pc := 30) hC dX6_usedTrunks_30 1 rfl rfl ?_
        obtain ⟨h1, h2⟩ := some_pair hX
        exact xv_eqi (W := cwC dA a) h1 h2 (hR _ _ _ _ (Nat.le_of_ble_eq_true rfl) (Nat.le_of_ble_eq_true rfl) dX6_usedTrunks_31)
      · replace hX := if_f c_1 hX
        refine xv_iload_n (pc := 12) hC dX6_usedTrunks_12 1 rfl rfl ?_
        refine xv_aload_n (pc := 13) hC dX6_usedTrunks_13 0 rfl rfl ?_
        refine xgX6 (v := .ref (a (t0 + 9))) (pc := 14) hC dX6_usedTrunks_14 g0 6 (by decide) wf_137 rfl ?_
        refine xv_iload_n (pc := 17) hC dX6_usedTrunks_17 2 rfl rfl ?_
        obtain ⟨h_2, hX⟩ := gd_some hX
        refine xa_16 (pc := 18) hC dX6_usedTrunks_18 (sh_X6_calls g0) h_2 ?_
        obtain ⟨q_3, hq_3, hX⟩ := bnd_some hX
        refine xv_callVi0 (As := []) (pc := 19) hC (kX1_trunkBits hl hq_3) fV_X1_trunkBits wf_395 (rc_X1 (sh_elC (sh_X6_calls g0) h_2)) rfl ⟨Nat.le_of_ble_eq_true rfl, Nat.le_of_ble_eq_true rfl⟩ rfl (Nat.le_of_ble_eq_true rfl) dX6_usedTrunks_19 ⟨Nat.le_of_ble_eq_true rfl, Nat.le_of_ble_eq_true rfl⟩ ?_
        refine xv_ior (pc := 22) hC dX6_usedTrunks_22 ?_
        obtain ⟨y_4, hy_4, hX⟩ := nm_some hX
        refine xv_nmi hy_4 ?_
        refine xv_istore_n (pc := 23) (lv' := [(1, .int y_4), (0, .ref (a t0)), (2, .int y2)]) hC dX6_usedTrunks_23 rfl (by decide) rfl ?_
        obtain ⟨y_5, hy_5, hX⟩ := nm_some hX
        refine xv_iinc (pc := 24) (v := y_5) (lv' := [(2, .int y_5), (1, .int y_4), (0, .ref (a t0))]) hC dX6_usedTrunks_24 2 rfl (by rw [hy_5]; rfl) (by decide) rfl ?_
        refine xv_goto (tgt := 4) (pc := 27) hC dX6_usedTrunks_27 (by decide) ?_
        refine xv_sub (lv' := [(0, .ref (a t0)), (1, .int y_4), (2, .int y_5)]) [2, 1, 0] rfl ?_
        exact ih y_4 y_5 q_3.2 hX
  show xv p l e rmX6_usedTrunks s m args below meth c D A 3 Q (cwC dA a Z) 0 0 0 [(0, .ref (a t0))] []
  refine xv_iconst (v := 0) (pc := 0) hC dX6_usedTrunks_0 (by decide) ?_
  refine xv_istore_n (pc := 1) (lv' := [(1, .int 0), (0, .ref (a t0))]) hC dX6_usedTrunks_1 rfl (by decide) rfl ?_
  refine xv_iconst (v := 0) (pc := 2) hC dX6_usedTrunks_2 (by decide) ?_
  refine xv_istore_n (pc := 3) (lv' := [(2, .int 0), (1, .int 0), (0, .ref (a t0))]) hC dX6_usedTrunks_3 rfl (by decide) rfl ?_
  refine xv_sub (lv' := [(0, .ref (a t0)), (1, .int 0), (2, .int 0)]) [2, 1, 0] rfl ?_
  exact v4 3000 0 0 Z hX
def sX6_freeTrunks (t0 : Nat) (Z : ZZ) : Option (Int32 × ZZ) :=
  gd (shC t0 = 13) <|
  bnd (sX3_allTrunks (t0 + 1) Z) <| fun q_1 =>
  bnd (sX6_usedTrunks t0 q_1.2) <| fun q_2 =>
  some ((q_1.1 &&& ((gI q_1.2 (t0 + 1) 6) ^^^ (-1))) &&& (q_2.1 ^^^ (-1)), q_2.2)
abbrev rmX6_freeTrunks : Room := { frames := 2, cells := 0, slots := 0, locals := 44 }
set_option maxHeartbeats 4000000 in
set_option maxRecDepth 100000 in
theorem kX6_freeTrunks {l : Launch} {D : va_G} {dA : Nat → ClassId} {sa : String → Nat → Nat} {a : Nat → Nat} (hl : l.stackTraces = false) {t0 : Nat} {Z Z' : ZZ} {v : Int32} (hX : sX6_freeTrunks t0 Z = some (v, Z')) : CTi l D dA sa yX6_freeTrunks (wz yX6_freeTrunks cX6_freeTrunks 1 (some .int)) rmX6_freeTrunks [.ref (a t0)] (cwC dA a Z) v (cwC dA a Z') := by
  refine xm_i hl (by decide +kernel) (Nat.le_of_ble_eq_true rfl) rfl ?_
  intro p e s m args below meth c A Q hC hR
  unfold sX6_freeTrunks at hX
  obtain ⟨g0, hX⟩ := gd_some hX
  show xv p l e rmX6_freeTrunks s m args below meth c D A 1 Q (cwC dA a Z) 0 0 0 [(0, .ref (a t0))] []
  refine xv_aload_n (pc := 0) hC dX6_freeTrunks_0 0 rfl rfl ?_
  refine xgX6 (v := .ref (a (t0 + 1))) (pc := 1) hC dX6_freeTrunks_1 g0 0 (by decide) wf_126 rfl ?_
  obtain ⟨q_1, hq_1, hX⟩ := bnd_some hX
  refine xv_callVi0 (As := []) (pc := 4) hC (kX3_allTrunks hl hq_1) fV_X3_allTrunks wf_384 (rc_X3 (sh_X6_network g0)) rfl ⟨Nat.le_of_ble_eq_true rfl, Nat.le_of_ble_eq_true rfl⟩ rfl (Nat.le_of_ble_eq_true rfl) dX6_freeTrunks_4 ⟨Nat.le_of_ble_eq_true rfl, Nat.le_of_ble_eq_true rfl⟩ ?_
  refine xv_aload_n (pc := 7) hC dX6_freeTrunks_7 0 rfl rfl ?_
  refine xgX6 (v := .ref (a (t0 + 1))) (pc := 8) hC dX6_freeTrunks_8 g0 0 (by decide) wf_126 rfl ?_
  refine xgX3 (v := .int (gI q_1.2 (t0 + 1) 6)) (pc := 11) hC dX6_freeTrunks_11 (sh_X6_network g0) 6 (by decide) wf_71 rfl ?_
  refine xv_iconst (v := (-1)) (pc := 14) hC dX6_freeTrunks_14 (by decide) ?_
  refine xv_ixor (pc := 15) hC dX6_freeTrunks_15 ?_
  refine xv_iand (pc := 16) hC dX6_freeTrunks_16 ?_
  refine xv_aload_n (pc := 17) hC dX6_freeTrunks_17 0 rfl rfl ?_
  obtain ⟨q_2, hq_2, hX⟩ := bnd_some hX
  refine xv_callVi0 (As := []) (pc := 18) hC (kX6_usedTrunks hl hq_2) fV_X6_usedTrunks wf_391 (rc_X6 g0) rfl ⟨Nat.le_of_ble_eq_true rfl, Nat.le_of_ble_eq_true rfl⟩ rfl (Nat.le_of_ble_eq_true rfl) dX6_freeTrunks_18 ⟨Nat.le_of_ble_eq_true rfl, Nat.le_of_ble_eq_true rfl⟩ ?_
  refine xv_iconst (v := (-1)) (pc := 21) hC dX6_freeTrunks_21 (by decide) ?_
  refine xv_ixor (pc := 22) hC dX6_freeTrunks_22 ?_
  refine xv_iand (pc := 23) hC dX6_freeTrunks_23 ?_
  obtain ⟨h1, h2⟩ := some_pair hX
  exact xv_eqi (W := cwC dA a) h1 h2 (hR _ _ _ _ (Nat.le_of_ble_eq_true rfl) (Nat.le_of_ble_eq_true rfl) dX6_freeTrunks_24)
def sX6_beginCall (t0 : Nat) (x1 : Int32) (x2 : Int32) (Z : ZZ) : Option (Int32 × ZZ) :=
  gd (shC t0 = 13) <|
  if (gI Z t0 5) < 5 then (
    gd (vin (gI Z t0 5) 5 = true) <|
    nm (pI Z (elC (t0 + 9) (gI Z t0 5)) 0 x1) <| fun Z_3 =>
    nm (pI Z_3 (elC (t0 + 9) (gI Z t0 5)) 1 x2) <| fun Z_4 =>
    nm (pI Z_4 (elC (t0 + 9) (gI Z t0 5)) 2 0) <| fun Z_5 =>
    bnd (sX1_takeRoute (elC (t0 + 9) (gI Z t0 5)) Z_5) <| fun q_6 =>
    nm (pI q_6 t0 5 ((gI q_6 t0 5) + 1)) <| fun Z_7 =>
    some (gI Z_7 (elC (t0 + 9) (gI Z t0 5)) 4, Z_7)) else (
    some ((-1), Z))
abbrev rmX6_beginCall : Room := { frames := 3, cells := 0, slots := 0, locals := 102 }
set_option maxHeartbeats 4000000 in
set_option maxRecDepth 100000 in
theorem kX6_beginCall {l : Launch} {D : va_G} {dA : Nat → ClassId} {sa : String → Nat → Nat} {a : Nat → Nat} (hl : l.stackTraces = false) {t0 : Nat} {x1 : Int32} {x2 : Int32} {Z Z' : ZZ} {v : Int32} (hX : sX6_beginCall t0 x1 x2 Z = some (v, Z')) : CTi l D dA sa yX6_beginCall (wz yX6_beginCall cX6_beginCall 5 (some .int)) rmX6_beginCall [.ref (a t0), .int x1, .int x2, .ref (a 13)] (cwC dA a Z) v (cwC dA a Z') := by
  refine xm_i hl (by decide +kernel) (Nat.le_of_ble_eq_true rfl) rfl ?_
  intro p e s m args below meth c A Q hC hR
  unfold sX6_beginCall at hX
  obtain ⟨g0, hX⟩ := gd_some hX
  show xv p l e rmX6_beginCall s m args below meth c D A 5 Q (cwC dA a Z) 0 0 0 [(0, .ref (a t0)), (1, .int x1), (2, .int x2), (3, .ref (a 13))] []
  refine xv_aload_n (pc := 0) hC dX6_beginCall_0 0 rfl rfl ?_
  refine xgX6 (v := .int (gI Z t0 5)) (pc := 1) hC dX6_beginCall_1 g0 5 (by decide) wf_135 rfl ?_
  refine xv_iconst (v := 5) (pc := 4) hC dX6_beginCall_4 (by decide) ?_
  refine xv_icmp_lt (tgt := 10) (pc := 5) hC dX6_beginCall_5 (by decide) (fun c_1 => ?_) (fun c_1 => ?_)
  · replace hX := if_t c_1 hX
    refine xv_aload_n (pc := 10) hC dX6_beginCall_10 0 rfl rfl ?_
    refine xgX6 (v := .ref (a (t0 + 9))) (pc := 11) hC dX6_beginCall_11 g0 6 (by decide) wf_137 rfl ?_
    refine xv_aload_n (pc := 14) hC dX6_beginCall_14 0 rfl rfl ?_
    refine xgX6 (v := .int (gI Z t0 5)) (pc := 15) hC dX6_beginCall_15 g0 5 (by decide) wf_135 rfl ?_
    obtain ⟨h_2, hX⟩ := gd_some hX
    refine xa_16 (pc := 18) hC dX6_beginCall_18 (sh_X6_calls g0) h_2 ?_
    refine xv_astore (pc := 19) (lv' := [(4, .ref (a (elC (t0 + 9) (gI Z t0 5)))), (0, .ref (a t0)), (1, .int x1), (2, .int x2), (3, .ref (a 13))]) hC dX6_beginCall_19 (by decide) rfl ?_
    refine xv_aload (pc := 21) hC dX6_beginCall_21 0 rfl ?_
    refine xv_iload_n (pc := 23) hC dX6_beginCall_23 2 rfl rfl ?_
    obtain ⟨Z_3, hZ_3, hX⟩ := nm_some hX
    refine xpX1 (ty := .int) (pc := 24) hC dX6_beginCall_24 (sh_elC (sh_X6_calls g0) h_2) 0 (by decide) wf_97 rfl (by decide +kernel) rfl rfl rfl hZ_3 ?_
    refine xv_aload (pc := 27) hC dX6_beginCall_27 0 rfl ?_
    refine xv_iload_n (pc := 29) hC dX6_beginCall_29 3 rfl rfl ?_
    obtain ⟨Z_4, hZ_4, hX⟩ := nm_some hX
    refine xpX1 (ty := .int) (pc := 30) hC dX6_beginCall_30 (sh_elC (sh_X6_calls g0) h_2) 1 (by decide) wf_100 rfl (by decide +kernel) rfl rfl rfl hZ_4 ?_
    refine xv_aload (pc := 33) hC dX6_beginCall_33 0 rfl ?_
    refine xv_iconst (v := 0) (pc := 35) hC dX6_beginCall_35 (by decide) ?_
    obtain ⟨Z_5, hZ_5, hX⟩ := nm_some hX
    refine xpX1 (ty := .int) (pc := 36) hC dX6_beginCall_36 (sh_elC (sh_X6_calls g0) h_2) 2 (by decide) wf_103 rfl (by decide +kernel) rfl rfl rfl hZ_5 ?_
    refine xv_aload (pc := 39) hC dX6_beginCall_39 0 rfl ?_
    refine xv_aload_n (pc := 41) hC dX6_beginCall_41 4 rfl rfl ?_
    obtain ⟨q_6, hq_6, hX⟩ := bnd_some hX
    refine xv_callVv0 (As := [.ref (a 13)]) (pc := 42) hC (kX1_takeRoute hl hq_6) fV_X1_takeRoute wf_1036 (rc_X1 (sh_elC (sh_X6_calls g0) h_2)) rfl ⟨Nat.le_of_ble_eq_true rfl, Nat.le_of_ble_eq_true rfl⟩ rfl (Nat.le_of_ble_eq_true rfl) dX6_beginCall_42 ⟨Nat.le_of_ble_eq_true rfl, Nat.le_of_ble_eq_true rfl⟩ ?_
    refine xv_aload_n (pc := 45) hC dX6_beginCall_45 1 rfl rfl ?_
    refine xv_dup (pc := 46) hC dX6_beginCall_46 rfl ?_
    refine xgX6 (v := .int (gI q_6 t0 5)) (pc := 47) hC dX6_beginCall_47 g0 5 (by decide) wf_135 rfl ?_
    refine xv_iconst (v := 1) (pc := 50) hC dX6_beginCall_50 (by decide) ?_
    refine xv_iadd (pc := 51) hC dX6_beginCall_51 ?_
    obtain ⟨Z_7, hZ_7, hX⟩ := nm_some hX
    refine xpX6 (ty := .int) (pc := 52) hC dX6_beginCall_52 g0 5 (by decide) wf_135 rfl (by decide +kernel) rfl rfl rfl hZ_7 ?_
    refine xv_aload (pc := 55) hC dX6_beginCall_55 0 rfl ?_
    refine xgX1 (v := .int (gI Z_7 (elC (t0 + 9) (gI Z t0 5)) 4)) (pc := 57) hC dX6_beginCall_57 (sh_elC (sh_X6_calls g0) h_2) 4 (by decide) wf_109 rfl ?_
    obtain ⟨h1, h2⟩ := some_pair hX
    exact xv_eqi (W := cwC dA a) h1 h2 (hR _ _ _ _ (Nat.le_of_ble_eq_true rfl) (Nat.le_of_ble_eq_true rfl) dX6_beginCall_60)
  · replace hX := if_f c_1 hX
    refine xv_iconst (v := (-1)) (pc := 8) hC dX6_beginCall_8 (by decide) ?_
    obtain ⟨h1, h2⟩ := some_pair hX
    exact xv_eqi (W := cwC dA a) h1 h2 (hR _ _ _ _ (Nat.le_of_ble_eq_true rfl) (Nat.le_of_ble_eq_true rfl) dX6_beginCall_9)
def sX6_chargeOf_B24 (t0 : Nat) (t1 : Nat) (u0 : Int32) (Z : ZZ) : Option (Int32 × ZZ) :=
  if u0 = 0 then (
    some (25, Z)) else (
    nm ((gI Z t1 2) * ((gI Z t1 4) + 1)) <| fun y_2 =>
    if u0 = 1 then (
      some (y_2, Z)) else (
      some ((y_2 + 1) / 2, Z)))
def sX6_chargeOf (t0 : Nat) (t1 : Nat) (Z : ZZ) : Option (Int32 × ZZ) :=
  gd (shC t0 = 13) <|
  gd (shC t1 = 17) <|
  bnd (sX6_hasSubscriber t0 (gI Z t1 0) Z) <| fun q_4 =>
  if q_4.1 = 0 then (
    sX6_chargeOf_B24 t0 t1 0 q_4.2) else (
    gd (vin (gI q_4.2 t1 0) 10 = true) <|
    sX6_chargeOf_B24 t0 t1 (gI q_4.2 (t0 + 7) (gI q_4.2 t1 0).toNatClampNeg) q_4.2)
abbrev rmX6_chargeOf : Room := { frames := 1, cells := 0, slots := 0, locals := 21 }
set_option maxHeartbeats 4000000 in
set_option maxRecDepth 100000 in
theorem kX6_chargeOf {l : Launch} {D : va_G} {dA : Nat → ClassId} {sa : String → Nat → Nat} {a : Nat → Nat} (hl : l.stackTraces = false) {t0 : Nat} {t1 : Nat} {Z Z' : ZZ} {v : Int32} (hX : sX6_chargeOf t0 t1 Z = some (v, Z')) : CTi l D dA sa yX6_chargeOf (wz yX6_chargeOf cX6_chargeOf 4 (some .int)) rmX6_chargeOf [.ref (a t0), .ref (a t1)] (cwC dA a Z) v (cwC dA a Z') := by
  refine xm_i hl (by decide +kernel) (Nat.le_of_ble_eq_true rfl) rfl ?_
  intro p e s m args below meth c A Q hC hR
  unfold sX6_chargeOf at hX
  obtain ⟨g0, hX⟩ := gd_some hX
  obtain ⟨g1, hX⟩ := gd_some hX
  have v24 : ∀ (u0 : Int32) (Z : ZZ), sX6_chargeOf_B24 t0 t1 u0 Z = some (v, Z') → xv p l e rmX6_chargeOf s m args below meth c D A 4 Q (cwC dA a Z) 0 0 24 [(0, .ref (a t0)), (1, .ref (a t1))] [.int u0] := by
    intro u0 Z hX
    unfold sX6_chargeOf_B24 at hX
    refine xv_istore_n (pc := 24) (lv' := [(2, .int u0), (0, .ref (a t0)), (1, .ref (a t1))]) hC dX6_chargeOf_24 rfl (by decide) rfl ?_
    refine xv_iload_n (pc := 25) hC dX6_chargeOf_25 0 rfl rfl ?_
    refine xv_if_ne (tgt := 32) (pc := 26) hC dX6_chargeOf_26 (by decide) (fun c_1 => ?_) (fun c_1 => ?_)
    · replace hX := if_f c_1 hX
      refine xv_aload_n (pc := 32) hC dX6_chargeOf_32 2 rfl rfl ?_
      refine xgX1 (v := .int (gI Z t1 2)) (pc := 33) hC dX6_chargeOf_33 g1 2 (by decide) wf_103 rfl ?_
      refine xv_aload_n (pc := 36) hC dX6_chargeOf_36 2 rfl rfl ?_
      refine xgX1 (v := .int (gI Z t1 4)) (pc := 37) hC dX6_chargeOf_37 g1 4 (by decide) wf_109 rfl ?_
      refine xv_iconst (v := 1) (pc := 40) hC dX6_chargeOf_40 (by decide) ?_
      refine xv_iadd (pc := 41) hC dX6_chargeOf_41 ?_
      refine xv_imul (pc := 42) hC dX6_chargeOf_42 ?_
      obtain ⟨y_2, hy_2, hX⟩ := nm_some hX
      refine xv_nmi hy_2 ?_
      refine xv_istore_n (pc := 43) (lv' := [(3, .int y_2), (2, .int u0), (0, .ref (a t0)), (1, .ref (a t1))]) hC dX6_chargeOf_43 rfl (by decide) rfl ?_
      refine xv_iload_n (pc := 44) hC dX6_chargeOf_44 1 rfl rfl ?_
      refine xv_iconst (v := 1) (pc := 45) hC dX6_chargeOf_45 (by decide) ?_
      refine xv_icmp_ne (tgt := 53) (pc := 46) hC dX6_chargeOf_46 (by decide) (fun c_3 => ?_) (fun c_3 => ?_)
      · replace hX := if_f c_3 hX
        refine xv_iload_n (pc := 53) hC dX6_chargeOf_53 0 rfl rfl ?_
        refine xv_iconst (v := 1) (pc := 54) hC dX6_chargeOf_54 (by decide) ?_
        refine xv_iadd (pc := 55) hC dX6_chargeOf_55 ?_
        refine xv_iconst (v := 2) (pc := 56) hC dX6_chargeOf_56 (by decide) ?_
        refine xv_idiv (pc := 57) hC dX6_chargeOf_57 (by decide) ?_
        obtain ⟨h1, h2⟩ := some_pair hX
        exact xv_eqi (W := cwC dA a) h1 h2 (hR _ _ _ _ (Nat.le_of_ble_eq_true rfl) (Nat.le_of_ble_eq_true rfl) dX6_chargeOf_58)
      · replace hX := if_t c_3 hX
        refine xv_iload_n (pc := 49) hC dX6_chargeOf_49 0 rfl rfl ?_
        refine xv_goto (tgt := 58) (pc := 50) hC dX6_chargeOf_50 (by decide) ?_
        obtain ⟨h1, h2⟩ := some_pair hX
        exact xv_eqi (W := cwC dA a) h1 h2 (hR _ _ _ _ (Nat.le_of_ble_eq_true rfl) (Nat.le_of_ble_eq_true rfl) dX6_chargeOf_58)
    · replace hX := if_t c_1 hX
      refine xv_bipush (v := 25) (pc := 29) hC dX6_chargeOf_29 (by decide) ?_
      obtain ⟨h1, h2⟩ := some_pair hX
      exact xv_eqi (W := cwC dA a) h1 h2 (hR _ _ _ _ (Nat.le_of_ble_eq_true rfl) (Nat.le_of_ble_eq_true rfl) dX6_chargeOf_31)
  show xv p l e rmX6_chargeOf s m args below meth c D A 4 Q (cwC dA a Z) 0 0 0 [(0, .ref (a t0)), (1, .ref (a t1))] []
  refine xv_aload_n (pc := 0) hC dX6_chargeOf_0 0 rfl rfl ?_
  refine xv_aload_n (pc := 1) hC dX6_chargeOf_1 1 rfl rfl ?_
  refine xgX1 (v := .int (gI Z t1 0)) (pc := 2) hC dX6_chargeOf_2 g1 0 (by decide) wf_97 rfl ?_
  obtain ⟨q_4, hq_4, hX⟩ := bnd_some hX
  refine xv_callVi0 (As := [.int (gI Z t1 0)]) (pc := 5) hC (kX6_hasSubscriber hl hq_4) fV_X6_hasSubscriber wf_935 (rc_X6 g0) rfl ⟨Nat.le_of_ble_eq_true rfl, Nat.le_of_ble_eq_true rfl⟩ rfl (Nat.le_of_ble_eq_true rfl) dX6_chargeOf_5 ⟨Nat.le_of_ble_eq_true rfl, Nat.le_of_ble_eq_true rfl⟩ ?_
  refine xv_if_eq (tgt := 23) (pc := 8) hC dX6_chargeOf_8 (by decide) (fun c_5 => ?_) (fun c_5 => ?_)
  · replace hX := if_t c_5 hX
    refine xv_iconst (v := 0) (pc := 23) hC dX6_chargeOf_23 (by decide) ?_
    exact v24 0 q_4.2 hX
  · replace hX := if_f c_5 hX
    refine xv_aload_n (pc := 11) hC dX6_chargeOf_11 0 rfl rfl ?_
    refine xgX6 (v := .ref (a (t0 + 7))) (pc := 12) hC dX6_chargeOf_12 g0 3 (by decide) wf_131 rfl ?_
    refine xv_aload_n (pc := 15) hC dX6_chargeOf_15 1 rfl rfl ?_
    refine xgX1 (v := .int (gI q_4.2 t1 0)) (pc := 16) hC dX6_chargeOf_16 g1 0 (by decide) wf_97 rfl ?_
    obtain ⟨h_6, hX⟩ := gd_some hX
    refine xl_C15 (pc := 19) hC dX6_chargeOf_19 (sh_X6_tariffs g0) h_6 ?_
    refine xv_goto (tgt := 24) (pc := 20) hC dX6_chargeOf_20 (by decide) ?_
    exact v24 (gI q_4.2 (t0 + 7) (gI q_4.2 t1 0).toNatClampNeg) q_4.2 hX
