def sX8_isConsistent (Z : ZZ) : Option (Int32 × ZZ) :=
  bnd (sX8_plain 1 Z) <| fun q_1 =>
  if q_1.1 = 1 then (
    some (1, q_1.2)) else (
    some (0, q_1.2))
abbrev rmX8_isConsistent : Room := { frames := 1, cells := 0, slots := 0, locals := 21 }
set_option maxHeartbeats 4000000 in
set_option maxRecDepth 100000 in
theorem kX8_isConsistent {l : Launch} {D : va_G} {dA : Nat → ClassId} {sa : String → Nat → Nat} {a : Nat → Nat} (hl : l.stackTraces = false) {Z Z' : ZZ} {v : Int32} (hX : sX8_isConsistent Z = some (v, Z')) : CTi l D dA sa yX8_isConsistent (wz yX8_isConsistent cX8_isConsistent 1 (some .boolean)) rmX8_isConsistent [.ref (a 0)] (cwR dA a Z) v (cwR dA a Z') := by
  refine xm_z hl (by decide +kernel) (Nat.le_of_ble_eq_true rfl) rfl ?_
  intro p e s m args below meth c A Q hC hR
  unfold sX8_isConsistent at hX
  show xv p l e rmX8_isConsistent s m args below meth c D A 1 Q (cwR dA a Z) 0 0 0 [(0, .ref (a 0))] []
  refine xv_aload_n (pc := 0) hC dX8_isConsistent_0 0 rfl rfl ?_
  refine xv_iconst (v := 1) (pc := 1) hC dX8_isConsistent_1 (by decide) ?_
  obtain ⟨q_1, hq_1, hX⟩ := bnd_some hX
  refine xv_callVi0 (As := [.int 1]) (pc := 2) hC (kX8_plain hl hq_1) fV_X8_plain wf_1827 (rc_X8 (rfl : shR 0 = 1)) rfl ⟨Nat.le_of_ble_eq_true rfl, Nat.le_of_ble_eq_true rfl⟩ rfl (Nat.le_of_ble_eq_true rfl) dX8_isConsistent_2 ⟨Nat.le_of_ble_eq_true rfl, Nat.le_of_ble_eq_true rfl⟩ ?_
  refine xv_iconst (v := 1) (pc := 5) hC dX8_isConsistent_5 (by decide) ?_
  refine xv_icmp_ne (tgt := 13) (pc := 6) hC dX8_isConsistent_6 (by decide) (fun c_2 => ?_) (fun c_2 => ?_)
  · replace hX := if_f c_2 hX
    refine xv_iconst (v := 0) (pc := 13) hC dX8_isConsistent_13 (by decide) ?_
    obtain ⟨h1, h2⟩ := some_pair hX
    exact xv_eqi (W := cwR dA a) h1 h2 (hR _ _ _ _ (by rw [← h1]; exact (by decide)) (Nat.le_of_ble_eq_true rfl) (Nat.le_of_ble_eq_true rfl) dX8_isConsistent_14)
  · replace hX := if_t c_2 hX
    refine xv_iconst (v := 1) (pc := 9) hC dX8_isConsistent_9 (by decide) ?_
    refine xv_goto (tgt := 14) (pc := 10) hC dX8_isConsistent_10 (by decide) ?_
    obtain ⟨h1, h2⟩ := some_pair hX
    exact xv_eqi (W := cwR dA a) h1 h2 (hR _ _ _ _ (by rw [← h1]; exact (by decide)) (Nat.le_of_ble_eq_true rfl) (Nat.le_of_ble_eq_true rfl) dX8_isConsistent_14)
def sX8_write (x1 : Int32) (Z : ZZ) : Option (ZZ) :=
  gd (vin (gI Z 0 16) 80 = true) <|
  nm (pI Z 9 (gI Z 0 16).toNatClampNeg x1) <| fun Z_2 =>
  nm (pI Z_2 0 16 ((gI Z_2 0 16) + 1)) <| fun Z_3 =>
  some Z_3
abbrev rmX8_write : Room := { frames := 0, cells := 0, slots := 0, locals := 0 }
set_option maxHeartbeats 4000000 in
set_option maxRecDepth 100000 in
theorem kX8_write {l : Launch} {D : va_G} {dA : Nat → ClassId} {sa : String → Nat → Nat} {a : Nat → Nat} (hl : l.stackTraces = false) {x1 : Int32} {Z Z' : ZZ} (hX : sX8_write x1 Z = some Z') : CTv l D dA sa yX8_write (wz yX8_write cX8_write 2 none) rmX8_write [.ref (a 0), .int x1] (cwR dA a Z) (cwR dA a Z') := by
  refine xm_v hl (by decide +kernel) (Nat.le_of_ble_eq_true rfl) rfl ?_
  intro p e s m args below meth c A Q hC hR
  unfold sX8_write at hX
  show xv p l e rmX8_write s m args below meth c D A 2 Q (cwR dA a Z) 0 0 0 [(0, .ref (a 0)), (1, .int x1)] []
  refine xv_aload_n (pc := 0) hC dX8_write_0 0 rfl rfl ?_
  refine xgX8 (v := .ref (a 9)) (pc := 1) hC dX8_write_1 (rfl : shR 0 = 1) 15 (by decide) wf_1568 rfl ?_
  refine xv_aload_n (pc := 4) hC dX8_write_4 0 rfl rfl ?_
  refine xgX8 (v := .int (gI Z 0 16)) (pc := 5) hC dX8_write_5 (rfl : shR 0 = 1) 16 (by decide) wf_1569 rfl ?_
  refine xv_iload_n (pc := 8) hC dX8_write_8 1 rfl rfl ?_
  obtain ⟨h_1, hX⟩ := gd_some hX
  obtain ⟨Z_2, hZ_2, hX⟩ := nm_some hX
  refine xs_R6 (pc := 9) hC dX8_write_9 (rfl : shR 9 = 6) h_1 hZ_2 ?_
  refine xv_aload_n (pc := 10) hC dX8_write_10 0 rfl rfl ?_
  refine xv_dup (pc := 11) hC dX8_write_11 rfl ?_
  refine xgX8 (v := .int (gI Z_2 0 16)) (pc := 12) hC dX8_write_12 (rfl : shR 0 = 1) 16 (by decide) wf_1569 rfl ?_
  refine xv_iconst (v := 1) (pc := 15) hC dX8_write_15 (by decide) ?_
  refine xv_iadd (pc := 16) hC dX8_write_16 ?_
  obtain ⟨Z_3, hZ_3, hX⟩ := nm_some hX
  refine xpX8 (ty := .int) (pc := 17) hC dX8_write_17 (rfl : shR 0 = 1) 16 (by decide) wf_1569 rfl (by decide +kernel) rfl rfl rfl hZ_3 ?_
  exact xv_eqw (W := cwR dA a) (Option.some.inj hX) (hR _ _ _ _ (Nat.le_of_ble_eq_true rfl) (Nat.le_of_ble_eq_true rfl) dX8_write_20)
def sX8_writeNumber_L18 (x1 : Int32) : Nat → Int32 → ZZ → Option (ZZ)
  | 0, _, _ => none
  | n + 1, y2, Z =>
  if y2 ≤ 0 then (
    some Z) else (
    gd (¬ y2 = 0) <|
    bnd (sX8_write (48 + ((x1 / y2) - (x1 / y2) / 10 * 10)) Z) <| fun q_3 =>
    nm (y2 / 10) <| fun y_4 =>
    sX8_writeNumber_L18 x1 n y_4 q_3)
def sX8_writeNumber_L2 (x1 : Int32) : Nat → Int32 → ZZ → Option (ZZ)
  | 0, _, _ => none
  | n + 1, y2, Z =>
  gd (¬ y2 = 0) <|
  if (x1 / y2) ≤ 9 then (
    sX8_writeNumber_L18 x1 3000 y2 Z) else (
    nm (y2 * 10) <| fun y_7 =>
    sX8_writeNumber_L2 x1 n y_7 Z)
def sX8_writeNumber (x1 : Int32) (Z : ZZ) : Option (ZZ) :=
  sX8_writeNumber_L2 x1 3000 1 Z
abbrev rmX8_writeNumber : Room := { frames := 1, cells := 0, slots := 0, locals := 21 }
set_option maxHeartbeats 4000000 in
set_option maxRecDepth 100000 in
theorem kX8_writeNumber {l : Launch} {D : va_G} {dA : Nat → ClassId} {sa : String → Nat → Nat} {a : Nat → Nat} (hl : l.stackTraces = false) {x1 : Int32} {Z Z' : ZZ} (hX : sX8_writeNumber x1 Z = some Z') : CTv l D dA sa yX8_writeNumber (wz yX8_writeNumber cX8_writeNumber 3 none) rmX8_writeNumber [.ref (a 0), .int x1] (cwR dA a Z) (cwR dA a Z') := by
  refine xm_v hl (by decide +kernel) (Nat.le_of_ble_eq_true rfl) rfl ?_
  intro p e s m args below meth c A Q hC hR
  unfold sX8_writeNumber at hX
  have v18 : ∀ (n : Nat) (y2 : Int32) (Z : ZZ), sX8_writeNumber_L18 x1 n y2 Z = some Z' → xv p l e rmX8_writeNumber s m args below meth c D A 3 Q (cwR dA a Z) 0 0 18 [(0, .ref (a 0)), (1, .int x1), (2, .int y2)] [] := by
    intro n
    induction n with
    | zero =>
      intro y2 Z hX
      exact absurd hX (by simp [sX8_writeNumber_L18])
    | succ n ih =>
      intro y2 Z hX
      rw [sX8_writeNumber_L18] at hX
      refine xv_iload_n (pc := 18) hC dX8_writeNumber_18 2 rfl rfl ?_
      refine xv_if_le (tgt := 43) (pc := 19) hC dX8_writeNumber_19 (by decide) (fun c_1 => ?_) (fun c_1 => ?_)
      · replace hX := if_t c_1 hX
        exact xv_eqw (W := cwR dA a) (Option.some.inj hX) (hR _ _ _ _ (Nat.le_of_ble_eq_true rfl) (Nat.le_of_ble_eq_true rfl) dX8_writeNumber_43)
      · replace hX := if_f c_1 hX
        refine xv_aload_n (pc := 22) hC dX8_writeNumber_22 0 rfl rfl ?_
        refine xv_bipush (v := 48) (pc := 23) hC dX8_writeNumber_23 (by decide) ?_
        refine xv_iload_n (pc := 25) hC dX8_writeNumber_25 1 rfl rfl ?_
        refine xv_iload_n (pc := 26) hC dX8_writeNumber_26 2 rfl rfl ?_
        obtain ⟨h_2, hX⟩ := gd_some hX
        refine xv_idiv (pc := 27) hC dX8_writeNumber_27 h_2 ?_
        refine xv_bipush (v := 10) (pc := 28) hC dX8_writeNumber_28 (by decide) ?_
        refine xv_irem (pc := 30) hC dX8_writeNumber_30 (by decide) ?_
        refine xv_iadd (pc := 31) hC dX8_writeNumber_31 ?_
        obtain ⟨q_3, hq_3, hX⟩ := bnd_some hX
        refine xv_callVv0 (As := [.int (48 + ((x1 / y2) - (x1 / y2) / 10 * 10))]) (pc := 32) hC (kX8_write hl hq_3) fV_X8_write wf_1991 (rc_X8 (rfl : shR 0 = 1)) rfl ⟨Nat.le_of_ble_eq_true rfl, Nat.le_of_ble_eq_true rfl⟩ rfl (Nat.le_of_ble_eq_true rfl) dX8_writeNumber_32 ⟨Nat.le_of_ble_eq_true rfl, Nat.le_of_ble_eq_true rfl⟩ ?_
        refine xv_iload_n (pc := 35) hC dX8_writeNumber_35 2 rfl rfl ?_
        refine xv_bipush (v := 10) (pc := 36) hC dX8_writeNumber_36 (by decide) ?_
        refine xv_idiv (pc := 38) hC dX8_writeNumber_38 (by decide) ?_
        obtain ⟨y_4, hy_4, hX⟩ := nm_some hX
        refine xv_nmi hy_4 ?_
        refine xv_istore_n (pc := 39) (lv' := [(2, .int y_4), (0, .ref (a 0)), (1, .int x1)]) hC dX8_writeNumber_39 rfl (by decide) rfl ?_
        refine xv_goto (tgt := 18) (pc := 40) hC dX8_writeNumber_40 (by decide) ?_
        refine xv_sub (lv' := [(0, .ref (a 0)), (1, .int x1), (2, .int y_4)]) [1, 2, 0] rfl ?_
        exact ih y_4 q_3 hX
  have v2 : ∀ (n : Nat) (y2 : Int32) (Z : ZZ), sX8_writeNumber_L2 x1 n y2 Z = some Z' → xv p l e rmX8_writeNumber s m args below meth c D A 3 Q (cwR dA a Z) 0 0 2 [(0, .ref (a 0)), (1, .int x1), (2, .int y2)] [] := by
    intro n
    induction n with
    | zero =>
      intro y2 Z hX
      exact absurd hX (by simp [sX8_writeNumber_L2])
    | succ n ih =>
      intro y2 Z hX
      rw [sX8_writeNumber_L2] at hX
      refine xv_iload_n (pc := 2) hC dX8_writeNumber_2 1 rfl rfl ?_
      refine xv_iload_n (pc := 3) hC dX8_writeNumber_3 2 rfl rfl ?_
      obtain ⟨h_5, hX⟩ := gd_some hX
      refine xv_idiv (pc := 4) hC dX8_writeNumber_4 h_5 ?_
      refine xv_bipush (v := 9) (pc := 5) hC dX8_writeNumber_5 (by decide) ?_
      refine xv_icmp_le (tgt := 18) (pc := 7) hC dX8_writeNumber_7 (by decide) (fun c_6 => ?_) (fun c_6 => ?_)
      · replace hX := if_t c_6 hX
        exact v18 3000 y2 Z hX
      · replace hX := if_f c_6 hX
        refine xv_iload_n (pc := 10) hC dX8_writeNumber_10 2 rfl rfl ?_
        refine xv_bipush (v := 10) (pc := 11) hC dX8_writeNumber_11 (by decide) ?_
        refine xv_imul (pc := 13) hC dX8_writeNumber_13 ?_
        obtain ⟨y_7, hy_7, hX⟩ := nm_some hX
        refine xv_nmi hy_7 ?_
        refine xv_istore_n (pc := 14) (lv' := [(2, .int y_7), (0, .ref (a 0)), (1, .int x1)]) hC dX8_writeNumber_14 rfl (by decide) rfl ?_
        refine xv_goto (tgt := 2) (pc := 15) hC dX8_writeNumber_15 (by decide) ?_
        refine xv_sub (lv' := [(0, .ref (a 0)), (1, .int x1), (2, .int y_7)]) [1, 2, 0] rfl ?_
        exact ih y_7 Z hX
  show xv p l e rmX8_writeNumber s m args below meth c D A 3 Q (cwR dA a Z) 0 0 0 [(0, .ref (a 0)), (1, .int x1)] []
  refine xv_iconst (v := 1) (pc := 0) hC dX8_writeNumber_0 (by decide) ?_
  refine xv_istore_n (pc := 1) (lv' := [(2, .int 1), (0, .ref (a 0)), (1, .int x1)]) hC dX8_writeNumber_1 rfl (by decide) rfl ?_
  refine xv_sub (lv' := [(0, .ref (a 0)), (1, .int x1), (2, .int 1)]) [1, 2, 0] rfl ?_
  exact v2 3000 1 Z hX
def sX8_writeTrunk_B49 (x1 : Int32) (u0 : Int32) (Z : ZZ) : Option (Int32 × ZZ) :=
  bnd (sX8_writeNumber u0 Z) <| fun q_1 =>
  bnd (sX8_write 45 q_1) <| fun q_2 =>
  bnd (sX8_beyond x1 u0 q_2) <| fun q_3 =>
  bnd (sX8_writeNumber q_3.1 q_3.2) <| fun q_4 =>
  bnd (sX8_write 61 q_4) <| fun q_5 =>
  bnd (sX8_t x1 2 q_5) <| fun q_6 =>
  bnd (sX8_writeNumber q_6.1 q_6.2) <| fun q_7 =>
  bnd (sX8_t x1 3 q_7) <| fun q_8 =>
  if q_8.1 = 1 then (
    bnd (sX8_write 120 q_8.2) <| fun q_13 =>
    some (gI q_13 0 16, q_13)) else (
    bnd (sX8_callOn x1 q_8.2) <| fun q_10 =>
    if q_10.1 < 0 then (
      some (gI q_10.2 0 16, q_10.2)) else (
      bnd (sX8_write 42 q_10.2) <| fun q_12 =>
      some (gI q_12 0 16, q_12)))
def sX8_writeTrunk (x1 : Int32) (Z : ZZ) : Option (Int32 × ZZ) :=
  bnd (sX8_isTrunk x1 Z) <| fun q_14 =>
  bnd (sX8_checked q_14.1 q_14.2) <| fun q_15 =>
  if q_15.1 ≤ 0 then (
    nm (pI q_15.2 0 16 0) <| fun Z_17 =>
    bnd (sX8_t x1 0 Z_17) <| fun q_18 =>
    bnd (sX8_t x1 1 q_18.2) <| fun q_19 =>
    if q_19.1 ≤ q_18.1 then (
      bnd (sX8_t x1 1 q_19.2) <| fun q_21 =>
      sX8_writeTrunk_B49 x1 q_21.1 q_21.2) else (
      bnd (sX8_t x1 0 q_19.2) <| fun q_22 =>
      sX8_writeTrunk_B49 x1 q_22.1 q_22.2)) else (
    some (0, q_15.2))
abbrev rmX8_writeTrunk : Room := { frames := 3, cells := 0, slots := 0, locals := 67 }
set_option maxHeartbeats 4000000 in
set_option maxRecDepth 100000 in
theorem kX8_writeTrunk {l : Launch} {D : va_G} {dA : Nat → ClassId} {sa : String → Nat → Nat} {a : Nat → Nat} (hl : l.stackTraces = false) {x1 : Int32} {Z Z' : ZZ} {v : Int32} (hX : sX8_writeTrunk x1 Z = some (v, Z')) : CTi l D dA sa yX8_writeTrunk (wz yX8_writeTrunk cX8_writeTrunk 3 (some .int)) rmX8_writeTrunk [.ref (a 0), .int x1] (cwR dA a Z) v (cwR dA a Z') := by
  refine xm_i hl (by decide +kernel) (Nat.le_of_ble_eq_true rfl) rfl ?_
  intro p e s m args below meth c A Q hC hR
  unfold sX8_writeTrunk at hX
  have v49 : ∀ (u0 : Int32) (Z : ZZ), sX8_writeTrunk_B49 x1 u0 Z = some (v, Z') → xv p l e rmX8_writeTrunk s m args below meth c D A 3 Q (cwR dA a Z) 0 0 49 [(0, .ref (a 0)), (1, .int x1)] [.int u0] := by
    intro u0 Z hX
    unfold sX8_writeTrunk_B49 at hX
    refine xv_istore_n (pc := 49) (lv' := [(2, .int u0), (0, .ref (a 0)), (1, .int x1)]) hC dX8_writeTrunk_49 rfl (by decide) rfl ?_
    refine xv_aload_n (pc := 50) hC dX8_writeTrunk_50 1 rfl rfl ?_
    refine xv_iload_n (pc := 51) hC dX8_writeTrunk_51 0 rfl rfl ?_
    obtain ⟨q_1, hq_1, hX⟩ := bnd_some hX
    refine xv_callVv0 (As := [.int u0]) (pc := 52) hC (kX8_writeNumber hl hq_1) fV_X8_writeNumber wf_1987 (rc_X8 (rfl : shR 0 = 1)) rfl ⟨Nat.le_of_ble_eq_true rfl, Nat.le_of_ble_eq_true rfl⟩ rfl (Nat.le_of_ble_eq_true rfl) dX8_writeTrunk_52 ⟨Nat.le_of_ble_eq_true rfl, Nat.le_of_ble_eq_true rfl⟩ ?_
    refine xv_aload_n (pc := 55) hC dX8_writeTrunk_55 1 rfl rfl ?_
    refine xv_bipush (v := 45) (pc := 56) hC dX8_writeTrunk_56 (by decide) ?_
    obtain ⟨q_2, hq_2, hX⟩ := bnd_some hX
    refine xv_callVv0 (As := [.int 45]) (pc := 58) hC (kX8_write hl hq_2) fV_X8_write wf_1991 (rc_X8 (rfl : shR 0 = 1)) rfl ⟨Nat.le_of_ble_eq_true rfl, Nat.le_of_ble_eq_true rfl⟩ rfl (Nat.le_of_ble_eq_true rfl) dX8_writeTrunk_58 ⟨Nat.le_of_ble_eq_true rfl, Nat.le_of_ble_eq_true rfl⟩ ?_
    refine xv_aload_n (pc := 61) hC dX8_writeTrunk_61 1 rfl rfl ?_
    refine xv_aload_n (pc := 62) hC dX8_writeTrunk_62 1 rfl rfl ?_
    refine xv_iload_n (pc := 63) hC dX8_writeTrunk_63 2 rfl rfl ?_
    refine xv_iload_n (pc := 64) hC dX8_writeTrunk_64 0 rfl rfl ?_
    obtain ⟨q_3, hq_3, hX⟩ := bnd_some hX
    refine xv_callVi0 (As := [.int x1, .int u0]) (pc := 65) hC (kX8_beyond hl hq_3) fV_X8_beyond wf_1743 (rc_X8 (rfl : shR 0 = 1)) rfl ⟨Nat.le_of_ble_eq_true rfl, Nat.le_of_ble_eq_true rfl⟩ rfl (Nat.le_of_ble_eq_true rfl) dX8_writeTrunk_65 ⟨Nat.le_of_ble_eq_true rfl, Nat.le_of_ble_eq_true rfl⟩ ?_
    obtain ⟨q_4, hq_4, hX⟩ := bnd_some hX
    refine xv_callVv0 (As := [.int q_3.1]) (pc := 68) hC (kX8_writeNumber hl hq_4) fV_X8_writeNumber wf_1987 (rc_X8 (rfl : shR 0 = 1)) rfl ⟨Nat.le_of_ble_eq_true rfl, Nat.le_of_ble_eq_true rfl⟩ rfl (Nat.le_of_ble_eq_true rfl) dX8_writeTrunk_68 ⟨Nat.le_of_ble_eq_true rfl, Nat.le_of_ble_eq_true rfl⟩ ?_
    refine xv_aload_n (pc := 71) hC dX8_writeTrunk_71 1 rfl rfl ?_
    refine xv_bipush (v := 61) (pc := 72) hC dX8_writeTrunk_72 (by decide) ?_
    obtain ⟨q_5, hq_5, hX⟩ := bnd_some hX
    refine xv_callVv0 (As := [.int 61]) (pc := 74) hC (kX8_write hl hq_5) fV_X8_write wf_1991 (rc_X8 (rfl : shR 0 = 1)) rfl ⟨Nat.le_of_ble_eq_true rfl, Nat.le_of_ble_eq_true rfl⟩ rfl (Nat.le_of_ble_eq_true rfl) dX8_writeTrunk_74 ⟨Nat.le_of_ble_eq_true rfl, Nat.le_of_ble_eq_true rfl⟩ ?_
    refine xv_aload_n (pc := 77) hC dX8_writeTrunk_77 1 rfl rfl ?_
    refine xv_aload_n (pc := 78) hC dX8_writeTrunk_78 1 rfl rfl ?_
    refine xv_iload_n (pc := 79) hC dX8_writeTrunk_79 2 rfl rfl ?_
    refine xv_iconst (v := 2) (pc := 80) hC dX8_writeTrunk_80 (by decide) ?_
    obtain ⟨q_6, hq_6, hX⟩ := bnd_some hX
    refine xv_callVi0 (As := [.int x1, .int 2]) (pc := 81) hC (kX8_t hl hq_6) fV_X8_t wf_1703 (rc_X8 (rfl : shR 0 = 1)) rfl ⟨Nat.le_of_ble_eq_true rfl, Nat.le_of_ble_eq_true rfl⟩ rfl (Nat.le_of_ble_eq_true rfl) dX8_writeTrunk_81 ⟨Nat.le_of_ble_eq_true rfl, Nat.le_of_ble_eq_true rfl⟩ ?_
    obtain ⟨q_7, hq_7, hX⟩ := bnd_some hX
    refine xv_callVv0 (As := [.int q_6.1]) (pc := 84) hC (kX8_writeNumber hl hq_7) fV_X8_writeNumber wf_1987 (rc_X8 (rfl : shR 0 = 1)) rfl ⟨Nat.le_of_ble_eq_true rfl, Nat.le_of_ble_eq_true rfl⟩ rfl (Nat.le_of_ble_eq_true rfl) dX8_writeTrunk_84 ⟨Nat.le_of_ble_eq_true rfl, Nat.le_of_ble_eq_true rfl⟩ ?_
    refine xv_aload_n (pc := 87) hC dX8_writeTrunk_87 1 rfl rfl ?_
    refine xv_iload_n (pc := 88) hC dX8_writeTrunk_88 2 rfl rfl ?_
    refine xv_iconst (v := 3) (pc := 89) hC dX8_writeTrunk_89 (by decide) ?_
    obtain ⟨q_8, hq_8, hX⟩ := bnd_some hX
    refine xv_callVi0 (As := [.int x1, .int 3]) (pc := 90) hC (kX8_t hl hq_8) fV_X8_t wf_1703 (rc_X8 (rfl : shR 0 = 1)) rfl ⟨Nat.le_of_ble_eq_true rfl, Nat.le_of_ble_eq_true rfl⟩ rfl (Nat.le_of_ble_eq_true rfl) dX8_writeTrunk_90 ⟨Nat.le_of_ble_eq_true rfl, Nat.le_of_ble_eq_true rfl⟩ ?_
    refine xv_iconst (v := 1) (pc := 93) hC dX8_writeTrunk_93 (by decide) ?_
    refine xv_icmp_ne (tgt := 106) (pc := 94) hC dX8_writeTrunk_94 (by decide) (fun c_9 => ?_) (fun c_9 => ?_)
    · replace hX := if_f c_9 hX
      refine xv_aload_n (pc := 106) hC dX8_writeTrunk_106 1 rfl rfl ?_
      refine xv_iload_n (pc := 107) hC dX8_writeTrunk_107 2 rfl rfl ?_
      obtain ⟨q_10, hq_10, hX⟩ := bnd_some hX
      refine xv_callVi0 (As := [.int x1]) (pc := 108) hC (kX8_callOn hl hq_10) fV_X8_callOn wf_1711 (rc_X8 (rfl : shR 0 = 1)) rfl ⟨Nat.le_of_ble_eq_true rfl, Nat.le_of_ble_eq_true rfl⟩ rfl (Nat.le_of_ble_eq_true rfl) dX8_writeTrunk_108 ⟨Nat.le_of_ble_eq_true rfl, Nat.le_of_ble_eq_true rfl⟩ ?_
      refine xv_if_lt (tgt := 120) (pc := 111) hC dX8_writeTrunk_111 (by decide) (fun c_11 => ?_) (fun c_11 => ?_)
      · replace hX := if_t c_11 hX
        refine xv_aload_n (pc := 120) hC dX8_writeTrunk_120 1 rfl rfl ?_
        refine xgX8 (v := .int (gI q_10.2 0 16)) (pc := 121) hC dX8_writeTrunk_121 (rfl : shR 0 = 1) 16 (by decide) wf_1569 rfl ?_
        obtain ⟨h1, h2⟩ := some_pair hX
        exact xv_eqi (W := cwR dA a) h1 h2 (hR _ _ _ _ (Nat.le_of_ble_eq_true rfl) (Nat.le_of_ble_eq_true rfl) dX8_writeTrunk_124)
      · replace hX := if_f c_11 hX
        refine xv_aload_n (pc := 114) hC dX8_writeTrunk_114 1 rfl rfl ?_
        refine xv_bipush (v := 42) (pc := 115) hC dX8_writeTrunk_115 (by decide) ?_
        obtain ⟨q_12, hq_12, hX⟩ := bnd_some hX
        refine xv_callVv0 (As := [.int 42]) (pc := 117) hC (kX8_write hl hq_12) fV_X8_write wf_1991 (rc_X8 (rfl : shR 0 = 1)) rfl ⟨Nat.le_of_ble_eq_true rfl, Nat.le_of_ble_eq_true rfl⟩ rfl (Nat.le_of_ble_eq_true rfl) dX8_writeTrunk_117 ⟨Nat.le_of_ble_eq_true rfl, Nat.le_of_ble_eq_true rfl⟩ ?_
        refine xv_aload_n (pc := 120) hC dX8_writeTrunk_120 1 rfl rfl ?_
        refine xgX8 (v := .int (gI q_12 0 16)) (pc := 121) hC dX8_writeTrunk_121 (rfl : shR 0 = 1) 16 (by decide) wf_1569 rfl ?_
        obtain ⟨h1, h2⟩ := some_pair hX
        exact xv_eqi (W := cwR dA a) h1 h2 (hR _ _ _ _ (Nat.le_of_ble_eq_true rfl) (Nat.le_of_ble_eq_true rfl) dX8_writeTrunk_124)
    · replace hX := if_t c_9 hX
      refine xv_aload_n (pc := 97) hC dX8_writeTrunk_97 1 rfl rfl ?_
      refine xv_bipush (v := 120) (pc := 98) hC dX8_writeTrunk_98 (by decide) ?_
      obtain ⟨q_13, hq_13, hX⟩ := bnd_some hX
      refine xv_callVv0 (As := [.int 120]) (pc := 100) hC (kX8_write hl hq_13) fV_X8_write wf_1991 (rc_X8 (rfl : shR 0 = 1)) rfl ⟨Nat.le_of_ble_eq_true rfl, Nat.le_of_ble_eq_true rfl⟩ rfl (Nat.le_of_ble_eq_true rfl) dX8_writeTrunk_100 ⟨Nat.le_of_ble_eq_true rfl, Nat.le_of_ble_eq_true rfl⟩ ?_
      refine xv_goto (tgt := 120) (pc := 103) hC dX8_writeTrunk_103 (by decide) ?_
      refine xv_aload_n (pc := 120) hC dX8_writeTrunk_120 1 rfl rfl ?_
      refine xgX8 (v := .int (gI q_13 0 16)) (pc := 121) hC dX8_writeTrunk_121 (rfl : shR 0 = 1) 16 (by decide) wf_1569 rfl ?_
      obtain ⟨h1, h2⟩ := some_pair hX
      exact xv_eqi (W := cwR dA a) h1 h2 (hR _ _ _ _ (Nat.le_of_ble_eq_true rfl) (Nat.le_of_ble_eq_true rfl) dX8_writeTrunk_124)
  show xv p l e rmX8_writeTrunk s m args below meth c D A 3 Q (cwR dA a Z) 0 0 0 [(0, .ref (a 0)), (1, .int x1)] []
  refine xv_aload_n (pc := 0) hC dX8_writeTrunk_0 0 rfl rfl ?_
  refine xv_aload_n (pc := 1) hC dX8_writeTrunk_1 0 rfl rfl ?_
  refine xv_iload_n (pc := 2) hC dX8_writeTrunk_2 1 rfl rfl ?_
  obtain ⟨q_14, hq_14, hX⟩ := bnd_some hX
  refine xv_callVi0 (As := [.int x1]) (pc := 3) hC (kX8_isTrunk hl hq_14) fV_X8_isTrunk wf_1699 (rc_X8 (rfl : shR 0 = 1)) rfl ⟨Nat.le_of_ble_eq_true rfl, Nat.le_of_ble_eq_true rfl⟩ rfl (Nat.le_of_ble_eq_true rfl) dX8_writeTrunk_3 ⟨Nat.le_of_ble_eq_true rfl, Nat.le_of_ble_eq_true rfl⟩ ?_
  obtain ⟨q_15, hq_15, hX⟩ := bnd_some hX
  refine xv_callVi0 (As := [.int q_14.1]) (pc := 6) hC (kX8_checked hl hq_15) fV_X8_checked wf_1839 (rc_X8 (rfl : shR 0 = 1)) rfl ⟨Nat.le_of_ble_eq_true rfl, Nat.le_of_ble_eq_true rfl⟩ rfl (Nat.le_of_ble_eq_true rfl) dX8_writeTrunk_6 ⟨Nat.le_of_ble_eq_true rfl, Nat.le_of_ble_eq_true rfl⟩ ?_
  refine xv_if_le (tgt := 14) (pc := 9) hC dX8_writeTrunk_9 (by decide) (fun c_16 => ?_) (fun c_16 => ?_)
  · replace hX := if_t c_16 hX
    refine xv_aload_n (pc := 14) hC dX8_writeTrunk_14 0 rfl rfl ?_
    refine xv_iconst (v := 0) (pc := 15) hC dX8_writeTrunk_15 (by decide) ?_
    obtain ⟨Z_17, hZ_17, hX⟩ := nm_some hX
    refine xpX8 (ty := .int) (pc := 16) hC dX8_writeTrunk_16 (rfl : shR 0 = 1) 16 (by decide) wf_1569 rfl (by decide +kernel) rfl rfl rfl hZ_17 ?_
    refine xv_aload_n (pc := 19) hC dX8_writeTrunk_19 0 rfl rfl ?_
    refine xv_iload_n (pc := 20) hC dX8_writeTrunk_20 1 rfl rfl ?_
    refine xv_iconst (v := 0) (pc := 21) hC dX8_writeTrunk_21 (by decide) ?_
    obtain ⟨q_18, hq_18, hX⟩ := bnd_some hX
    refine xv_callVi0 (As := [.int x1, .int 0]) (pc := 22) hC (kX8_t hl hq_18) fV_X8_t wf_1703 (rc_X8 (rfl : shR 0 = 1)) rfl ⟨Nat.le_of_ble_eq_true rfl, Nat.le_of_ble_eq_true rfl⟩ rfl (Nat.le_of_ble_eq_true rfl) dX8_writeTrunk_22 ⟨Nat.le_of_ble_eq_true rfl, Nat.le_of_ble_eq_true rfl⟩ ?_
    refine xv_aload_n (pc := 25) hC dX8_writeTrunk_25 0 rfl rfl ?_
    refine xv_iload_n (pc := 26) hC dX8_writeTrunk_26 1 rfl rfl ?_
    refine xv_iconst (v := 1) (pc := 27) hC dX8_writeTrunk_27 (by decide) ?_
    obtain ⟨q_19, hq_19, hX⟩ := bnd_some hX
    refine xv_callVi0 (As := [.int x1, .int 1]) (pc := 28) hC (kX8_t hl hq_19) fV_X8_t wf_1703 (rc_X8 (rfl : shR 0 = 1)) rfl ⟨Nat.le_of_ble_eq_true rfl, Nat.le_of_ble_eq_true rfl⟩ rfl (Nat.le_of_ble_eq_true rfl) dX8_writeTrunk_28 ⟨Nat.le_of_ble_eq_true rfl, Nat.le_of_ble_eq_true rfl⟩ ?_
    refine xv_icmp_ge (tgt := 43) (pc := 31) hC dX8_writeTrunk_31 (by decide) (fun c_20 => ?_) (fun c_20 => ?_)
    · replace hX := if_t c_20 hX
      refine xv_aload_n (pc := 43) hC dX8_writeTrunk_43 0 rfl rfl ?_
      refine xv_iload_n (pc := 44) hC dX8_writeTrunk_44 1 rfl rfl ?_
      refine xv_iconst (v := 1) (pc := 45) hC dX8_writeTrunk_45 (by decide) ?_
      obtain ⟨q_21, hq_21, hX⟩ := bnd_some hX
      refine xv_callVi0 (As := [.int x1, .int 1]) (pc := 46) hC (kX8_t hl hq_21) fV_X8_t wf_1703 (rc_X8 (rfl : shR 0 = 1)) rfl ⟨Nat.le_of_ble_eq_true rfl, Nat.le_of_ble_eq_true rfl⟩ rfl (Nat.le_of_ble_eq_true rfl) dX8_writeTrunk_46 ⟨Nat.le_of_ble_eq_true rfl, Nat.le_of_ble_eq_true rfl⟩ ?_
      exact v49 q_21.1 q_21.2 hX
    · replace hX := if_f c_20 hX
      refine xv_aload_n (pc := 34) hC dX8_writeTrunk_34 0 rfl rfl ?_
      refine xv_iload_n (pc := 35) hC dX8_writeTrunk_35 1 rfl rfl ?_
      refine xv_iconst (v := 0) (pc := 36) hC dX8_writeTrunk_36 (by decide) ?_
      obtain ⟨q_22, hq_22, hX⟩ := bnd_some hX
      refine xv_callVi0 (As := [.int x1, .int 0]) (pc := 37) hC (kX8_t hl hq_22) fV_X8_t wf_1703 (rc_X8 (rfl : shR 0 = 1)) rfl ⟨Nat.le_of_ble_eq_true rfl, Nat.le_of_ble_eq_true rfl⟩ rfl (Nat.le_of_ble_eq_true rfl) dX8_writeTrunk_37 ⟨Nat.le_of_ble_eq_true rfl, Nat.le_of_ble_eq_true rfl⟩ ?_
      refine xv_goto (tgt := 49) (pc := 40) hC dX8_writeTrunk_40 (by decide) ?_
      exact v49 q_22.1 q_22.2 hX
  · replace hX := if_f c_16 hX
    refine xv_iconst (v := 0) (pc := 12) hC dX8_writeTrunk_12 (by decide) ?_
    obtain ⟨h1, h2⟩ := some_pair hX
    exact xv_eqi (W := cwR dA a) h1 h2 (hR _ _ _ _ (Nat.le_of_ble_eq_true rfl) (Nat.le_of_ble_eq_true rfl) dX8_writeTrunk_13)
def sX8_writeCalls_B32 (k12 : Int32 → ZZ → Option (Int32 × ZZ)) (y1 : Int32) (Z : ZZ) : Option (Int32 × ZZ) :=
  bnd (sX8_c y1 0 Z) <| fun q_1 =>
  bnd (sX8_writeNumber q_1.1 q_1.2) <| fun q_2 =>
  bnd (sX8_write 62 q_2) <| fun q_3 =>
  bnd (sX8_c y1 1 q_3) <| fun q_4 =>
  bnd (sX8_writeNumber q_4.1 q_4.2) <| fun q_5 =>
  bnd (sX8_write 58 q_5) <| fun q_6 =>
  bnd (sX8_c y1 2 q_6) <| fun q_7 =>
  bnd (sX8_writeNumber q_7.1 q_7.2) <| fun q_8 =>
  nm (y1 + 1) <| fun y_9 =>
  k12 y_9 q_8
def sX8_writeCalls_L12 : Nat → Int32 → ZZ → Option (Int32 × ZZ)
  | 0, _, _ => none
  | n + 1, y1, Z =>
  gd (vin 3 180 = true) <|
  if (gI Z 1 (3 : Int32).toNatClampNeg) ≤ y1 then (
    some (gI Z 0 16, Z)) else (
    if y1 ≤ 0 then (
      sX8_writeCalls_B32 (fun y1 Z => sX8_writeCalls_L12 n y1 Z) y1 Z) else (
      bnd (sX8_write 32 Z) <| fun q_13 =>
      sX8_writeCalls_B32 (fun y1 Z => sX8_writeCalls_L12 n y1 Z) y1 q_13))
def sX8_writeCalls (Z : ZZ) : Option (Int32 × ZZ) :=
  nm (pI Z 0 8 0) <| fun Z_14 =>
  nm (pI Z_14 0 16 0) <| fun Z_15 =>
  sX8_writeCalls_L12 3000 0 Z_15
abbrev rmX8_writeCalls : Room := { frames := 2, cells := 0, slots := 0, locals := 43 }
set_option maxHeartbeats 4000000 in
set_option maxRecDepth 100000 in
theorem kX8_writeCalls {l : Launch} {D : va_G} {dA : Nat → ClassId} {sa : String → Nat → Nat} {a : Nat → Nat} (hl : l.stackTraces = false) {Z Z' : ZZ} {v : Int32} (hX : sX8_writeCalls Z = some (v, Z')) : CTi l D dA sa yX8_writeCalls (wz yX8_writeCalls cX8_writeCalls 2 (some .int)) rmX8_writeCalls [.ref (a 0)] (cwR dA a Z) v (cwR dA a Z') := by
  refine xm_i hl (by decide +kernel) (Nat.le_of_ble_eq_true rfl) rfl ?_
  intro p e s m args below meth c A Q hC hR
  unfold sX8_writeCalls at hX
  have v32 : ∀ (k12 : Int32 → ZZ → Option (Int32 × ZZ)) (hk12 : ∀ (y1 : Int32) (Z : ZZ), k12 y1 Z = some (v, Z') → xv p l e rmX8_writeCalls s m args below meth c D A 2 Q (cwR dA a Z) 0 0 12 [(0, .ref (a 0)), (1, .int y1)] []) (y1 : Int32) (Z : ZZ), sX8_writeCalls_B32 k12 y1 Z = some (v, Z') → xv p l e rmX8_writeCalls s m args below meth c D A 2 Q (cwR dA a Z) 0 0 32 [(0, .ref (a 0)), (1, .int y1)] [] := by
    intro k12 hk12 y1 Z hX
    unfold sX8_writeCalls_B32 at hX
    refine xv_aload_n (pc := 32) hC dX8_writeCalls_32 0 rfl rfl ?_
    refine xv_aload_n (pc := 33) hC dX8_writeCalls_33 0 rfl rfl ?_
    refine xv_iload_n (pc := 34) hC dX8_writeCalls_34 1 rfl rfl ?_
    refine xv_iconst (v := 0) (pc := 35) hC dX8_writeCalls_35 (by decide) ?_
    obtain ⟨q_1, hq_1, hX⟩ := bnd_some hX
    refine xv_callVi0 (As := [.int y1, .int 0]) (pc := 36) hC (kX8_c hl hq_1) fV_X8_c wf_1719 (rc_X8 (rfl : shR 0 = 1)) rfl ⟨Nat.le_of_ble_eq_true rfl, Nat.le_of_ble_eq_true rfl⟩ rfl (Nat.le_of_ble_eq_true rfl) dX8_writeCalls_36 ⟨Nat.le_of_ble_eq_true rfl, Nat.le_of_ble_eq_true rfl⟩ ?_
    obtain ⟨q_2, hq_2, hX⟩ := bnd_some hX
    refine xv_callVv0 (As := [.int q_1.1]) (pc := 39) hC (kX8_writeNumber hl hq_2) fV_X8_writeNumber wf_1987 (rc_X8 (rfl : shR 0 = 1)) rfl ⟨Nat.le_of_ble_eq_true rfl, Nat.le_of_ble_eq_true rfl⟩ rfl (Nat.le_of_ble_eq_true rfl) dX8_writeCalls_39 ⟨Nat.le_of_ble_eq_true rfl, Nat.le_of_ble_eq_true rfl⟩ ?_
    refine xv_aload_n (pc := 42) hC dX8_writeCalls_42 0 rfl rfl ?_
    refine xv_bipush (v := 62) (pc := 43) hC dX8_writeCalls_43 (by decide) ?_
    obtain ⟨q_3, hq_3, hX⟩ := bnd_some hX
    refine xv_callVv0 (As := [.int 62]) (pc := 45) hC (kX8_write hl hq_3) fV_X8_write wf_1991 (rc_X8 (rfl : shR 0 = 1)) rfl ⟨Nat.le_of_ble_eq_true rfl, Nat.le_of_ble_eq_true rfl⟩ rfl (Nat.le_of_ble_eq_true rfl) dX8_writeCalls_45 ⟨Nat.le_of_ble_eq_true rfl, Nat.le_of_ble_eq_true rfl⟩ ?_
    refine xv_aload_n (pc := 48) hC dX8_writeCalls_48 0 rfl rfl ?_
    refine xv_aload_n (pc := 49) hC dX8_writeCalls_49 0 rfl rfl ?_
    refine xv_iload_n (pc := 50) hC dX8_writeCalls_50 1 rfl rfl ?_
    refine xv_iconst (v := 1) (pc := 51) hC dX8_writeCalls_51 (by decide) ?_
    obtain ⟨q_4, hq_4, hX⟩ := bnd_some hX
    refine xv_callVi0 (As := [.int y1, .int 1]) (pc := 52) hC (kX8_c hl hq_4) fV_X8_c wf_1719 (rc_X8 (rfl : shR 0 = 1)) rfl ⟨Nat.le_of_ble_eq_true rfl, Nat.le_of_ble_eq_true rfl⟩ rfl (Nat.le_of_ble_eq_true rfl) dX8_writeCalls_52 ⟨Nat.le_of_ble_eq_true rfl, Nat.le_of_ble_eq_true rfl⟩ ?_
    obtain ⟨q_5, hq_5, hX⟩ := bnd_some hX
    refine xv_callVv0 (As := [.int q_4.1]) (pc := 55) hC (kX8_writeNumber hl hq_5) fV_X8_writeNumber wf_1987 (rc_X8 (rfl : shR 0 = 1)) rfl ⟨Nat.le_of_ble_eq_true rfl, Nat.le_of_ble_eq_true rfl⟩ rfl (Nat.le_of_ble_eq_true rfl) dX8_writeCalls_55 ⟨Nat.le_of_ble_eq_true rfl, Nat.le_of_ble_eq_true rfl⟩ ?_
    refine xv_aload_n (pc := 58) hC dX8_writeCalls_58 0 rfl rfl ?_
    refine xv_bipush (v := 58) (pc := 59) hC dX8_writeCalls_59 (by decide) ?_
    obtain ⟨q_6, hq_6, hX⟩ := bnd_some hX
    refine xv_callVv0 (As := [.int 58]) (pc := 61) hC (kX8_write hl hq_6) fV_X8_write wf_1991 (rc_X8 (rfl : shR 0 = 1)) rfl ⟨Nat.le_of_ble_eq_true rfl, Nat.le_of_ble_eq_true rfl⟩ rfl (Nat.le_of_ble_eq_true rfl) dX8_writeCalls_61 ⟨Nat.le_of_ble_eq_true rfl, Nat.le_of_ble_eq_true rfl⟩ ?_
    refine xv_aload_n (pc := 64) hC dX8_writeCalls_64 0 rfl rfl ?_
    refine xv_aload_n (pc := 65) hC dX8_writeCalls_65 0 rfl rfl ?_
    refine xv_iload_n (pc := 66) hC dX8_writeCalls_66 1 rfl rfl ?_
    refine xv_iconst (v := 2) (pc := 67) hC dX8_writeCalls_67 (by decide) ?_
    obtain ⟨q_7, hq_7, hX⟩ := bnd_some hX
    refine xv_callVi0 (As := [.int y1, .int 2]) (pc := 68) hC (kX8_c hl hq_7) fV_X8_c wf_1719 (rc_X8 (rfl : shR 0 = 1)) rfl ⟨Nat.le_of_ble_eq_true rfl, Nat.le_of_ble_eq_true rfl⟩ rfl (Nat.le_of_ble_eq_true rfl) dX8_writeCalls_68 ⟨Nat.le_of_ble_eq_true rfl, Nat.le_of_ble_eq_true rfl⟩ ?_
    obtain ⟨q_8, hq_8, hX⟩ := bnd_some hX
    refine xv_callVv0 (As := [.int q_7.1]) (pc := 71) hC (kX8_writeNumber hl hq_8) fV_X8_writeNumber wf_1987 (rc_X8 (rfl : shR 0 = 1)) rfl ⟨Nat.le_of_ble_eq_true rfl, Nat.le_of_ble_eq_true rfl⟩ rfl (Nat.le_of_ble_eq_true rfl) dX8_writeCalls_71 ⟨Nat.le_of_ble_eq_true rfl, Nat.le_of_ble_eq_true rfl⟩ ?_
    obtain ⟨y_9, hy_9, hX⟩ := nm_some hX
    refine xv_iinc (pc := 74) (v := y_9) (lv' := [(1, .int y_9), (0, .ref (a 0))]) hC dX8_writeCalls_74 1 rfl (by rw [hy_9]; rfl) (by decide) rfl ?_
    refine xv_goto (tgt := 12) (pc := 77) hC dX8_writeCalls_77 (by decide) ?_
    refine xv_sub (lv' := [(0, .ref (a 0)), (1, .int y_9)]) [1, 0] rfl ?_
    exact hk12 y_9 q_8 hX
  have v12 : ∀ (n : Nat) (y1 : Int32) (Z : ZZ), sX8_writeCalls_L12 n y1 Z = some (v, Z') → xv p l e rmX8_writeCalls s m args below meth c D A 2 Q (cwR dA a Z) 0 0 12 [(0, .ref (a 0)), (1, .int y1)] [] := by
    intro n
    induction n with
    | zero =>
      intro y1 Z hX
      exact absurd hX (by simp [sX8_writeCalls_L12])
    | succ n ih =>
      intro y1 Z hX
      rw [sX8_writeCalls_L12] at hX
      refine xv_iload_n (pc := 12) hC dX8_writeCalls_12 1 rfl rfl ?_
      refine xv_aload_n (pc := 13) hC dX8_writeCalls_13 0 rfl rfl ?_
      refine xgX8 (v := .ref (a 1)) (pc := 14) hC dX8_writeCalls_14 (rfl : shR 0 = 1) 0 (by decide) wf_1553 rfl ?_
      refine xv_iconst (v := 3) (pc := 17) hC dX8_writeCalls_17 (by decide) ?_
      obtain ⟨h_10, hX⟩ := gd_some hX
      refine xl_R2 (pc := 18) hC dX8_writeCalls_18 (rfl : shR 1 = 2) h_10 ?_
      refine xv_icmp_ge (tgt := 80) (pc := 19) hC dX8_writeCalls_19 (by decide) (fun c_11 => ?_) (fun c_11 => ?_)
      · replace hX := if_t c_11 hX
        refine xv_aload_n (pc := 80) hC dX8_writeCalls_80 0 rfl rfl ?_
        refine xgX8 (v := .int (gI Z 0 16)) (pc := 81) hC dX8_writeCalls_81 (rfl : shR 0 = 1) 16 (by decide) wf_1569 rfl ?_
        obtain ⟨h1, h2⟩ := some_pair hX
        exact xv_eqi (W := cwR dA a) h1 h2 (hR _ _ _ _ (Nat.le_of_ble_eq_true rfl) (Nat.le_of_ble_eq_true rfl) dX8_writeCalls_84)
      · replace hX := if_f c_11 hX
        refine xv_iload_n (pc := 22) hC dX8_writeCalls_22 1 rfl rfl ?_
        refine xv_if_le (tgt := 32) (pc := 23) hC dX8_writeCalls_23 (by decide) (fun c_12 => ?_) (fun c_12 => ?_)
        · replace hX := if_t c_12 hX
          exact v32 _ ih y1 Z hX
        · replace hX := if_f c_12 hX
          refine xv_aload_n (pc := 26) hC dX8_writeCalls_26 0 rfl rfl ?_
          refine xv_bipush (v := 32) (pc := 27) hC dX8_writeCalls_27 (by decide) ?_
          obtain ⟨q_13, hq_13, hX⟩ := bnd_some hX
          refine xv_callVv0 (As := [.int 32]) (pc := 29) hC (kX8_write hl hq_13) fV_X8_write wf_1991 (rc_X8 (rfl : shR 0 = 1)) rfl ⟨Nat.le_of_ble_eq_true rfl, Nat.le_of_ble_eq_true rfl⟩ rfl (Nat.le_of_ble_eq_true rfl) dX8_writeCalls_29 ⟨Nat.le_of_ble_eq_true rfl, Nat.le_of_ble_eq_true rfl⟩ ?_
          exact v32 _ ih y1 q_13 hX
  show xv p l e rmX8_writeCalls s m args below meth c D A 2 Q (cwR dA a Z) 0 0 0 [(0, .ref (a 0))] []
  refine xv_aload_n (pc := 0) hC dX8_writeCalls_0 0 rfl rfl ?_
  refine xv_iconst (v := 0) (pc := 1) hC dX8_writeCalls_1 (by decide) ?_
  obtain ⟨Z_14, hZ_14, hX⟩ := nm_some hX
  refine xpX8 (ty := .int) (pc := 2) hC dX8_writeCalls_2 (rfl : shR 0 = 1) 8 (by decide) wf_1561 rfl (by decide +kernel) rfl rfl rfl hZ_14 ?_
  refine xv_aload_n (pc := 5) hC dX8_writeCalls_5 0 rfl rfl ?_
  refine xv_iconst (v := 0) (pc := 6) hC dX8_writeCalls_6 (by decide) ?_
  obtain ⟨Z_15, hZ_15, hX⟩ := nm_some hX
  refine xpX8 (ty := .int) (pc := 7) hC dX8_writeCalls_7 (rfl : shR 0 = 1) 16 (by decide) wf_1569 rfl (by decide +kernel) rfl rfl rfl hZ_15 ?_
  refine xv_iconst (v := 0) (pc := 10) hC dX8_writeCalls_10 (by decide) ?_
  refine xv_istore_n (pc := 11) (lv' := [(1, .int 0), (0, .ref (a 0))]) hC dX8_writeCalls_11 rfl (by decide) rfl ?_
  refine xv_sub (lv' := [(0, .ref (a 0)), (1, .int 0)]) [1, 0] rfl ?_
  exact v12 3000 0 Z_15 hX
def sX8_charAt (x1 : Int32) (Z : ZZ) : Option (Int32 × ZZ) :=
  bnd (sX8_in x1 0 ((gI Z 0 16) - 1) Z) <| fun q_1 =>
  bnd (sX8_checked q_1.1 q_1.2) <| fun q_2 =>
  if q_2.1 ≤ 0 then (
    gd (vin x1 80 = true) <|
    gd (nch (ichar (gI q_2.2 9 x1.toNatClampNeg)) = true) <|
    some (ichar (gI q_2.2 9 x1.toNatClampNeg), q_2.2)) else (
    gd (nch 32 = true) <|
    some (32, q_2.2))
abbrev rmX8_charAt : Room := { frames := 1, cells := 0, slots := 0, locals := 22 }
set_option maxHeartbeats 4000000 in
set_option maxRecDepth 100000 in
theorem kX8_charAt {l : Launch} {D : va_G} {dA : Nat → ClassId} {sa : String → Nat → Nat} {a : Nat → Nat} (hl : l.stackTraces = false) {x1 : Int32} {Z Z' : ZZ} {v : Int32} (hX : sX8_charAt x1 Z = some (v, Z')) : CTi l D dA sa yX8_charAt (wz yX8_charAt cX8_charAt 2 (some .char)) rmX8_charAt [.ref (a 0), .int x1] (cwR dA a Z) v (cwR dA a Z') := by
  refine xm_z hl (by decide +kernel) (Nat.le_of_ble_eq_true rfl) rfl ?_
  intro p e s m args below meth c A Q hC hR
  unfold sX8_charAt at hX
  show xv p l e rmX8_charAt s m args below meth c D A 2 Q (cwR dA a Z) 0 0 0 [(0, .ref (a 0)), (1, .int x1)] []
  refine xv_aload_n (pc := 0) hC dX8_charAt_0 0 rfl rfl ?_
  refine xv_iload_n (pc := 1) hC dX8_charAt_1 1 rfl rfl ?_
  refine xv_iconst (v := 0) (pc := 2) hC dX8_charAt_2 (by decide) ?_
  refine xv_aload_n (pc := 3) hC dX8_charAt_3 0 rfl rfl ?_
  refine xgX8 (v := .int (gI Z 0 16)) (pc := 4) hC dX8_charAt_4 (rfl : shR 0 = 1) 16 (by decide) wf_1569 rfl ?_
  refine xv_iconst (v := 1) (pc := 7) hC dX8_charAt_7 (by decide) ?_
  refine xv_isub (pc := 8) hC dX8_charAt_8 ?_
  obtain ⟨q_1, hq_1, hX⟩ := bnd_some hX
  refine xv_callSi0 (As := [.int x1, .int 0, .int ((gI Z 0 16) - 1)]) (pc := 9) hC (kX8_in hl hq_1) fS_X8_in wf_1668 rfl ⟨Nat.le_of_ble_eq_true rfl, Nat.le_of_ble_eq_true rfl⟩ rfl (Nat.le_of_ble_eq_true rfl) dX8_charAt_9 ⟨Nat.le_of_ble_eq_true rfl, Nat.le_of_ble_eq_true rfl⟩ ?_
  obtain ⟨q_2, hq_2, hX⟩ := bnd_some hX
  refine xv_callVi0 (As := [.int q_1.1]) (pc := 12) hC (kX8_checked hl hq_2) fV_X8_checked wf_1839 (rc_X8 (rfl : shR 0 = 1)) rfl ⟨Nat.le_of_ble_eq_true rfl, Nat.le_of_ble_eq_true rfl⟩ rfl (Nat.le_of_ble_eq_true rfl) dX8_charAt_12 ⟨Nat.le_of_ble_eq_true rfl, Nat.le_of_ble_eq_true rfl⟩ ?_
  refine xv_if_le (tgt := 23) (pc := 15) hC dX8_charAt_15 (by decide) (fun c_3 => ?_) (fun c_3 => ?_)
  · replace hX := if_t c_3 hX
    refine xv_aload_n (pc := 23) hC dX8_charAt_23 0 rfl rfl ?_
    refine xgX8 (v := .ref (a 9)) (pc := 24) hC dX8_charAt_24 (rfl : shR 0 = 1) 15 (by decide) wf_1568 rfl ?_
    refine xv_iload_n (pc := 27) hC dX8_charAt_27 1 rfl rfl ?_
    obtain ⟨h_4, hX⟩ := gd_some hX
    refine xl_R6 (pc := 28) hC dX8_charAt_28 (rfl : shR 9 = 6) h_4 ?_
    refine xv_i2c (pc := 29) hC dX8_charAt_29 ?_
    obtain ⟨h_5, hX⟩ := gd_some hX
    obtain ⟨h1, h2⟩ := some_pair hX
    exact xv_eqi (W := cwR dA a) h1 h2 (hR _ _ _ _ (by rw [← h1]; exact (nch_n h_5)) (Nat.le_of_ble_eq_true rfl) (Nat.le_of_ble_eq_true rfl) dX8_charAt_30)
  · replace hX := if_f c_3 hX
    refine xv_bipush (v := 32) (pc := 18) hC dX8_charAt_18 (by decide) ?_
    refine xv_goto (tgt := 30) (pc := 20) hC dX8_charAt_20 (by decide) ?_
    obtain ⟨h_6, hX⟩ := gd_some hX
    obtain ⟨h1, h2⟩ := some_pair hX
    exact xv_eqi (W := cwR dA a) h1 h2 (hR _ _ _ _ (by rw [← h1]; exact (nch_n h_6)) (Nat.le_of_ble_eq_true rfl) (Nat.le_of_ble_eq_true rfl) dX8_charAt_30)
def sX8_type_B15 (x1 : Int32) (u1 : Int32) (Z : ZZ) : Option (Int32 × ZZ) :=
  bnd (sX8_checked u1 Z) <| fun q_1 =>
  if q_1.1 ≤ 0 then (
    gd (vin (gI q_1.2 0 20) 60 = true) <|
    nm (pI q_1.2 10 (gI q_1.2 0 20).toNatClampNeg x1) <| fun Z_4 =>
    nm (pI Z_4 0 20 ((gI Z_4 0 20) + 1)) <| fun Z_5 =>
    some (gI Z_5 0 20, Z_5)) else (
    some (0, q_1.2))
def sX8_type (x1 : Int32) (Z : ZZ) : Option (Int32 × ZZ) :=
  if (60 : Int32) ≤ (gI Z 0 20) then (
    sX8_type_B15 x1 0 Z) else (
    sX8_type_B15 x1 1 Z)
abbrev rmX8_type : Room := { frames := 1, cells := 0, slots := 0, locals := 21 }
set_option maxHeartbeats 4000000 in
set_option maxRecDepth 100000 in
theorem kX8_type {l : Launch} {D : va_G} {dA : Nat → ClassId} {sa : String → Nat → Nat} {a : Nat → Nat} (hl : l.stackTraces = false) {x1 : Int32} {Z Z' : ZZ} {v : Int32} (hX : sX8_type x1 Z = some (v, Z')) : CTi l D dA sa yX8_type (wz yX8_type cX8_type 2 (some .int)) rmX8_type [.ref (a 0), .int x1] (cwR dA a Z) v (cwR dA a Z') := by
  refine xm_i hl (by decide +kernel) (Nat.le_of_ble_eq_true rfl) rfl ?_
  intro p e s m args below meth c A Q hC hR
  unfold sX8_type at hX
  have v15 : ∀ (u1 : Int32) (Z : ZZ), sX8_type_B15 x1 u1 Z = some (v, Z') → xv p l e rmX8_type s m args below meth c D A 2 Q (cwR dA a Z) 0 0 15 [(0, .ref (a 0)), (1, .int x1)] [.int u1, .ref (a 0)] := by
    intro u1 Z hX
    unfold sX8_type_B15 at hX
    obtain ⟨q_1, hq_1, hX⟩ := bnd_some hX
    refine xv_callVi0 (As := [.int u1]) (pc := 15) hC (kX8_checked hl hq_1) fV_X8_checked wf_1839 (rc_X8 (rfl : shR 0 = 1)) rfl ⟨Nat.le_of_ble_eq_true rfl, Nat.le_of_ble_eq_true rfl⟩ rfl (Nat.le_of_ble_eq_true rfl) dX8_type_15 ⟨Nat.le_of_ble_eq_true rfl, Nat.le_of_ble_eq_true rfl⟩ ?_
    refine xv_if_le (tgt := 23) (pc := 18) hC dX8_type_18 (by decide) (fun c_2 => ?_) (fun c_2 => ?_)
    · replace hX := if_t c_2 hX
      refine xv_aload_n (pc := 23) hC dX8_type_23 0 rfl rfl ?_
      refine xgX8 (v := .ref (a 10)) (pc := 24) hC dX8_type_24 (rfl : shR 0 = 1) 17 (by decide) wf_1570 rfl ?_
      refine xv_aload_n (pc := 27) hC dX8_type_27 0 rfl rfl ?_
      refine xgX8 (v := .int (gI q_1.2 0 20)) (pc := 28) hC dX8_type_28 (rfl : shR 0 = 1) 20 (by decide) wf_1573 rfl ?_
      refine xv_iload_n (pc := 31) hC dX8_type_31 1 rfl rfl ?_
      obtain ⟨h_3, hX⟩ := gd_some hX
      obtain ⟨Z_4, hZ_4, hX⟩ := nm_some hX
      refine xs_R7 (pc := 32) hC dX8_type_32 (rfl : shR 10 = 7) h_3 hZ_4 ?_
      refine xv_aload_n (pc := 33) hC dX8_type_33 0 rfl rfl ?_
      refine xv_dup (pc := 34) hC dX8_type_34 rfl ?_
      refine xgX8 (v := .int (gI Z_4 0 20)) (pc := 35) hC dX8_type_35 (rfl : shR 0 = 1) 20 (by decide) wf_1573 rfl ?_
      refine xv_iconst (v := 1) (pc := 38) hC dX8_type_38 (by decide) ?_
      refine xv_iadd (pc := 39) hC dX8_type_39 ?_
      obtain ⟨Z_5, hZ_5, hX⟩ := nm_some hX
      refine xpX8 (ty := .int) (pc := 40) hC dX8_type_40 (rfl : shR 0 = 1) 20 (by decide) wf_1573 rfl (by decide +kernel) rfl rfl rfl hZ_5 ?_
      refine xv_aload_n (pc := 43) hC dX8_type_43 0 rfl rfl ?_
      refine xgX8 (v := .int (gI Z_5 0 20)) (pc := 44) hC dX8_type_44 (rfl : shR 0 = 1) 20 (by decide) wf_1573 rfl ?_
      obtain ⟨h1, h2⟩ := some_pair hX
      exact xv_eqi (W := cwR dA a) h1 h2 (hR _ _ _ _ (Nat.le_of_ble_eq_true rfl) (Nat.le_of_ble_eq_true rfl) dX8_type_47)
    · replace hX := if_f c_2 hX
      refine xv_iconst (v := 0) (pc := 21) hC dX8_type_21 (by decide) ?_
      obtain ⟨h1, h2⟩ := some_pair hX
      exact xv_eqi (W := cwR dA a) h1 h2 (hR _ _ _ _ (Nat.le_of_ble_eq_true rfl) (Nat.le_of_ble_eq_true rfl) dX8_type_22)
  show xv p l e rmX8_type s m args below meth c D A 2 Q (cwR dA a Z) 0 0 0 [(0, .ref (a 0)), (1, .int x1)] []
  refine xv_aload_n (pc := 0) hC dX8_type_0 0 rfl rfl ?_
  refine xv_aload_n (pc := 1) hC dX8_type_1 0 rfl rfl ?_
  refine xgX8 (v := .int (gI Z 0 20)) (pc := 2) hC dX8_type_2 (rfl : shR 0 = 1) 20 (by decide) wf_1573 rfl ?_
  refine xv_bipush (v := 60) (pc := 5) hC dX8_type_5 (by decide) ?_
  refine xv_icmp_ge (tgt := 14) (pc := 7) hC dX8_type_7 (by decide) (fun c_6 => ?_) (fun c_6 => ?_)
  · replace hX := if_t c_6 hX
    refine xv_iconst (v := 0) (pc := 14) hC dX8_type_14 (by decide) ?_
    exact v15 0 Z hX
  · replace hX := if_f c_6 hX
    refine xv_iconst (v := 1) (pc := 10) hC dX8_type_10 (by decide) ?_
    refine xv_goto (tgt := 15) (pc := 11) hC dX8_type_11 (by decide) ?_
    exact v15 1 Z hX
def sX8_mark (Z : ZZ) : Option (Int32 × ZZ) :=
  if (gI Z 0 24) = 0 then (
    if (gI Z 0 21) ≤ (gI Z 0 22) then (
      some ((-1), Z)) else (
      gd (vin (gI Z 0 22) 60 = true) <|
      some (gI Z 10 (gI Z 0 22).toNatClampNeg, Z))) else (
    some ((-1), Z))
abbrev rmX8_mark : Room := { frames := 0, cells := 0, slots := 0, locals := 0 }
set_option maxHeartbeats 4000000 in
set_option maxRecDepth 100000 in
theorem kX8_mark {l : Launch} {D : va_G} {dA : Nat → ClassId} {sa : String → Nat → Nat} {a : Nat → Nat} (hl : l.stackTraces = false) {Z Z' : ZZ} {v : Int32} (hX : sX8_mark Z = some (v, Z')) : CTi l D dA sa yX8_mark (wz yX8_mark cX8_mark 1 (some .int)) rmX8_mark [.ref (a 0)] (cwR dA a Z) v (cwR dA a Z') := by
  refine xm_i hl (by decide +kernel) (Nat.le_of_ble_eq_true rfl) rfl ?_
  intro p e s m args below meth c A Q hC hR
  unfold sX8_mark at hX
  show xv p l e rmX8_mark s m args below meth c D A 1 Q (cwR dA a Z) 0 0 0 [(0, .ref (a 0))] []
  refine xv_aload_n (pc := 0) hC dX8_mark_0 0 rfl rfl ?_
  refine xgX8 (v := .int (gI Z 0 24)) (pc := 1) hC dX8_mark_1 (rfl : shR 0 = 1) 24 (by decide) wf_1577 rfl ?_
  refine xv_if_ne (tgt := 30) (pc := 4) hC dX8_mark_4 (by decide) (fun c_1 => ?_) (fun c_1 => ?_)
  · replace hX := if_f c_1 hX
    refine xv_iconst (v := (-1)) (pc := 30) hC dX8_mark_30 (by decide) ?_
    obtain ⟨h1, h2⟩ := some_pair hX
    exact xv_eqi (W := cwR dA a) h1 h2 (hR _ _ _ _ (Nat.le_of_ble_eq_true rfl) (Nat.le_of_ble_eq_true rfl) dX8_mark_31)
  · replace hX := if_t c_1 hX
    refine xv_aload_n (pc := 7) hC dX8_mark_7 0 rfl rfl ?_
    refine xgX8 (v := .int (gI Z 0 22)) (pc := 8) hC dX8_mark_8 (rfl : shR 0 = 1) 22 (by decide) wf_1575 rfl ?_
    refine xv_aload_n (pc := 11) hC dX8_mark_11 0 rfl rfl ?_
    refine xgX8 (v := .int (gI Z 0 21)) (pc := 12) hC dX8_mark_12 (rfl : shR 0 = 1) 21 (by decide) wf_1574 rfl ?_
    refine xv_icmp_ge (tgt := 30) (pc := 15) hC dX8_mark_15 (by decide) (fun c_2 => ?_) (fun c_2 => ?_)
    · replace hX := if_t c_2 hX
      refine xv_iconst (v := (-1)) (pc := 30) hC dX8_mark_30 (by decide) ?_
      obtain ⟨h1, h2⟩ := some_pair hX
      exact xv_eqi (W := cwR dA a) h1 h2 (hR _ _ _ _ (Nat.le_of_ble_eq_true rfl) (Nat.le_of_ble_eq_true rfl) dX8_mark_31)
    · replace hX := if_f c_2 hX
      refine xv_aload_n (pc := 18) hC dX8_mark_18 0 rfl rfl ?_
      refine xgX8 (v := .ref (a 10)) (pc := 19) hC dX8_mark_19 (rfl : shR 0 = 1) 17 (by decide) wf_1570 rfl ?_
      refine xv_aload_n (pc := 22) hC dX8_mark_22 0 rfl rfl ?_
      refine xgX8 (v := .int (gI Z 0 22)) (pc := 23) hC dX8_mark_23 (rfl : shR 0 = 1) 22 (by decide) wf_1575 rfl ?_
      obtain ⟨h_3, hX⟩ := gd_some hX
      refine xl_R7 (pc := 26) hC dX8_mark_26 (rfl : shR 10 = 7) h_3 ?_
      refine xv_goto (tgt := 31) (pc := 27) hC dX8_mark_27 (by decide) ?_
      obtain ⟨h1, h2⟩ := some_pair hX
      exact xv_eqi (W := cwR dA a) h1 h2 (hR _ _ _ _ (Nat.le_of_ble_eq_true rfl) (Nat.le_of_ble_eq_true rfl) dX8_mark_31)
def sX8_expect_B18 (x1 : Int32) (u1 : Int32) (u2 : Int32) (Z : ZZ) : Option (ZZ) :=
  gd (bq (u1 ||| u2) = true) <|
  nm (pI Z 0 24 (u1 ||| u2)) <| fun Z_1 =>
  if (gI Z_1 0 24) = 0 then (
    nm (pI Z_1 0 22 ((gI Z_1 0 22) + 1)) <| fun Z_4 =>
    some Z_4) else (
    nm (pI Z_1 0 22 ((gI Z_1 0 22) + 0)) <| fun Z_5 =>
    some Z_5)
def sX8_expect (x1 : Int32) (Z : ZZ) : Option (ZZ) :=
  bnd (sX8_mark Z) <| fun q_6 =>
  if q_6.1 = x1 then (
    sX8_expect_B18 x1 (gI Z 0 24) 0 q_6.2) else (
    sX8_expect_B18 x1 (gI Z 0 24) 1 q_6.2)
abbrev rmX8_expect : Room := { frames := 1, cells := 0, slots := 0, locals := 20 }
set_option maxHeartbeats 4000000 in
set_option maxRecDepth 100000 in
theorem kX8_expect {l : Launch} {D : va_G} {dA : Nat → ClassId} {sa : String → Nat → Nat} {a : Nat → Nat} (hl : l.stackTraces = false) {x1 : Int32} {Z Z' : ZZ} (hX : sX8_expect x1 Z = some Z') : CTv l D dA sa yX8_expect (wz yX8_expect cX8_expect 2 none) rmX8_expect [.ref (a 0), .int x1] (cwR dA a Z) (cwR dA a Z') := by
  refine xm_v hl (by decide +kernel) (Nat.le_of_ble_eq_true rfl) rfl ?_
  intro p e s m args below meth c A Q hC hR
  unfold sX8_expect at hX
  have v18 : ∀ (u1 : Int32) (u2 : Int32) (Z : ZZ), sX8_expect_B18 x1 u1 u2 Z = some Z' → xv p l e rmX8_expect s m args below meth c D A 2 Q (cwR dA a Z) 0 0 18 [(0, .ref (a 0)), (1, .int x1)] [.int u2, .int u1, .ref (a 0)] := by
    intro u1 u2 Z hX
    unfold sX8_expect_B18 at hX
    refine xv_ior (pc := 18) hC dX8_expect_18 ?_
    obtain ⟨h_2, hX⟩ := gd_some hX
    obtain ⟨Z_1, hZ_1, hX⟩ := nm_some hX
    refine xpX8 (ty := .boolean) (pc := 19) hC dX8_expect_19 (rfl : shR 0 = 1) 24 (by decide) wf_1577 rfl (by decide +kernel) (bq_n h_2) (bq_f h_2) rfl hZ_1 ?_
    refine xv_aload_n (pc := 22) hC dX8_expect_22 0 rfl rfl ?_
    refine xv_dup (pc := 23) hC dX8_expect_23 rfl ?_
    refine xgX8 (v := .int (gI Z_1 0 22)) (pc := 24) hC dX8_expect_24 (rfl : shR 0 = 1) 22 (by decide) wf_1575 rfl ?_
    refine xv_aload_n (pc := 27) hC dX8_expect_27 0 rfl rfl ?_
    refine xgX8 (v := .int (gI Z_1 0 24)) (pc := 28) hC dX8_expect_28 (rfl : shR 0 = 1) 24 (by decide) wf_1577 rfl ?_
    refine xv_if_eq (tgt := 38) (pc := 31) hC dX8_expect_31 (by decide) (fun c_3 => ?_) (fun c_3 => ?_)
    · replace hX := if_t c_3 hX
      refine xv_iconst (v := 1) (pc := 38) hC dX8_expect_38 (by decide) ?_
      refine xv_iadd (pc := 39) hC dX8_expect_39 ?_
      obtain ⟨Z_4, hZ_4, hX⟩ := nm_some hX
      refine xpX8 (ty := .int) (pc := 40) hC dX8_expect_40 (rfl : shR 0 = 1) 22 (by decide) wf_1575 rfl (by decide +kernel) rfl rfl rfl hZ_4 ?_
      exact xv_eqw (W := cwR dA a) (Option.some.inj hX) (hR _ _ _ _ (Nat.le_of_ble_eq_true rfl) (Nat.le_of_ble_eq_true rfl) dX8_expect_43)
    · replace hX := if_f c_3 hX
      refine xv_iconst (v := 0) (pc := 34) hC dX8_expect_34 (by decide) ?_
      refine xv_goto (tgt := 39) (pc := 35) hC dX8_expect_35 (by decide) ?_
      refine xv_iadd (pc := 39) hC dX8_expect_39 ?_
      obtain ⟨Z_5, hZ_5, hX⟩ := nm_some hX
      refine xpX8 (ty := .int) (pc := 40) hC dX8_expect_40 (rfl : shR 0 = 1) 22 (by decide) wf_1575 rfl (by decide +kernel) rfl rfl rfl hZ_5 ?_
      exact xv_eqw (W := cwR dA a) (Option.some.inj hX) (hR _ _ _ _ (Nat.le_of_ble_eq_true rfl) (Nat.le_of_ble_eq_true rfl) dX8_expect_43)
  show xv p l e rmX8_expect s m args below meth c D A 2 Q (cwR dA a Z) 0 0 0 [(0, .ref (a 0)), (1, .int x1)] []
  refine xv_aload_n (pc := 0) hC dX8_expect_0 0 rfl rfl ?_
  refine xv_dup (pc := 1) hC dX8_expect_1 rfl ?_
  refine xgX8 (v := .int (gI Z 0 24)) (pc := 2) hC dX8_expect_2 (rfl : shR 0 = 1) 24 (by decide) wf_1577 rfl ?_
  refine xv_aload_n (pc := 5) hC dX8_expect_5 0 rfl rfl ?_
  obtain ⟨q_6, hq_6, hX⟩ := bnd_some hX
  refine xv_callVi0 (As := []) (pc := 6) hC (kX8_mark hl hq_6) fV_X8_mark wf_2029 (rc_X8 (rfl : shR 0 = 1)) rfl ⟨Nat.le_of_ble_eq_true rfl, Nat.le_of_ble_eq_true rfl⟩ rfl (Nat.le_of_ble_eq_true rfl) dX8_expect_6 ⟨Nat.le_of_ble_eq_true rfl, Nat.le_of_ble_eq_true rfl⟩ ?_
  refine xv_iload_n (pc := 9) hC dX8_expect_9 1 rfl rfl ?_
  refine xv_icmp_eq (tgt := 17) (pc := 10) hC dX8_expect_10 (by decide) (fun c_7 => ?_) (fun c_7 => ?_)
  · replace hX := if_t c_7 hX
    refine xv_iconst (v := 0) (pc := 17) hC dX8_expect_17 (by decide) ?_
    exact v18 (gI Z 0 24) 0 q_6.2 hX
  · replace hX := if_f c_7 hX
    refine xv_iconst (v := 1) (pc := 13) hC dX8_expect_13 (by decide) ?_
    refine xv_goto (tgt := 18) (pc := 14) hC dX8_expect_14 (by decide) ?_
    exact v18 (gI Z 0 24) 1 q_6.2 hX
def sX8_number_L32 (x1 : Int32) : Nat → Int32 → Int32 → ZZ → Option (Int32 × ZZ)
  | 0, _, _, _ => none
  | n + 1, y2, y3, Z =>
  if x1 ≤ y3 then (
    some (y2, Z)) else (
    bnd (sX8_mark Z) <| fun q_2 =>
    bnd (sX8_in q_2.1 48 57 q_2.2) <| fun q_3 =>
    if q_3.1 = 0 then (
      some (y2, q_3.2)) else (
      gd (vin (gI q_3.2 0 22) 60 = true) <|
      nm (((10 * y2) + (gI q_3.2 10 (gI q_3.2 0 22).toNatClampNeg)) - 48) <| fun y_6 =>
      nm (pI q_3.2 0 22 ((gI q_3.2 0 22) + 1)) <| fun Z_7 =>
      nm (y3 + 1) <| fun y_8 =>
      sX8_number_L32 x1 n y_6 y_8 Z_7))
def sX8_number (x1 : Int32) (Z : ZZ) : Option (Int32 × ZZ) :=
  bnd (sX8_mark Z) <| fun q_9 =>
  bnd (sX8_in q_9.1 48 57 q_9.2) <| fun q_10 =>
  if q_10.1 = 0 then (
    gd (bq ((gI Z 0 24) ||| 1) = true) <|
    nm (pI q_10.2 0 24 ((gI Z 0 24) ||| 1)) <| fun Z_14 =>
    sX8_number_L32 x1 3000 0 0 Z_14) else (
    gd (bq ((gI Z 0 24) ||| 0) = true) <|
    nm (pI q_10.2 0 24 ((gI Z 0 24) ||| 0)) <| fun Z_12 =>
    sX8_number_L32 x1 3000 0 0 Z_12)
abbrev rmX8_number : Room := { frames := 1, cells := 0, slots := 0, locals := 22 }
set_option maxHeartbeats 4000000 in
set_option maxRecDepth 100000 in
theorem kX8_number {l : Launch} {D : va_G} {dA : Nat → ClassId} {sa : String → Nat → Nat} {a : Nat → Nat} (hl : l.stackTraces = false) {x1 : Int32} {Z Z' : ZZ} {v : Int32} (hX : sX8_number x1 Z = some (v, Z')) : CTi l D dA sa yX8_number (wz yX8_number cX8_number 4 (some .int)) rmX8_number [.ref (a 0), .int x1] (cwR dA a Z) v (cwR dA a Z') := by
  refine xm_i hl (by decide +kernel) (Nat.le_of_ble_eq_true rfl) rfl ?_
  intro p e s m args below meth c A Q hC hR
  unfold sX8_number at hX
  have v32 : ∀ (n : Nat) (y2 : Int32) (y3 : Int32) (Z : ZZ), sX8_number_L32 x1 n y2 y3 Z = some (v, Z') → xv p l e rmX8_number s m args below meth c D A 4 Q (cwR dA a Z) 0 0 32 [(0, .ref (a 0)), (1, .int x1), (2, .int y2), (3, .int y3)] [] := by
    intro n
    induction n with
    | zero =>
      intro y2 y3 Z hX
      exact absurd hX (by simp [sX8_number_L32])
    | succ n ih =>
      intro y2 y3 Z hX
      rw [sX8_number_L32] at hX
      refine xv_iload_n (pc := 32) hC dX8_number_32 3 rfl rfl ?_
      refine xv_iload_n (pc := 33) hC dX8_number_33 1 rfl rfl ?_
      refine xv_icmp_ge (tgt := 85) (pc := 34) hC dX8_number_34 (by decide) (fun c_1 => ?_) (fun c_1 => ?_)
      · replace hX := if_t c_1 hX
        refine xv_iload_n (pc := 85) hC dX8_number_85 2 rfl rfl ?_
        obtain ⟨h1, h2⟩ := some_pair hX
        exact xv_eqi (W := cwR dA a) h1 h2 (hR _ _ _ _ (Nat.le_of_ble_eq_true rfl) (Nat.le_of_ble_eq_true rfl) dX8_number_86)
      · replace hX := if_f c_1 hX
        refine xv_aload_n (pc := 37) hC dX8_number_37 0 rfl rfl ?_
        obtain ⟨q_2, hq_2, hX⟩ := bnd_some hX
        refine xv_callVi0 (As := []) (pc := 38) hC (kX8_mark hl hq_2) fV_X8_mark wf_2029 (rc_X8 (rfl : shR 0 = 1)) rfl ⟨Nat.le_of_ble_eq_true rfl, Nat.le_of_ble_eq_true rfl⟩ rfl (Nat.le_of_ble_eq_true rfl) dX8_number_38 ⟨Nat.le_of_ble_eq_true rfl, Nat.le_of_ble_eq_true rfl⟩ ?_
        refine xv_bipush (v := 48) (pc := 41) hC dX8_number_41 (by decide) ?_
        refine xv_bipush (v := 57) (pc := 43) hC dX8_number_43 (by decide) ?_
        obtain ⟨q_3, hq_3, hX⟩ := bnd_some hX
        refine xv_callSi0 (As := [.int q_2.1, .int 48, .int 57]) (pc := 45) hC (kX8_in hl hq_3) fS_X8_in wf_1668 rfl ⟨Nat.le_of_ble_eq_true rfl, Nat.le_of_ble_eq_true rfl⟩ rfl (Nat.le_of_ble_eq_true rfl) dX8_number_45 ⟨Nat.le_of_ble_eq_true rfl, Nat.le_of_ble_eq_true rfl⟩ ?_
        refine xv_if_eq (tgt := 85) (pc := 48) hC dX8_number_48 (by decide) (fun c_4 => ?_) (fun c_4 => ?_)
        · replace hX := if_t c_4 hX
          refine xv_iload_n (pc := 85) hC dX8_number_85 2 rfl rfl ?_
          obtain ⟨h1, h2⟩ := some_pair hX
          exact xv_eqi (W := cwR dA a) h1 h2 (hR _ _ _ _ (Nat.le_of_ble_eq_true rfl) (Nat.le_of_ble_eq_true rfl) dX8_number_86)
        · replace hX := if_f c_4 hX
          refine xv_bipush (v := 10) (pc := 51) hC dX8_number_51 (by decide) ?_
          refine xv_iload_n (pc := 53) hC dX8_number_53 2 rfl rfl ?_
          refine xv_imul (pc := 54) hC dX8_number_54 ?_
          refine xv_aload_n (pc := 55) hC dX8_number_55 0 rfl rfl ?_
          refine xgX8 (v := .ref (a 10)) (pc := 56) hC dX8_number_56 (rfl : shR 0 = 1) 17 (by decide) wf_1570 rfl ?_
          refine xv_aload_n (pc := 59) hC dX8_number_59 0 rfl rfl ?_
          refine xgX8 (v := .int (gI q_3.2 0 22)) (pc := 60) hC dX8_number_60 (rfl : shR 0 = 1) 22 (by decide) wf_1575 rfl ?_
          obtain ⟨h_5, hX⟩ := gd_some hX
          refine xl_R7 (pc := 63) hC dX8_number_63 (rfl : shR 10 = 7) h_5 ?_
          refine xv_iadd (pc := 64) hC dX8_number_64 ?_
          refine xv_bipush (v := 48) (pc := 65) hC dX8_number_65 (by decide) ?_
          refine xv_isub (pc := 67) hC dX8_number_67 ?_
          obtain ⟨y_6, hy_6, hX⟩ := nm_some hX
          refine xv_nmi hy_6 ?_
          refine xv_istore_n (pc := 68) (lv' := [(2, .int y_6), (0, .ref (a 0)), (1, .int x1), (3, .int y3)]) hC dX8_number_68 rfl (by decide) rfl ?_
          refine xv_aload_n (pc := 69) hC dX8_number_69 1 rfl rfl ?_
          refine xv_dup (pc := 70) hC dX8_number_70 rfl ?_
          refine xgX8 (v := .int (gI q_3.2 0 22)) (pc := 71) hC dX8_number_71 (rfl : shR 0 = 1) 22 (by decide) wf_1575 rfl ?_
          refine xv_iconst (v := 1) (pc := 74) hC dX8_number_74 (by decide) ?_
          refine xv_iadd (pc := 75) hC dX8_number_75 ?_
          obtain ⟨Z_7, hZ_7, hX⟩ := nm_some hX
          refine xpX8 (ty := .int) (pc := 76) hC dX8_number_76 (rfl : shR 0 = 1) 22 (by decide) wf_1575 rfl (by decide +kernel) rfl rfl rfl hZ_7 ?_
          obtain ⟨y_8, hy_8, hX⟩ := nm_some hX
          refine xv_iinc (pc := 79) (v := y_8) (lv' := [(3, .int y_8), (2, .int y_6), (0, .ref (a 0)), (1, .int x1)]) hC dX8_number_79 3 rfl (by rw [hy_8]; rfl) (by decide) rfl ?_
          refine xv_goto (tgt := 32) (pc := 82) hC dX8_number_82 (by decide) ?_
          refine xv_sub (lv' := [(0, .ref (a 0)), (1, .int x1), (2, .int y_6), (3, .int y_8)]) [2, 3, 1, 0] rfl ?_
          exact ih y_6 y_8 Z_7 hX
  show xv p l e rmX8_number s m args below meth c D A 4 Q (cwR dA a Z) 0 0 0 [(0, .ref (a 0)), (1, .int x1)] []
  refine xv_aload_n (pc := 0) hC dX8_number_0 0 rfl rfl ?_
  refine xv_dup (pc := 1) hC dX8_number_1 rfl ?_
  refine xgX8 (v := .int (gI Z 0 24)) (pc := 2) hC dX8_number_2 (rfl : shR 0 = 1) 24 (by decide) wf_1577 rfl ?_
  refine xv_aload_n (pc := 5) hC dX8_number_5 0 rfl rfl ?_
  obtain ⟨q_9, hq_9, hX⟩ := bnd_some hX
  refine xv_callVi0 (As := []) (pc := 6) hC (kX8_mark hl hq_9) fV_X8_mark wf_2029 (rc_X8 (rfl : shR 0 = 1)) rfl ⟨Nat.le_of_ble_eq_true rfl, Nat.le_of_ble_eq_true rfl⟩ rfl (Nat.le_of_ble_eq_true rfl) dX8_number_6 ⟨Nat.le_of_ble_eq_true rfl, Nat.le_of_ble_eq_true rfl⟩ ?_
  refine xv_bipush (v := 48) (pc := 9) hC dX8_number_9 (by decide) ?_
  refine xv_bipush (v := 57) (pc := 11) hC dX8_number_11 (by decide) ?_
  obtain ⟨q_10, hq_10, hX⟩ := bnd_some hX
  refine xv_callSi0 (As := [.int q_9.1, .int 48, .int 57]) (pc := 13) hC (kX8_in hl hq_10) fS_X8_in wf_1668 rfl ⟨Nat.le_of_ble_eq_true rfl, Nat.le_of_ble_eq_true rfl⟩ rfl (Nat.le_of_ble_eq_true rfl) dX8_number_13 ⟨Nat.le_of_ble_eq_true rfl, Nat.le_of_ble_eq_true rfl⟩ ?_
  refine xv_if_ne (tgt := 23) (pc := 16) hC dX8_number_16 (by decide) (fun c_11 => ?_) (fun c_11 => ?_)
  · replace hX := if_f c_11 hX
    refine xv_iconst (v := 0) (pc := 23) hC dX8_number_23 (by decide) ?_
    refine xv_ior (pc := 24) hC dX8_number_24 ?_
    obtain ⟨h_13, hX⟩ := gd_some hX
    obtain ⟨Z_12, hZ_12, hX⟩ := nm_some hX
    refine xpX8 (ty := .boolean) (pc := 25) hC dX8_number_25 (rfl : shR 0 = 1) 24 (by decide) wf_1577 rfl (by decide +kernel) (bq_n h_13) (bq_f h_13) rfl hZ_12 ?_
    refine xv_iconst (v := 0) (pc := 28) hC dX8_number_28 (by decide) ?_
    refine xv_istore_n (pc := 29) (lv' := [(2, .int 0), (0, .ref (a 0)), (1, .int x1)]) hC dX8_number_29 rfl (by decide) rfl ?_
    refine xv_iconst (v := 0) (pc := 30) hC dX8_number_30 (by decide) ?_
    refine xv_istore_n (pc := 31) (lv' := [(3, .int 0), (2, .int 0), (0, .ref (a 0)), (1, .int x1)]) hC dX8_number_31 rfl (by decide) rfl ?_
    refine xv_sub (lv' := [(0, .ref (a 0)), (1, .int x1), (2, .int 0), (3, .int 0)]) [2, 3, 1, 0] rfl ?_
    exact v32 3000 0 0 Z_12 hX
  · replace hX := if_t c_11 hX
    refine xv_iconst (v := 1) (pc := 19) hC dX8_number_19 (by decide) ?_
    refine xv_goto (tgt := 24) (pc := 20) hC dX8_number_20 (by decide) ?_
    refine xv_ior (pc := 24) hC dX8_number_24 ?_
    obtain ⟨h_15, hX⟩ := gd_some hX
    obtain ⟨Z_14, hZ_14, hX⟩ := nm_some hX
    refine xpX8 (ty := .boolean) (pc := 25) hC dX8_number_25 (rfl : shR 0 = 1) 24 (by decide) wf_1577 rfl (by decide +kernel) (bq_n h_15) (bq_f h_15) rfl hZ_14 ?_
    refine xv_iconst (v := 0) (pc := 28) hC dX8_number_28 (by decide) ?_
    refine xv_istore_n (pc := 29) (lv' := [(2, .int 0), (0, .ref (a 0)), (1, .int x1)]) hC dX8_number_29 rfl (by decide) rfl ?_
    refine xv_iconst (v := 0) (pc := 30) hC dX8_number_30 (by decide) ?_
    refine xv_istore_n (pc := 31) (lv' := [(3, .int 0), (2, .int 0), (0, .ref (a 0)), (1, .int x1)]) hC dX8_number_31 rfl (by decide) rfl ?_
    refine xv_sub (lv' := [(0, .ref (a 0)), (1, .int x1), (2, .int 0), (3, .int 0)]) [2, 3, 1, 0] rfl ?_
    exact v32 3000 0 0 Z_14 hX
def sX8_pick (x0 : Int32) (x1 : Int32) (x2 : Int32) (x3 : Int32) (x4 : Int32) (x5 : Int32) (x6 : Int32) (Z : ZZ) : Option (Int32 × ZZ) :=
  if x0 = 0 then (
    some (x1, Z)) else if x0 = 1 then (
    some (x2, Z)) else if x0 = 2 then (
    some (x3, Z)) else if x0 = 3 then (
    some (x4, Z)) else if x0 = 4 then (
    some (x5, Z)) else if x0 = 5 then (
    some (x6, Z)) else (
    some (0, Z))
abbrev rmX8_pick : Room := { frames := 0, cells := 0, slots := 0, locals := 0 }
set_option maxHeartbeats 4000000 in
set_option maxRecDepth 100000 in
theorem kX8_pick {l : Launch} {D : va_G} {dA : Nat → ClassId} {sa : String → Nat → Nat} {a : Nat → Nat} (hl : l.stackTraces = false) {x0 : Int32} {x1 : Int32} {x2 : Int32} {x3 : Int32} {x4 : Int32} {x5 : Int32} {x6 : Int32} {Z Z' : ZZ} {v : Int32} (hX : sX8_pick x0 x1 x2 x3 x4 x5 x6 Z = some (v, Z')) : CTi l D dA sa yX8_pick (wz yX8_pick cX8_pick 7 (some .int)) rmX8_pick [.int x0, .int x1, .int x2, .int x3, .int x4, .int x5, .int x6] (cwR dA a Z) v (cwR dA a Z') := by
  refine xm_i hl (by decide +kernel) (Nat.le_of_ble_eq_true rfl) rfl ?_
  intro p e s m args below meth c A Q hC hR
  unfold sX8_pick at hX
  show xv p l e rmX8_pick s m args below meth c D A 7 Q (cwR dA a Z) 0 0 0 [(0, .int x0), (1, .int x1), (2, .int x2), (3, .int x3), (4, .int x4), (5, .int x5), (6, .int x6)] []
  refine xv_iload_n (pc := 0) hC dX8_pick_0 0 rfl rfl ?_
  by_cases c_1 : x0 = 0
  · replace hX := if_t c_1 hX
    refine xv_tabIn (tgt := 40) (pc := 1) hC dX8_pick_1 0 c_1 (by decide) (by decide) rfl (by decide) ?_
    refine xv_iload_n (pc := 40) hC dX8_pick_40 1 rfl rfl ?_
    obtain ⟨h1, h2⟩ := some_pair hX
    exact xv_eqi (W := cwR dA a) h1 h2 (hR _ _ _ _ (Nat.le_of_ble_eq_true rfl) (Nat.le_of_ble_eq_true rfl) dX8_pick_41)
  replace hX := if_f c_1 hX
  by_cases c_2 : x0 = 1
  · replace hX := if_t c_2 hX
    refine xv_tabIn (tgt := 42) (pc := 1) hC dX8_pick_1 1 c_2 (by decide) (by decide) rfl (by decide) ?_
    refine xv_iload_n (pc := 42) hC dX8_pick_42 2 rfl rfl ?_
    obtain ⟨h1, h2⟩ := some_pair hX
    exact xv_eqi (W := cwR dA a) h1 h2 (hR _ _ _ _ (Nat.le_of_ble_eq_true rfl) (Nat.le_of_ble_eq_true rfl) dX8_pick_43)
  replace hX := if_f c_2 hX
  by_cases c_3 : x0 = 2
  · replace hX := if_t c_3 hX
    refine xv_tabIn (tgt := 44) (pc := 1) hC dX8_pick_1 2 c_3 (by decide) (by decide) rfl (by decide) ?_
    refine xv_iload_n (pc := 44) hC dX8_pick_44 3 rfl rfl ?_
    obtain ⟨h1, h2⟩ := some_pair hX
    exact xv_eqi (W := cwR dA a) h1 h2 (hR _ _ _ _ (Nat.le_of_ble_eq_true rfl) (Nat.le_of_ble_eq_true rfl) dX8_pick_45)
  replace hX := if_f c_3 hX
  by_cases c_4 : x0 = 3
  · replace hX := if_t c_4 hX
    refine xv_tabIn (tgt := 46) (pc := 1) hC dX8_pick_1 3 c_4 (by decide) (by decide) rfl (by decide) ?_
    refine xv_iload (pc := 46) hC dX8_pick_46 4 rfl ?_
    obtain ⟨h1, h2⟩ := some_pair hX
    exact xv_eqi (W := cwR dA a) h1 h2 (hR _ _ _ _ (Nat.le_of_ble_eq_true rfl) (Nat.le_of_ble_eq_true rfl) dX8_pick_48)
  replace hX := if_f c_4 hX
  by_cases c_5 : x0 = 4
  · replace hX := if_t c_5 hX
    refine xv_tabIn (tgt := 49) (pc := 1) hC dX8_pick_1 4 c_5 (by decide) (by decide) rfl (by decide) ?_
    refine xv_iload (pc := 49) hC dX8_pick_49 5 rfl ?_
    obtain ⟨h1, h2⟩ := some_pair hX
    exact xv_eqi (W := cwR dA a) h1 h2 (hR _ _ _ _ (Nat.le_of_ble_eq_true rfl) (Nat.le_of_ble_eq_true rfl) dX8_pick_51)
  replace hX := if_f c_5 hX
  by_cases c_6 : x0 = 5
  · replace hX := if_t c_6 hX
    refine xv_tabIn (tgt := 52) (pc := 1) hC dX8_pick_1 5 c_6 (by decide) (by decide) rfl (by decide) ?_
    refine xv_iload (pc := 52) hC dX8_pick_52 6 rfl ?_
    obtain ⟨h1, h2⟩ := some_pair hX
    exact xv_eqi (W := cwR dA a) h1 h2 (hR _ _ _ _ (Nat.le_of_ble_eq_true rfl) (Nat.le_of_ble_eq_true rfl) dX8_pick_54)
  replace hX := if_f c_6 hX
  refine xv_tabD (tgt := 55) (pc := 1) hC dX8_pick_1 rfl (fun i9 hi9 hne9 hx9 => ?_) (by decide) ?_
  · have hi9 : i9 < 6 := hi9
    rcases (by omega : i9 = 0 ∨ i9 = 1 ∨ i9 = 2 ∨ i9 = 3 ∨ i9 = 4 ∨ i9 = 5) with rfl | rfl | rfl | rfl | rfl | rfl <;> first | exact hne9 rfl | exact absurd hx9 (by assumption)
  · skip
    refine xv_iconst (v := 0) (pc := 55) hC dX8_pick_55 (by decide) ?_
    obtain ⟨h1, h2⟩ := some_pair hX
    exact xv_eqi (W := cwR dA a) h1 h2 (hR _ _ _ _ (Nat.le_of_ble_eq_true rfl) (Nat.le_of_ble_eq_true rfl) dX8_pick_56)
def sX8_spelled (x0 : Int32) (x1 : Int32) (Z : ZZ) : Option (Int32 × ZZ) :=
  if x0 = 0 then (
    bnd (sX8_pick x1 115 119 105 116 99 104 Z) <| fun q_2 =>
    some (q_2.1, q_2.2)) else if x0 = 1 then (
    bnd (sX8_pick x1 116 114 117 110 107 0 Z) <| fun q_4 =>
    some (q_4.1, q_4.2)) else if x0 = 2 then (
    bnd (sX8_pick x1 117 115 101 114 0 0 Z) <| fun q_6 =>
    some (q_6.1, q_6.2)) else if x0 = 3 then (
    bnd (sX8_pick x1 99 97 108 108 0 0 Z) <| fun q_8 =>
    some (q_8.1, q_8.2)) else if x0 = 4 then (
    bnd (sX8_pick x1 104 97 110 103 0 0 Z) <| fun q_10 =>
    some (q_10.1, q_10.2)) else if x0 = 5 then (
    bnd (sX8_pick x1 99 117 116 0 0 0 Z) <| fun q_12 =>
    some (q_12.1, q_12.2)) else if x0 = 6 then (
    bnd (sX8_pick x1 109 101 110 100 0 0 Z) <| fun q_14 =>
    some (q_14.1, q_14.2)) else (
    bnd (sX8_pick x1 119 97 105 116 0 0 Z) <| fun q_15 =>
    some (q_15.1, q_15.2))
abbrev rmX8_spelled : Room := { frames := 1, cells := 0, slots := 0, locals := 26 }
set_option maxHeartbeats 4000000 in
set_option maxRecDepth 100000 in
theorem kX8_spelled {l : Launch} {D : va_G} {dA : Nat → ClassId} {sa : String → Nat → Nat} {a : Nat → Nat} (hl : l.stackTraces = false) {x0 : Int32} {x1 : Int32} {Z Z' : ZZ} {v : Int32} (hX : sX8_spelled x0 x1 Z = some (v, Z')) : CTi l D dA sa yX8_spelled (wz yX8_spelled cX8_spelled 2 (some .int)) rmX8_spelled [.int x0, .int x1] (cwR dA a Z) v (cwR dA a Z') := by
  refine xm_i hl (by decide +kernel) (Nat.le_of_ble_eq_true rfl) rfl ?_
  intro p e s m args below meth c A Q hC hR
  unfold sX8_spelled at hX
  show xv p l e rmX8_spelled s m args below meth c D A 2 Q (cwR dA a Z) 0 0 0 [(0, .int x0), (1, .int x1)] []
  refine xv_iload_n (pc := 0) hC dX8_spelled_0 0 rfl rfl ?_
  by_cases c_1 : x0 = 0
  · replace hX := if_t c_1 hX
    refine xv_tabIn (tgt := 44) (pc := 1) hC dX8_spelled_1 0 c_1 (by decide) (by decide) rfl (by decide) ?_
    refine xv_iload_n (pc := 44) hC dX8_spelled_44 1 rfl rfl ?_
    refine xv_bipush (v := 115) (pc := 45) hC dX8_spelled_45 (by decide) ?_
    refine xv_bipush (v := 119) (pc := 47) hC dX8_spelled_47 (by decide) ?_
    refine xv_bipush (v := 105) (pc := 49) hC dX8_spelled_49 (by decide) ?_
    refine xv_bipush (v := 116) (pc := 51) hC dX8_spelled_51 (by decide) ?_
    refine xv_bipush (v := 99) (pc := 53) hC dX8_spelled_53 (by decide) ?_
    refine xv_bipush (v := 104) (pc := 55) hC dX8_spelled_55 (by decide) ?_
    obtain ⟨q_2, hq_2, hX⟩ := bnd_some hX
    refine xv_callSi0 (As := [.int x1, .int 115, .int 119, .int 105, .int 116, .int 99, .int 104]) (pc := 57) hC (kX8_pick hl hq_2) fS_X8_pick wf_2026 rfl ⟨Nat.le_of_ble_eq_true rfl, Nat.le_of_ble_eq_true rfl⟩ rfl (Nat.le_of_ble_eq_true rfl) dX8_spelled_57 ⟨Nat.le_of_ble_eq_true rfl, Nat.le_of_ble_eq_true rfl⟩ ?_
    obtain ⟨h1, h2⟩ := some_pair hX
    exact xv_eqi (W := cwR dA a) h1 h2 (hR _ _ _ _ (Nat.le_of_ble_eq_true rfl) (Nat.le_of_ble_eq_true rfl) dX8_spelled_60)
  replace hX := if_f c_1 hX
  by_cases c_3 : x0 = 1
  · replace hX := if_t c_3 hX
    refine xv_tabIn (tgt := 61) (pc := 1) hC dX8_spelled_1 1 c_3 (by decide) (by decide) rfl (by decide) ?_
    refine xv_iload_n (pc := 61) hC dX8_spelled_61 1 rfl rfl ?_
    refine xv_bipush (v := 116) (pc := 62) hC dX8_spelled_62 (by decide) ?_
    refine xv_bipush (v := 114) (pc := 64) hC dX8_spelled_64 (by decide) ?_
    refine xv_bipush (v := 117) (pc := 66) hC dX8_spelled_66 (by decide) ?_
    refine xv_bipush (v := 110) (pc := 68) hC dX8_spelled_68 (by decide) ?_
    refine xv_bipush (v := 107) (pc := 70) hC dX8_spelled_70 (by decide) ?_
    refine xv_iconst (v := 0) (pc := 72) hC dX8_spelled_72 (by decide) ?_
    obtain ⟨q_4, hq_4, hX⟩ := bnd_some hX
    refine xv_callSi0 (As := [.int x1, .int 116, .int 114, .int 117, .int 110, .int 107, .int 0]) (pc := 73) hC (kX8_pick hl hq_4) fS_X8_pick wf_2026 rfl ⟨Nat.le_of_ble_eq_true rfl, Nat.le_of_ble_eq_true rfl⟩ rfl (Nat.le_of_ble_eq_true rfl) dX8_spelled_73 ⟨Nat.le_of_ble_eq_true rfl, Nat.le_of_ble_eq_true rfl⟩ ?_
    obtain ⟨h1, h2⟩ := some_pair hX
    exact xv_eqi (W := cwR dA a) h1 h2 (hR _ _ _ _ (Nat.le_of_ble_eq_true rfl) (Nat.le_of_ble_eq_true rfl) dX8_spelled_76)
  replace hX := if_f c_3 hX
  by_cases c_5 : x0 = 2
  · replace hX := if_t c_5 hX
    refine xv_tabIn (tgt := 77) (pc := 1) hC dX8_spelled_1 2 c_5 (by decide) (by decide) rfl (by decide) ?_
    refine xv_iload_n (pc := 77) hC dX8_spelled_77 1 rfl rfl ?_
    refine xv_bipush (v := 117) (pc := 78) hC dX8_spelled_78 (by decide) ?_
    refine xv_bipush (v := 115) (pc := 80) hC dX8_spelled_80 (by decide) ?_
    refine xv_bipush (v := 101) (pc := 82) hC dX8_spelled_82 (by decide) ?_
    refine xv_bipush (v := 114) (pc := 84) hC dX8_spelled_84 (by decide) ?_
    refine xv_iconst (v := 0) (pc := 86) hC dX8_spelled_86 (by decide) ?_
    refine xv_iconst (v := 0) (pc := 87) hC dX8_spelled_87 (by decide) ?_
    obtain ⟨q_6, hq_6, hX⟩ := bnd_some hX
    refine xv_callSi0 (As := [.int x1, .int 117, .int 115, .int 101, .int 114, .int 0, .int 0]) (pc := 88) hC (kX8_pick hl hq_6) fS_X8_pick wf_2026 rfl ⟨Nat.le_of_ble_eq_true rfl, Nat.le_of_ble_eq_true rfl⟩ rfl (Nat.le_of_ble_eq_true rfl) dX8_spelled_88 ⟨Nat.le_of_ble_eq_true rfl, Nat.le_of_ble_eq_true rfl⟩ ?_
    obtain ⟨h1, h2⟩ := some_pair hX
    exact xv_eqi (W := cwR dA a) h1 h2 (hR _ _ _ _ (Nat.le_of_ble_eq_true rfl) (Nat.le_of_ble_eq_true rfl) dX8_spelled_91)
  replace hX := if_f c_5 hX
  by_cases c_7 : x0 = 3
  · replace hX := if_t c_7 hX
    refine xv_tabIn (tgt := 92) (pc := 1) hC dX8_spelled_1 3 c_7 (by decide) (by decide) rfl (by decide) ?_
    refine xv_iload_n (pc := 92) hC dX8_spelled_92 1 rfl rfl ?_
    refine xv_bipush (v := 99) (pc := 93) hC dX8_spelled_93 (by decide) ?_
    refine xv_bipush (v := 97) (pc := 95) hC dX8_spelled_95 (by decide) ?_
    refine xv_bipush (v := 108) (pc := 97) hC dX8_spelled_97 (by decide) ?_
    refine xv_bipush (v := 108) (pc := 99) hC dX8_spelled_99 (by decide) ?_
    refine xv_iconst (v := 0) (pc := 101) hC dX8_spelled_101 (by decide) ?_
    refine xv_iconst (v := 0) (pc := 102) hC dX8_spelled_102 (by decide) ?_
    obtain ⟨q_8, hq_8, hX⟩ := bnd_some hX
    refine xv_callSi0 (As := [.int x1, .int 99, .int 97, .int 108, .int 108, .int 0, .int 0]) (pc := 103) hC (kX8_pick hl hq_8) fS_X8_pick wf_2026 rfl ⟨Nat.le_of_ble_eq_true rfl, Nat.le_of_ble_eq_true rfl⟩ rfl (Nat.le_of_ble_eq_true rfl) dX8_spelled_103 ⟨Nat.le_of_ble_eq_true rfl, Nat.le_of_ble_eq_true rfl⟩ ?_
    obtain ⟨h1, h2⟩ := some_pair hX
    exact xv_eqi (W := cwR dA a) h1 h2 (hR _ _ _ _ (Nat.le_of_ble_eq_true rfl) (Nat.le_of_ble_eq_true rfl) dX8_spelled_106)
  replace hX := if_f c_7 hX
  by_cases c_9 : x0 = 4
  · replace hX := if_t c_9 hX
    refine xv_tabIn (tgt := 107) (pc := 1) hC dX8_spelled_1 4 c_9 (by decide) (by decide) rfl (by decide) ?_
    refine xv_iload_n (pc := 107) hC dX8_spelled_107 1 rfl rfl ?_
    refine xv_bipush (v := 104) (pc := 108) hC dX8_spelled_108 (by decide) ?_
    refine xv_bipush (v := 97) (pc := 110) hC dX8_spelled_110 (by decide) ?_
    refine xv_bipush (v := 110) (pc := 112) hC dX8_spelled_112 (by decide) ?_
    refine xv_bipush (v := 103) (pc := 114) hC dX8_spelled_114 (by decide) ?_
    refine xv_iconst (v := 0) (pc := 116) hC dX8_spelled_116 (by decide) ?_
    refine xv_iconst (v := 0) (pc := 117) hC dX8_spelled_117 (by decide) ?_
    obtain ⟨q_10, hq_10, hX⟩ := bnd_some hX
    refine xv_callSi0 (As := [.int x1, .int 104, .int 97, .int 110, .int 103, .int 0, .int 0]) (pc := 118) hC (kX8_pick hl hq_10) fS_X8_pick wf_2026 rfl ⟨Nat.le_of_ble_eq_true rfl, Nat.le_of_ble_eq_true rfl⟩ rfl (Nat.le_of_ble_eq_true rfl) dX8_spelled_118 ⟨Nat.le_of_ble_eq_true rfl, Nat.le_of_ble_eq_true rfl⟩ ?_
    obtain ⟨h1, h2⟩ := some_pair hX
    exact xv_eqi (W := cwR dA a) h1 h2 (hR _ _ _ _ (Nat.le_of_ble_eq_true rfl) (Nat.le_of_ble_eq_true rfl) dX8_spelled_121)
  replace hX := if_f c_9 hX
  by_cases c_11 : x0 = 5
  · replace hX := if_t c_11 hX
    refine xv_tabIn (tgt := 122) (pc := 1) hC dX8_spelled_1 5 c_11 (by decide) (by decide) rfl (by decide) ?_
    refine xv_iload_n (pc := 122) hC dX8_spelled_122 1 rfl rfl ?_
    refine xv_bipush (v := 99) (pc := 123) hC dX8_spelled_123 (by decide) ?_
    refine xv_bipush (v := 117) (pc := 125) hC dX8_spelled_125 (by decide) ?_
    refine xv_bipush (v := 116) (pc := 127) hC dX8_spelled_127 (by decide) ?_
    refine xv_iconst (v := 0) (pc := 129) hC dX8_spelled_129 (by decide) ?_
    refine xv_iconst (v := 0) (pc := 130) hC dX8_spelled_130 (by decide) ?_
    refine xv_iconst (v := 0) (pc := 131) hC dX8_spelled_131 (by decide) ?_
    obtain ⟨q_12, hq_12, hX⟩ := bnd_some hX
    refine xv_callSi0 (As := [.int x1, .int 99, .int 117, .int 116, .int 0, .int 0, .int 0]) (pc := 132) hC (kX8_pick hl hq_12) fS_X8_pick wf_2026 rfl ⟨Nat.le_of_ble_eq_true rfl, Nat.le_of_ble_eq_true rfl⟩ rfl (Nat.le_of_ble_eq_true rfl) dX8_spelled_132 ⟨Nat.le_of_ble_eq_true rfl, Nat.le_of_ble_eq_true rfl⟩ ?_
    obtain ⟨h1, h2⟩ := some_pair hX
    exact xv_eqi (W := cwR dA a) h1 h2 (hR _ _ _ _ (Nat.le_of_ble_eq_true rfl) (Nat.le_of_ble_eq_true rfl) dX8_spelled_135)
  replace hX := if_f c_11 hX
  by_cases c_13 : x0 = 6
  · replace hX := if_t c_13 hX
    refine xv_tabIn (tgt := 136) (pc := 1) hC dX8_spelled_1 6 c_13 (by decide) (by decide) rfl (by decide) ?_
    refine xv_iload_n (pc := 136) hC dX8_spelled_136 1 rfl rfl ?_
    refine xv_bipush (v := 109) (pc := 137) hC dX8_spelled_137 (by decide) ?_
    refine xv_bipush (v := 101) (pc := 139) hC dX8_spelled_139 (by decide) ?_
    refine xv_bipush (v := 110) (pc := 141) hC dX8_spelled_141 (by decide) ?_
    refine xv_bipush (v := 100) (pc := 143) hC dX8_spelled_143 (by decide) ?_
    refine xv_iconst (v := 0) (pc := 145) hC dX8_spelled_145 (by decide) ?_
    refine xv_iconst (v := 0) (pc := 146) hC dX8_spelled_146 (by decide) ?_
    obtain ⟨q_14, hq_14, hX⟩ := bnd_some hX
    refine xv_callSi0 (As := [.int x1, .int 109, .int 101, .int 110, .int 100, .int 0, .int 0]) (pc := 147) hC (kX8_pick hl hq_14) fS_X8_pick wf_2026 rfl ⟨Nat.le_of_ble_eq_true rfl, Nat.le_of_ble_eq_true rfl⟩ rfl (Nat.le_of_ble_eq_true rfl) dX8_spelled_147 ⟨Nat.le_of_ble_eq_true rfl, Nat.le_of_ble_eq_true rfl⟩ ?_
    obtain ⟨h1, h2⟩ := some_pair hX
    exact xv_eqi (W := cwR dA a) h1 h2 (hR _ _ _ _ (Nat.le_of_ble_eq_true rfl) (Nat.le_of_ble_eq_true rfl) dX8_spelled_150)
  replace hX := if_f c_13 hX
  refine xv_tabD (tgt := 151) (pc := 1) hC dX8_spelled_1 rfl (fun i9 hi9 hne9 hx9 => ?_) (by decide) ?_
  · have hi9 : i9 < 7 := hi9
    rcases (by omega : i9 = 0 ∨ i9 = 1 ∨ i9 = 2 ∨ i9 = 3 ∨ i9 = 4 ∨ i9 = 5 ∨ i9 = 6) with rfl | rfl | rfl | rfl | rfl | rfl | rfl <;> first | exact hne9 rfl | exact absurd hx9 (by assumption)
  · skip
    refine xv_iload_n (pc := 151) hC dX8_spelled_151 1 rfl rfl ?_
    refine xv_bipush (v := 119) (pc := 152) hC dX8_spelled_152 (by decide) ?_
    refine xv_bipush (v := 97) (pc := 154) hC dX8_spelled_154 (by decide) ?_
    refine xv_bipush (v := 105) (pc := 156) hC dX8_spelled_156 (by decide) ?_
    refine xv_bipush (v := 116) (pc := 158) hC dX8_spelled_158 (by decide) ?_
    refine xv_iconst (v := 0) (pc := 160) hC dX8_spelled_160 (by decide) ?_
    refine xv_iconst (v := 0) (pc := 161) hC dX8_spelled_161 (by decide) ?_
    obtain ⟨q_15, hq_15, hX⟩ := bnd_some hX
    refine xv_callSi0 (As := [.int x1, .int 119, .int 97, .int 105, .int 116, .int 0, .int 0]) (pc := 162) hC (kX8_pick hl hq_15) fS_X8_pick wf_2026 rfl ⟨Nat.le_of_ble_eq_true rfl, Nat.le_of_ble_eq_true rfl⟩ rfl (Nat.le_of_ble_eq_true rfl) dX8_spelled_162 ⟨Nat.le_of_ble_eq_true rfl, Nat.le_of_ble_eq_true rfl⟩ ?_
    obtain ⟨h1, h2⟩ := some_pair hX
    exact xv_eqi (W := cwR dA a) h1 h2 (hR _ _ _ _ (Nat.le_of_ble_eq_true rfl) (Nat.le_of_ble_eq_true rfl) dX8_spelled_165)
def sX8_word_B95 (y1 : Int32) (Z : ZZ) : Option (Int32 × ZZ) :=
  nm (pI Z 0 22 ((gI Z 0 22) + y1)) <| fun Z_1 =>
  nm (pI Z_1 0 24 1) <| fun Z_2 =>
  some (0, Z_2)
def sX8_word_B66 (y2 : Int32) (y3 : Int32) (Z : ZZ) : Option (Int32 × ZZ) :=
  nm (pI Z 0 22 ((gI Z 0 22) + y3)) <| fun Z_3 =>
  some (y2, Z_3)
def sX8_word_B58 (k4 : Int32 → Int32 → ZZ → Option (Int32 × ZZ)) (y1 : Int32) (y2 : Int32) (y3 : Int32) (Z : ZZ) : Option (Int32 × ZZ) :=
  bnd (sX8_spelled y2 y3 Z) <| fun q_4 =>
  if q_4.1 = 0 then (
    sX8_word_B66 y2 y3 q_4.2) else (
    if y3 ≤ y1 then (
      nm (y2 + 1) <| fun y_7 =>
      k4 y1 y_7 q_4.2) else (
      nm (y2 + 1) <| fun y_8 =>
      k4 y3 y_8 q_4.2))
def sX8_word_L12 (k4 : Int32 → Int32 → ZZ → Option (Int32 × ZZ)) : Nat → Int32 → Int32 → Int32 → ZZ → Option (Int32 × ZZ)
  | 0, _, _, _, _ => none
  | n + 1, y1, y2, y3, Z =>
  bnd (sX8_spelled y2 y3 Z) <| fun q_9 =>
  if q_9.1 ≤ 0 then (
    sX8_word_B58 k4 y1 y2 y3 q_9.2) else (
    if (gI q_9.2 0 21) ≤ ((gI q_9.2 0 22) + y3) then (
      sX8_word_B58 k4 y1 y2 y3 q_9.2) else (
      gd (vin ((gI q_9.2 0 22) + y3) 60 = true) <|
      bnd (sX8_spelled y2 y3 q_9.2) <| fun q_13 =>
      if (gI q_9.2 10 ((gI q_9.2 0 22) + y3).toNatClampNeg) = q_13.1 then (
        nm (y3 + 1) <| fun y_15 =>
        sX8_word_L12 k4 n y1 y2 y_15 q_13.2) else (
        sX8_word_B58 k4 y1 y2 y3 q_13.2)))
def sX8_word_L4 : Nat → Int32 → Int32 → ZZ → Option (Int32 × ZZ)
  | 0, _, _, _ => none
  | n + 1, y1, y2, Z =>
  if (8 : Int32) ≤ y2 then (
    sX8_word_B95 y1 Z) else (
    sX8_word_L12 (fun y1 y2 Z => sX8_word_L4 n y1 y2 Z) 3000 y1 y2 0 Z)
def sX8_word (Z : ZZ) : Option (Int32 × ZZ) :=
  sX8_word_L4 3000 0 0 Z
abbrev rmX8_word : Room := { frames := 2, cells := 0, slots := 0, locals := 47 }
set_option maxHeartbeats 4000000 in
set_option maxRecDepth 100000 in
theorem kX8_word {l : Launch} {D : va_G} {dA : Nat → ClassId} {sa : String → Nat → Nat} {a : Nat → Nat} (hl : l.stackTraces = false) {Z Z' : ZZ} {v : Int32} (hX : sX8_word Z = some (v, Z')) : CTi l D dA sa yX8_word (wz yX8_word cX8_word 4 (some .int)) rmX8_word [.ref (a 0)] (cwR dA a Z) v (cwR dA a Z') := by
  refine xm_i hl (by decide +kernel) (Nat.le_of_ble_eq_true rfl) rfl ?_
  intro p e s m args below meth c A Q hC hR
  unfold sX8_word at hX
  have v95 : ∀ (y1 : Int32) (Z : ZZ), sX8_word_B95 y1 Z = some (v, Z') → xv p l e rmX8_word s m args below meth c D A 4 Q (cwR dA a Z) 0 0 95 [(0, .ref (a 0)), (1, .int y1)] [] := by
    intro y1 Z hX
    unfold sX8_word_B95 at hX
    refine xv_aload_n (pc := 95) hC dX8_word_95 0 rfl rfl ?_
    refine xv_dup (pc := 96) hC dX8_word_96 rfl ?_
    refine xgX8 (v := .int (gI Z 0 22)) (pc := 97) hC dX8_word_97 (rfl : shR 0 = 1) 22 (by decide) wf_1575 rfl ?_
    refine xv_iload_n (pc := 100) hC dX8_word_100 1 rfl rfl ?_
    refine xv_iadd (pc := 101) hC dX8_word_101 ?_
    obtain ⟨Z_1, hZ_1, hX⟩ := nm_some hX
    refine xpX8 (ty := .int) (pc := 102) hC dX8_word_102 (rfl : shR 0 = 1) 22 (by decide) wf_1575 rfl (by decide +kernel) rfl rfl rfl hZ_1 ?_
    refine xv_aload_n (pc := 105) hC dX8_word_105 0 rfl rfl ?_
    refine xv_iconst (v := 1) (pc := 106) hC dX8_word_106 (by decide) ?_
    obtain ⟨Z_2, hZ_2, hX⟩ := nm_some hX
    refine xpX8 (ty := .boolean) (pc := 107) hC dX8_word_107 (rfl : shR 0 = 1) 24 (by decide) wf_1577 rfl (by decide +kernel) (by decide) (by decide) rfl hZ_2 ?_
    refine xv_iconst (v := 0) (pc := 110) hC dX8_word_110 (by decide) ?_
    obtain ⟨h1, h2⟩ := some_pair hX
    exact xv_eqi (W := cwR dA a) h1 h2 (hR _ _ _ _ (Nat.le_of_ble_eq_true rfl) (Nat.le_of_ble_eq_true rfl) dX8_word_111)
  have v66 : ∀ (y2 : Int32) (y3 : Int32) (Z : ZZ), sX8_word_B66 y2 y3 Z = some (v, Z') → xv p l e rmX8_word s m args below meth c D A 4 Q (cwR dA a Z) 0 0 66 [(0, .ref (a 0)), (2, .int y2), (3, .int y3)] [] := by
    intro y2 y3 Z hX
    unfold sX8_word_B66 at hX
    refine xv_aload_n (pc := 66) hC dX8_word_66 0 rfl rfl ?_
    refine xv_dup (pc := 67) hC dX8_word_67 rfl ?_
    refine xgX8 (v := .int (gI Z 0 22)) (pc := 68) hC dX8_word_68 (rfl : shR 0 = 1) 22 (by decide) wf_1575 rfl ?_
    refine xv_iload_n (pc := 71) hC dX8_word_71 2 rfl rfl ?_
    refine xv_iadd (pc := 72) hC dX8_word_72 ?_
    obtain ⟨Z_3, hZ_3, hX⟩ := nm_some hX
    refine xpX8 (ty := .int) (pc := 73) hC dX8_word_73 (rfl : shR 0 = 1) 22 (by decide) wf_1575 rfl (by decide +kernel) rfl rfl rfl hZ_3 ?_
    refine xv_iload_n (pc := 76) hC dX8_word_76 1 rfl rfl ?_
    obtain ⟨h1, h2⟩ := some_pair hX
    exact xv_eqi (W := cwR dA a) h1 h2 (hR _ _ _ _ (Nat.le_of_ble_eq_true rfl) (Nat.le_of_ble_eq_true rfl) dX8_word_77)
  have v58 : ∀ (k4 : Int32 → Int32 → ZZ → Option (Int32 × ZZ)) (hk4 : ∀ (y1 : Int32) (y2 : Int32) (Z : ZZ), k4 y1 y2 Z = some (v, Z') → xv p l e rmX8_word s m args below meth c D A 4 Q (cwR dA a Z) 0 0 4 [(0, .ref (a 0)), (1, .int y1), (2, .int y2)] []) (y1 : Int32) (y2 : Int32) (y3 : Int32) (Z : ZZ), sX8_word_B58 k4 y1 y2 y3 Z = some (v, Z') → xv p l e rmX8_word s m args below meth c D A 4 Q (cwR dA a Z) 0 0 58 [(0, .ref (a 0)), (1, .int y1), (2, .int y2), (3, .int y3)] [] := by
    intro k4 hk4 y1 y2 y3 Z hX
    unfold sX8_word_B58 at hX
    refine xv_iload_n (pc := 58) hC dX8_word_58 2 rfl rfl ?_
    refine xv_iload_n (pc := 59) hC dX8_word_59 3 rfl rfl ?_
    obtain ⟨q_4, hq_4, hX⟩ := bnd_some hX
    refine xv_callSi0 (As := [.int y2, .int y3]) (pc := 60) hC (kX8_spelled hl hq_4) fS_X8_spelled wf_2023 rfl ⟨Nat.le_of_ble_eq_true rfl, Nat.le_of_ble_eq_true rfl⟩ rfl (Nat.le_of_ble_eq_true rfl) dX8_word_60 ⟨Nat.le_of_ble_eq_true rfl, Nat.le_of_ble_eq_true rfl⟩ ?_
    refine xv_if_ne (tgt := 78) (pc := 63) hC dX8_word_63 (by decide) (fun c_5 => ?_) (fun c_5 => ?_)
    · replace hX := if_f c_5 hX
      refine xv_iload_n (pc := 78) hC dX8_word_78 3 rfl rfl ?_
      refine xv_iload_n (pc := 79) hC dX8_word_79 1 rfl rfl ?_
      refine xv_icmp_le (tgt := 87) (pc := 80) hC dX8_word_80 (by decide) (fun c_6 => ?_) (fun c_6 => ?_)
      · replace hX := if_t c_6 hX
        refine xv_iload_n (pc := 87) hC dX8_word_87 1 rfl rfl ?_
        refine xv_istore_n (pc := 88) (lv' := [(1, .int y1), (0, .ref (a 0)), (2, .int y2), (3, .int y3)]) hC dX8_word_88 rfl (by decide) rfl ?_
        obtain ⟨y_7, hy_7, hX⟩ := nm_some hX
        refine xv_iinc (pc := 89) (v := y_7) (lv' := [(2, .int y_7), (1, .int y1), (0, .ref (a 0)), (3, .int y3)]) hC dX8_word_89 2 rfl (by rw [hy_7]; rfl) (by decide) rfl ?_
        refine xv_goto (tgt := 4) (pc := 92) hC dX8_word_92 (by decide) ?_
        refine xv_sub (lv' := [(0, .ref (a 0)), (1, .int y1), (2, .int y_7)]) [2, 1, 0] rfl ?_
        exact hk4 y1 y_7 q_4.2 hX
      · replace hX := if_f c_6 hX
        refine xv_iload_n (pc := 83) hC dX8_word_83 3 rfl rfl ?_
        refine xv_goto (tgt := 88) (pc := 84) hC dX8_word_84 (by decide) ?_
        refine xv_istore_n (pc := 88) (lv' := [(1, .int y3), (0, .ref (a 0)), (2, .int y2), (3, .int y3)]) hC dX8_word_88 rfl (by decide) rfl ?_
        obtain ⟨y_8, hy_8, hX⟩ := nm_some hX
        refine xv_iinc (pc := 89) (v := y_8) (lv' := [(2, .int y_8), (1, .int y3), (0, .ref (a 0)), (3, .int y3)]) hC dX8_word_89 2 rfl (by rw [hy_8]; rfl) (by decide) rfl ?_
        refine xv_goto (tgt := 4) (pc := 92) hC dX8_word_92 (by decide) ?_
        refine xv_sub (lv' := [(0, .ref (a 0)), (1, .int y3), (2, .int y_8)]) [2, 1, 0] rfl ?_
        exact hk4 y3 y_8 q_4.2 hX
    · replace hX := if_t c_5 hX
      refine xv_sub (lv' := [(0, .ref (a 0)), (2, .int y2), (3, .int y3)]) [0, 2, 3] rfl ?_
      exact v66 y2 y3 q_4.2 hX
  have v12 : ∀ (k4 : Int32 → Int32 → ZZ → Option (Int32 × ZZ)) (hk4 : ∀ (y1 : Int32) (y2 : Int32) (Z : ZZ), k4 y1 y2 Z = some (v, Z') → xv p l e rmX8_word s m args below meth c D A 4 Q (cwR dA a Z) 0 0 4 [(0, .ref (a 0)), (1, .int y1), (2, .int y2)] []) (n : Nat) (y1 : Int32) (y2 : Int32) (y3 : Int32) (Z : ZZ), sX8_word_L12 k4 n y1 y2 y3 Z = some (v, Z') → xv p l e rmX8_word s m args below meth c D A 4 Q (cwR dA a Z) 0 0 12 [(0, .ref (a 0)), (1, .int y1), (2, .int y2), (3, .int y3)] [] := by
    intro k4 hk4 n
    induction n with
    | zero =>
      intro y1 y2 y3 Z hX
      exact absurd hX (by simp [sX8_word_L12])
    | succ n ih =>
      intro y1 y2 y3 Z hX
      rw [sX8_word_L12] at hX
      refine xv_iload_n (pc := 12) hC dX8_word_12 2 rfl rfl ?_
      refine xv_iload_n (pc := 13) hC dX8_word_13 3 rfl rfl ?_
      obtain ⟨q_9, hq_9, hX⟩ := bnd_some hX
      refine xv_callSi0 (As := [.int y2, .int y3]) (pc := 14) hC (kX8_spelled hl hq_9) fS_X8_spelled wf_2023 rfl ⟨Nat.le_of_ble_eq_true rfl, Nat.le_of_ble_eq_true rfl⟩ rfl (Nat.le_of_ble_eq_true rfl) dX8_word_14 ⟨Nat.le_of_ble_eq_true rfl, Nat.le_of_ble_eq_true rfl⟩ ?_
      refine xv_if_le (tgt := 58) (pc := 17) hC dX8_word_17 (by decide) (fun c_10 => ?_) (fun c_10 => ?_)
      · replace hX := if_t c_10 hX
        exact v58 _ hk4 y1 y2 y3 q_9.2 hX
      · replace hX := if_f c_10 hX
        refine xv_aload_n (pc := 20) hC dX8_word_20 0 rfl rfl ?_
        refine xgX8 (v := .int (gI q_9.2 0 22)) (pc := 21) hC dX8_word_21 (rfl : shR 0 = 1) 22 (by decide) wf_1575 rfl ?_
        refine xv_iload_n (pc := 24) hC dX8_word_24 3 rfl rfl ?_
        refine xv_iadd (pc := 25) hC dX8_word_25 ?_
        refine xv_aload_n (pc := 26) hC dX8_word_26 0 rfl rfl ?_
        refine xgX8 (v := .int (gI q_9.2 0 21)) (pc := 27) hC dX8_word_27 (rfl : shR 0 = 1) 21 (by decide) wf_1574 rfl ?_
        refine xv_icmp_ge (tgt := 58) (pc := 30) hC dX8_word_30 (by decide) (fun c_11 => ?_) (fun c_11 => ?_)
        · replace hX := if_t c_11 hX
          exact v58 _ hk4 y1 y2 y3 q_9.2 hX
        · replace hX := if_f c_11 hX
          refine xv_aload_n (pc := 33) hC dX8_word_33 0 rfl rfl ?_
          refine xgX8 (v := .ref (a 10)) (pc := 34) hC dX8_word_34 (rfl : shR 0 = 1) 17 (by decide) wf_1570 rfl ?_
          refine xv_aload_n (pc := 37) hC dX8_word_37 0 rfl rfl ?_
          refine xgX8 (v := .int (gI q_9.2 0 22)) (pc := 38) hC dX8_word_38 (rfl : shR 0 = 1) 22 (by decide) wf_1575 rfl ?_
          refine xv_iload_n (pc := 41) hC dX8_word_41 3 rfl rfl ?_
          refine xv_iadd (pc := 42) hC dX8_word_42 ?_
          obtain ⟨h_12, hX⟩ := gd_some hX
          refine xl_R7 (pc := 43) hC dX8_word_43 (rfl : shR 10 = 7) h_12 ?_
          refine xv_iload_n (pc := 44) hC dX8_word_44 2 rfl rfl ?_
          refine xv_iload_n (pc := 45) hC dX8_word_45 3 rfl rfl ?_
          obtain ⟨q_13, hq_13, hX⟩ := bnd_some hX
          refine xv_callSi0 (As := [.int y2, .int y3]) (pc := 46) hC (kX8_spelled hl hq_13) fS_X8_spelled wf_2023 rfl ⟨Nat.le_of_ble_eq_true rfl, Nat.le_of_ble_eq_true rfl⟩ rfl (Nat.le_of_ble_eq_true rfl) dX8_word_46 ⟨Nat.le_of_ble_eq_true rfl, Nat.le_of_ble_eq_true rfl⟩ ?_
          refine xv_icmp_ne (tgt := 58) (pc := 49) hC dX8_word_49 (by decide) (fun c_14 => ?_) (fun c_14 => ?_)
          · replace hX := if_f c_14 hX
            exact v58 _ hk4 y1 y2 y3 q_13.2 hX
          · replace hX := if_t c_14 hX
            obtain ⟨y_15, hy_15, hX⟩ := nm_some hX
            refine xv_iinc (pc := 52) (v := y_15) (lv' := [(3, .int y_15), (0, .ref (a 0)), (1, .int y1), (2, .int y2)]) hC dX8_word_52 3 rfl (by rw [hy_15]; rfl) (by decide) rfl ?_
            refine xv_goto (tgt := 12) (pc := 55) hC dX8_word_55 (by decide) ?_
            refine xv_sub (lv' := [(0, .ref (a 0)), (1, .int y1), (2, .int y2), (3, .int y_15)]) [1, 2, 3, 0] rfl ?_
            exact ih y1 y2 y_15 q_13.2 hX
  have v4 : ∀ (n : Nat) (y1 : Int32) (y2 : Int32) (Z : ZZ), sX8_word_L4 n y1 y2 Z = some (v, Z') → xv p l e rmX8_word s m args below meth c D A 4 Q (cwR dA a Z) 0 0 4 [(0, .ref (a 0)), (1, .int y1), (2, .int y2)] [] := by
    intro n
    induction n with
    | zero =>
      intro y1 y2 Z hX
      exact absurd hX (by simp [sX8_word_L4])
    | succ n ih =>
      intro y1 y2 Z hX
      rw [sX8_word_L4] at hX
      refine xv_iload_n (pc := 4) hC dX8_word_4 2 rfl rfl ?_
      refine xv_bipush (v := 8) (pc := 5) hC dX8_word_5 (by decide) ?_
      refine xv_icmp_ge (tgt := 95) (pc := 7) hC dX8_word_7 (by decide) (fun c_16 => ?_) (fun c_16 => ?_)
      · replace hX := if_t c_16 hX
        refine xv_sub (lv' := [(0, .ref (a 0)), (1, .int y1)]) [0, 1] rfl ?_
        exact v95 y1 Z hX
      · replace hX := if_f c_16 hX
        refine xv_iconst (v := 0) (pc := 10) hC dX8_word_10 (by decide) ?_
        refine xv_istore_n (pc := 11) (lv' := [(3, .int 0), (0, .ref (a 0)), (1, .int y1), (2, .int y2)]) hC dX8_word_11 rfl (by decide) rfl ?_
        refine xv_sub (lv' := [(0, .ref (a 0)), (1, .int y1), (2, .int y2), (3, .int 0)]) [1, 2, 3, 0] rfl ?_
        exact v12 _ ih 3000 y1 y2 0 Z hX
  show xv p l e rmX8_word s m args below meth c D A 4 Q (cwR dA a Z) 0 0 0 [(0, .ref (a 0))] []
  refine xv_iconst (v := 0) (pc := 0) hC dX8_word_0 (by decide) ?_
  refine xv_istore_n (pc := 1) (lv' := [(1, .int 0), (0, .ref (a 0))]) hC dX8_word_1 rfl (by decide) rfl ?_
  refine xv_iconst (v := 0) (pc := 2) hC dX8_word_2 (by decide) ?_
  refine xv_istore_n (pc := 3) (lv' := [(2, .int 0), (1, .int 0), (0, .ref (a 0))]) hC dX8_word_3 rfl (by decide) rfl ?_
  refine xv_sub (lv' := [(0, .ref (a 0)), (1, .int 0), (2, .int 0)]) [2, 1, 0] rfl ?_
  exact v4 3000 0 0 Z hX
def sX8_command_B123 (y1 : Int32) (y2 : Int32) (y3 : Int32) (y4 : Int32) (Z : ZZ) : Option (ZZ) :=
  if (gI Z 0 24) = 0 then (
    gd (vin (gI Z 0 23) 32 = true) <|
    nm (pI Z 11 (gI Z 0 23).toNatClampNeg y1) <| fun Z_3 =>
    gd (vin (3 * (gI Z_3 0 23)) 96 = true) <|
    nm (pI Z_3 12 (3 * (gI Z_3 0 23)).toNatClampNeg y2) <| fun Z_5 =>
    gd (vin ((3 * (gI Z_5 0 23)) + 1) 96 = true) <|
    nm (pI Z_5 12 ((3 * (gI Z_5 0 23)) + 1).toNatClampNeg y3) <| fun Z_7 =>
    gd (vin ((3 * (gI Z_7 0 23)) + 2) 96 = true) <|
    nm (pI Z_7 12 ((3 * (gI Z_7 0 23)) + 2).toNatClampNeg y4) <| fun Z_9 =>
    nm (pI Z_9 0 23 ((gI Z_9 0 23) + 1)) <| fun Z_10 =>
    some Z_10) else (
    some Z)
def sX8_command_B105 (y1 : Int32) (y2 : Int32) (y3 : Int32) (y4 : Int32) (Z : ZZ) : Option (ZZ) :=
  if y1 = 1 then (
    bnd (sX8_expect 61 Z) <| fun q_12 =>
    bnd (sX8_number 2 q_12) <| fun q_13 =>
    nm (q_13.1) <| fun y_14 =>
    sX8_command_B123 y1 y2 y3 y_14 q_13.2) else (
    sX8_command_B123 y1 y2 y3 y4 Z)
def sX8_command_B96 (y1 : Int32) (y2 : Int32) (y4 : Int32) (u1 : Int32) (Z : ZZ) : Option (ZZ) :=
  bnd (sX8_expect u1 Z) <| fun q_15 =>
  bnd (sX8_number 1 q_15) <| fun q_16 =>
  nm (q_16.1) <| fun y_17 =>
  sX8_command_B105 y1 y2 y_17 y4 q_16.2
def sX8_command_B64 (y1 : Int32) (y2 : Int32) (y3 : Int32) (y4 : Int32) (Z : ZZ) : Option (ZZ) :=
  if y1 ≤ 0 then (
    sX8_command_B105 y1 y2 y3 y4 Z) else (
    if (4 : Int32) ≤ y1 then (
      sX8_command_B105 y1 y2 y3 y4 Z) else (
      if y1 = 1 then (
        sX8_command_B96 y1 y2 y4 45 Z) else (
        if y1 = 2 then (
          sX8_command_B96 y1 y2 y4 47 Z) else (
          sX8_command_B96 y1 y2 y4 62 Z))))
def sX8_command_B60 (y1 : Int32) (y3 : Int32) (y4 : Int32) (u1 : Int32) (Z : ZZ) : Option (ZZ) :=
  bnd (sX8_number u1 Z) <| fun q_22 =>
  nm (q_22.1) <| fun y_23 =>
  sX8_command_B64 y1 y_23 y3 y4 q_22.2
def sX8_command_B36 (y1 : Int32) (y2 : Int32) (y3 : Int32) (y4 : Int32) (u0 : Int32) (Z : ZZ) : Option (ZZ) :=
  if u0 = 0 then (
    sX8_command_B64 y1 y2 y3 y4 Z) else (
    bnd (sX8_expect 32 Z) <| fun q_25 =>
    if y1 ≤ 4 then (
      sX8_command_B60 y1 y3 y4 1 q_25) else (
      sX8_command_B60 y1 y3 y4 2 q_25))
def sX8_command_B35 (y1 : Int32) (y2 : Int32) (y3 : Int32) (y4 : Int32) (Z : ZZ) : Option (ZZ) :=
  sX8_command_B36 y1 y2 y3 y4 0 Z
def sX8_command_B31 (y1 : Int32) (y2 : Int32) (y3 : Int32) (y4 : Int32) (Z : ZZ) : Option (ZZ) :=
  sX8_command_B36 y1 y2 y3 y4 1 Z
def sX8_command (Z : ZZ) : Option (ZZ) :=
  bnd (sX8_word Z) <| fun q_27 =>
  nm (q_27.1) <| fun y_28 =>
  if y_28 ≤ 0 then (
    sX8_command_B35 y_28 1 0 0 q_27.2) else (
    if y_28 < 7 then (
      sX8_command_B31 y_28 1 0 0 q_27.2) else (
      bnd (sX8_mark q_27.2) <| fun q_31 =>
      if q_31.1 = 32 then (
        sX8_command_B31 y_28 1 0 0 q_31.2) else (
        sX8_command_B35 y_28 1 0 0 q_31.2)))
abbrev rmX8_command : Room := { frames := 3, cells := 0, slots := 0, locals := 70 }
set_option maxHeartbeats 4000000 in
set_option maxRecDepth 100000 in
theorem kX8_command {l : Launch} {D : va_G} {dA : Nat → ClassId} {sa : String → Nat → Nat} {a : Nat → Nat} (hl : l.stackTraces = false) {Z Z' : ZZ} (hX : sX8_command Z = some Z') : CTv l D dA sa yX8_command (wz yX8_command cX8_command 6 none) rmX8_command [.ref (a 0)] (cwR dA a Z) (cwR dA a Z') := by
  refine xm_v hl (by decide +kernel) (Nat.le_of_ble_eq_true rfl) rfl ?_
  intro p e s m args below meth c A Q hC hR
  unfold sX8_command at hX
  have v123 : ∀ (y1 : Int32) (y2 : Int32) (y3 : Int32) (y4 : Int32) (Z : ZZ), sX8_command_B123 y1 y2 y3 y4 Z = some Z' → xv p l e rmX8_command s m args below meth c D A 6 Q (cwR dA a Z) 0 0 123 [(0, .ref (a 0)), (1, .int y1), (2, .int y2), (3, .int y3), (4, .int y4)] [] := by
    intro y1 y2 y3 y4 Z hX
    unfold sX8_command_B123 at hX
    refine xv_aload_n (pc := 123) hC dX8_command_123 0 rfl rfl ?_
    refine xgX8 (v := .int (gI Z 0 24)) (pc := 124) hC dX8_command_124 (rfl : shR 0 = 1) 24 (by decide) wf_1577 rfl ?_
    refine xv_if_eq (tgt := 131) (pc := 127) hC dX8_command_127 (by decide) (fun c_1 => ?_) (fun c_1 => ?_)
    · replace hX := if_t c_1 hX
      refine xv_aload_n (pc := 131) hC dX8_command_131 0 rfl rfl ?_
      refine xgX8 (v := .ref (a 11)) (pc := 132) hC dX8_command_132 (rfl : shR 0 = 1) 18 (by decide) wf_1571 rfl ?_
      refine xv_aload_n (pc := 135) hC dX8_command_135 0 rfl rfl ?_
      refine xgX8 (v := .int (gI Z 0 23)) (pc := 136) hC dX8_command_136 (rfl : shR 0 = 1) 23 (by decide) wf_1576 rfl ?_
      refine xv_iload_n (pc := 139) hC dX8_command_139 1 rfl rfl ?_
      obtain ⟨h_2, hX⟩ := gd_some hX
      obtain ⟨Z_3, hZ_3, hX⟩ := nm_some hX
      refine xs_R8 (pc := 140) hC dX8_command_140 (rfl : shR 11 = 8) h_2 hZ_3 ?_
      refine xv_aload_n (pc := 141) hC dX8_command_141 0 rfl rfl ?_
      refine xgX8 (v := .ref (a 12)) (pc := 142) hC dX8_command_142 (rfl : shR 0 = 1) 19 (by decide) wf_1572 rfl ?_
      refine xv_iconst (v := 3) (pc := 145) hC dX8_command_145 (by decide) ?_
      refine xv_aload_n (pc := 146) hC dX8_command_146 0 rfl rfl ?_
      refine xgX8 (v := .int (gI Z_3 0 23)) (pc := 147) hC dX8_command_147 (rfl : shR 0 = 1) 23 (by decide) wf_1576 rfl ?_
      refine xv_imul (pc := 150) hC dX8_command_150 ?_
      refine xv_iload_n (pc := 151) hC dX8_command_151 2 rfl rfl ?_
      obtain ⟨h_4, hX⟩ := gd_some hX
      obtain ⟨Z_5, hZ_5, hX⟩ := nm_some hX
      refine xs_R9 (pc := 152) hC dX8_command_152 (rfl : shR 12 = 9) h_4 hZ_5 ?_
      refine xv_aload_n (pc := 153) hC dX8_command_153 0 rfl rfl ?_
      refine xgX8 (v := .ref (a 12)) (pc := 154) hC dX8_command_154 (rfl : shR 0 = 1) 19 (by decide) wf_1572 rfl ?_
      refine xv_iconst (v := 3) (pc := 157) hC dX8_command_157 (by decide) ?_
      refine xv_aload_n (pc := 158) hC dX8_command_158 0 rfl rfl ?_
      refine xgX8 (v := .int (gI Z_5 0 23)) (pc := 159) hC dX8_command_159 (rfl : shR 0 = 1) 23 (by decide) wf_1576 rfl ?_
      refine xv_imul (pc := 162) hC dX8_command_162 ?_
      refine xv_iconst (v := 1) (pc := 163) hC dX8_command_163 (by decide) ?_
      refine xv_iadd (pc := 164) hC dX8_command_164 ?_
      refine xv_iload_n (pc := 165) hC dX8_command_165 3 rfl rfl ?_
      obtain ⟨h_6, hX⟩ := gd_some hX
      obtain ⟨Z_7, hZ_7, hX⟩ := nm_some hX
      refine xs_R9 (pc := 166) hC dX8_command_166 (rfl : shR 12 = 9) h_6 hZ_7 ?_
      refine xv_aload_n (pc := 167) hC dX8_command_167 0 rfl rfl ?_
      refine xgX8 (v := .ref (a 12)) (pc := 168) hC dX8_command_168 (rfl : shR 0 = 1) 19 (by decide) wf_1572 rfl ?_
      refine xv_iconst (v := 3) (pc := 171) hC dX8_command_171 (by decide) ?_
      refine xv_aload_n (pc := 172) hC dX8_command_172 0 rfl rfl ?_
      refine xgX8 (v := .int (gI Z_7 0 23)) (pc := 173) hC dX8_command_173 (rfl : shR 0 = 1) 23 (by decide) wf_1576 rfl ?_
      refine xv_imul (pc := 176) hC dX8_command_176 ?_
      refine xv_iconst (v := 2) (pc := 177) hC dX8_command_177 (by decide) ?_
      refine xv_iadd (pc := 178) hC dX8_command_178 ?_
      refine xv_iload (pc := 179) hC dX8_command_179 4 rfl ?_
      obtain ⟨h_8, hX⟩ := gd_some hX
      obtain ⟨Z_9, hZ_9, hX⟩ := nm_some hX
      refine xs_R9 (pc := 181) hC dX8_command_181 (rfl : shR 12 = 9) h_8 hZ_9 ?_
      refine xv_aload_n (pc := 182) hC dX8_command_182 0 rfl rfl ?_
      refine xv_dup (pc := 183) hC dX8_command_183 rfl ?_
      refine xgX8 (v := .int (gI Z_9 0 23)) (pc := 184) hC dX8_command_184 (rfl : shR 0 = 1) 23 (by decide) wf_1576 rfl ?_
      refine xv_iconst (v := 1) (pc := 187) hC dX8_command_187 (by decide) ?_
      refine xv_iadd (pc := 188) hC dX8_command_188 ?_
      obtain ⟨Z_10, hZ_10, hX⟩ := nm_some hX
      refine xpX8 (ty := .int) (pc := 189) hC dX8_command_189 (rfl : shR 0 = 1) 23 (by decide) wf_1576 rfl (by decide +kernel) rfl rfl rfl hZ_10 ?_
      exact xv_eqw (W := cwR dA a) (Option.some.inj hX) (hR _ _ _ _ (Nat.le_of_ble_eq_true rfl) (Nat.le_of_ble_eq_true rfl) dX8_command_192)
    · replace hX := if_f c_1 hX
      exact xv_eqw (W := cwR dA a) (Option.some.inj hX) (hR _ _ _ _ (Nat.le_of_ble_eq_true rfl) (Nat.le_of_ble_eq_true rfl) dX8_command_130)
  have v105 : ∀ (y1 : Int32) (y2 : Int32) (y3 : Int32) (y4 : Int32) (Z : ZZ), sX8_command_B105 y1 y2 y3 y4 Z = some Z' → xv p l e rmX8_command s m args below meth c D A 6 Q (cwR dA a Z) 0 0 105 [(0, .ref (a 0)), (1, .int y1), (2, .int y2), (3, .int y3), (4, .int y4)] [] := by
    intro y1 y2 y3 y4 Z hX
    unfold sX8_command_B105 at hX
    refine xv_iload_n (pc := 105) hC dX8_command_105 1 rfl rfl ?_
    refine xv_iconst (v := 1) (pc := 106) hC dX8_command_106 (by decide) ?_
    refine xv_icmp_ne (tgt := 123) (pc := 107) hC dX8_command_107 (by decide) (fun c_11 => ?_) (fun c_11 => ?_)
    · replace hX := if_f c_11 hX
      exact v123 y1 y2 y3 y4 Z hX
    · replace hX := if_t c_11 hX
      refine xv_aload_n (pc := 110) hC dX8_command_110 0 rfl rfl ?_
      refine xv_bipush (v := 61) (pc := 111) hC dX8_command_111 (by decide) ?_
      obtain ⟨q_12, hq_12, hX⟩ := bnd_some hX
      refine xv_callVv0 (As := [.int 61]) (pc := 113) hC (kX8_expect hl hq_12) fV_X8_expect wf_2033 (rc_X8 (rfl : shR 0 = 1)) rfl ⟨Nat.le_of_ble_eq_true rfl, Nat.le_of_ble_eq_true rfl⟩ rfl (Nat.le_of_ble_eq_true rfl) dX8_command_113 ⟨Nat.le_of_ble_eq_true rfl, Nat.le_of_ble_eq_true rfl⟩ ?_
      refine xv_aload_n (pc := 116) hC dX8_command_116 0 rfl rfl ?_
      refine xv_iconst (v := 2) (pc := 117) hC dX8_command_117 (by decide) ?_
      obtain ⟨q_13, hq_13, hX⟩ := bnd_some hX
      refine xv_callVi0 (As := [.int 2]) (pc := 118) hC (kX8_number hl hq_13) fV_X8_number wf_2037 (rc_X8 (rfl : shR 0 = 1)) rfl ⟨Nat.le_of_ble_eq_true rfl, Nat.le_of_ble_eq_true rfl⟩ rfl (Nat.le_of_ble_eq_true rfl) dX8_command_118 ⟨Nat.le_of_ble_eq_true rfl, Nat.le_of_ble_eq_true rfl⟩ ?_
      obtain ⟨y_14, hy_14, hX⟩ := nm_some hX
      refine xv_nmi hy_14 ?_
      refine xv_istore (pc := 121) (lv' := [(4, .int y_14), (0, .ref (a 0)), (1, .int y1), (2, .int y2), (3, .int y3)]) hC dX8_command_121 (by decide) rfl ?_
      refine xv_sub (lv' := [(0, .ref (a 0)), (1, .int y1), (2, .int y2), (3, .int y3), (4, .int y_14)]) [1, 2, 3, 4, 0] rfl ?_
      exact v123 y1 y2 y3 y_14 q_13.2 hX
  have v96 : ∀ (y1 : Int32) (y2 : Int32) (y4 : Int32) (u1 : Int32) (Z : ZZ), sX8_command_B96 y1 y2 y4 u1 Z = some Z' → xv p l e rmX8_command s m args below meth c D A 6 Q (cwR dA a Z) 0 0 96 [(0, .ref (a 0)), (1, .int y1), (2, .int y2), (4, .int y4)] [.int u1, .ref (a 0)] := by
    intro y1 y2 y4 u1 Z hX
    unfold sX8_command_B96 at hX
    obtain ⟨q_15, hq_15, hX⟩ := bnd_some hX
    refine xv_callVv0 (As := [.int u1]) (pc := 96) hC (kX8_expect hl hq_15) fV_X8_expect wf_2033 (rc_X8 (rfl : shR 0 = 1)) rfl ⟨Nat.le_of_ble_eq_true rfl, Nat.le_of_ble_eq_true rfl⟩ rfl (Nat.le_of_ble_eq_true rfl) dX8_command_96 ⟨Nat.le_of_ble_eq_true rfl, Nat.le_of_ble_eq_true rfl⟩ ?_
    refine xv_aload_n (pc := 99) hC dX8_command_99 0 rfl rfl ?_
    refine xv_iconst (v := 1) (pc := 100) hC dX8_command_100 (by decide) ?_
    obtain ⟨q_16, hq_16, hX⟩ := bnd_some hX
    refine xv_callVi0 (As := [.int 1]) (pc := 101) hC (kX8_number hl hq_16) fV_X8_number wf_2037 (rc_X8 (rfl : shR 0 = 1)) rfl ⟨Nat.le_of_ble_eq_true rfl, Nat.le_of_ble_eq_true rfl⟩ rfl (Nat.le_of_ble_eq_true rfl) dX8_command_101 ⟨Nat.le_of_ble_eq_true rfl, Nat.le_of_ble_eq_true rfl⟩ ?_
    obtain ⟨y_17, hy_17, hX⟩ := nm_some hX
    refine xv_nmi hy_17 ?_
    refine xv_istore_n (pc := 104) (lv' := [(3, .int y_17), (0, .ref (a 0)), (1, .int y1), (2, .int y2), (4, .int y4)]) hC dX8_command_104 rfl (by decide) rfl ?_
    refine xv_sub (lv' := [(0, .ref (a 0)), (1, .int y1), (2, .int y2), (3, .int y_17), (4, .int y4)]) [1, 2, 3, 0, 4] rfl ?_
    exact v105 y1 y2 y_17 y4 q_16.2 hX
  have v64 : ∀ (y1 : Int32) (y2 : Int32) (y3 : Int32) (y4 : Int32) (Z : ZZ), sX8_command_B64 y1 y2 y3 y4 Z = some Z' → xv p l e rmX8_command s m args below meth c D A 6 Q (cwR dA a Z) 0 0 64 [(0, .ref (a 0)), (1, .int y1), (2, .int y2), (3, .int y3), (4, .int y4)] [] := by
    intro y1 y2 y3 y4 Z hX
    unfold sX8_command_B64 at hX
    refine xv_iload_n (pc := 64) hC dX8_command_64 1 rfl rfl ?_
    refine xv_if_le (tgt := 105) (pc := 65) hC dX8_command_65 (by decide) (fun c_18 => ?_) (fun c_18 => ?_)
    · replace hX := if_t c_18 hX
      exact v105 y1 y2 y3 y4 Z hX
    · replace hX := if_f c_18 hX
      refine xv_iload_n (pc := 68) hC dX8_command_68 1 rfl rfl ?_
      refine xv_iconst (v := 4) (pc := 69) hC dX8_command_69 (by decide) ?_
      refine xv_icmp_ge (tgt := 105) (pc := 70) hC dX8_command_70 (by decide) (fun c_19 => ?_) (fun c_19 => ?_)
      · replace hX := if_t c_19 hX
        exact v105 y1 y2 y3 y4 Z hX
      · replace hX := if_f c_19 hX
        refine xv_aload_n (pc := 73) hC dX8_command_73 0 rfl rfl ?_
        refine xv_iload_n (pc := 74) hC dX8_command_74 1 rfl rfl ?_
        refine xv_iconst (v := 1) (pc := 75) hC dX8_command_75 (by decide) ?_
        refine xv_icmp_ne (tgt := 84) (pc := 76) hC dX8_command_76 (by decide) (fun c_20 => ?_) (fun c_20 => ?_)
        · replace hX := if_f c_20 hX
          refine xv_iload_n (pc := 84) hC dX8_command_84 1 rfl rfl ?_
          refine xv_iconst (v := 2) (pc := 85) hC dX8_command_85 (by decide) ?_
          refine xv_icmp_ne (tgt := 94) (pc := 86) hC dX8_command_86 (by decide) (fun c_21 => ?_) (fun c_21 => ?_)
          · replace hX := if_f c_21 hX
            refine xv_bipush (v := 62) (pc := 94) hC dX8_command_94 (by decide) ?_
            refine xv_sub (lv' := [(0, .ref (a 0)), (1, .int y1), (2, .int y2), (4, .int y4)]) [0, 1, 2, 4] rfl ?_
            exact v96 y1 y2 y4 62 Z hX
          · replace hX := if_t c_21 hX
            refine xv_bipush (v := 47) (pc := 89) hC dX8_command_89 (by decide) ?_
            refine xv_goto (tgt := 96) (pc := 91) hC dX8_command_91 (by decide) ?_
            refine xv_sub (lv' := [(0, .ref (a 0)), (1, .int y1), (2, .int y2), (4, .int y4)]) [0, 1, 2, 4] rfl ?_
            exact v96 y1 y2 y4 47 Z hX
        · replace hX := if_t c_20 hX
          refine xv_bipush (v := 45) (pc := 79) hC dX8_command_79 (by decide) ?_
          refine xv_goto (tgt := 96) (pc := 81) hC dX8_command_81 (by decide) ?_
          refine xv_sub (lv' := [(0, .ref (a 0)), (1, .int y1), (2, .int y2), (4, .int y4)]) [0, 1, 2, 4] rfl ?_
          exact v96 y1 y2 y4 45 Z hX
  have v60 : ∀ (y1 : Int32) (y3 : Int32) (y4 : Int32) (u1 : Int32) (Z : ZZ), sX8_command_B60 y1 y3 y4 u1 Z = some Z' → xv p l e rmX8_command s m args below meth c D A 6 Q (cwR dA a Z) 0 0 60 [(0, .ref (a 0)), (1, .int y1), (3, .int y3), (4, .int y4)] [.int u1, .ref (a 0)] := by
    intro y1 y3 y4 u1 Z hX
    unfold sX8_command_B60 at hX
    obtain ⟨q_22, hq_22, hX⟩ := bnd_some hX
    refine xv_callVi0 (As := [.int u1]) (pc := 60) hC (kX8_number hl hq_22) fV_X8_number wf_2037 (rc_X8 (rfl : shR 0 = 1)) rfl ⟨Nat.le_of_ble_eq_true rfl, Nat.le_of_ble_eq_true rfl⟩ rfl (Nat.le_of_ble_eq_true rfl) dX8_command_60 ⟨Nat.le_of_ble_eq_true rfl, Nat.le_of_ble_eq_true rfl⟩ ?_
    obtain ⟨y_23, hy_23, hX⟩ := nm_some hX
    refine xv_nmi hy_23 ?_
    refine xv_istore_n (pc := 63) (lv' := [(2, .int y_23), (0, .ref (a 0)), (1, .int y1), (3, .int y3), (4, .int y4)]) hC dX8_command_63 rfl (by decide) rfl ?_
    refine xv_sub (lv' := [(0, .ref (a 0)), (1, .int y1), (2, .int y_23), (3, .int y3), (4, .int y4)]) [1, 2, 0, 3, 4] rfl ?_
    exact v64 y1 y_23 y3 y4 q_22.2 hX
  have v36 : ∀ (y1 : Int32) (y2 : Int32) (y3 : Int32) (y4 : Int32) (u0 : Int32) (Z : ZZ), sX8_command_B36 y1 y2 y3 y4 u0 Z = some Z' → xv p l e rmX8_command s m args below meth c D A 6 Q (cwR dA a Z) 0 0 36 [(0, .ref (a 0)), (1, .int y1), (2, .int y2), (3, .int y3), (4, .int y4)] [.int u0] := by
    intro y1 y2 y3 y4 u0 Z hX
    unfold sX8_command_B36 at hX
    refine xv_istore (pc := 36) (lv' := [(5, .int u0), (0, .ref (a 0)), (1, .int y1), (2, .int y2), (3, .int y3), (4, .int y4)]) hC dX8_command_36 (by decide) rfl ?_
    refine xv_iload (pc := 38) hC dX8_command_38 0 rfl ?_
    refine xv_if_eq (tgt := 64) (pc := 40) hC dX8_command_40 (by decide) (fun c_24 => ?_) (fun c_24 => ?_)
    · replace hX := if_t c_24 hX
      refine xv_sub (lv' := [(0, .ref (a 0)), (1, .int y1), (2, .int y2), (3, .int y3), (4, .int y4)]) [1, 2, 3, 4, 5] rfl ?_
      exact v64 y1 y2 y3 y4 Z hX
    · replace hX := if_f c_24 hX
      refine xv_aload_n (pc := 43) hC dX8_command_43 1 rfl rfl ?_
      refine xv_bipush (v := 32) (pc := 44) hC dX8_command_44 (by decide) ?_
      obtain ⟨q_25, hq_25, hX⟩ := bnd_some hX
      refine xv_callVv0 (As := [.int 32]) (pc := 46) hC (kX8_expect hl hq_25) fV_X8_expect wf_2033 (rc_X8 (rfl : shR 0 = 1)) rfl ⟨Nat.le_of_ble_eq_true rfl, Nat.le_of_ble_eq_true rfl⟩ rfl (Nat.le_of_ble_eq_true rfl) dX8_command_46 ⟨Nat.le_of_ble_eq_true rfl, Nat.le_of_ble_eq_true rfl⟩ ?_
      refine xv_aload_n (pc := 49) hC dX8_command_49 1 rfl rfl ?_
      refine xv_iload_n (pc := 50) hC dX8_command_50 2 rfl rfl ?_
      refine xv_iconst (v := 4) (pc := 51) hC dX8_command_51 (by decide) ?_
      refine xv_icmp_le (tgt := 59) (pc := 52) hC dX8_command_52 (by decide) (fun c_26 => ?_) (fun c_26 => ?_)
      · replace hX := if_t c_26 hX
        refine xv_iconst (v := 1) (pc := 59) hC dX8_command_59 (by decide) ?_
        refine xv_sub (lv' := [(0, .ref (a 0)), (1, .int y1), (3, .int y3), (4, .int y4)]) [1, 2, 4, 5] rfl ?_
        exact v60 y1 y3 y4 1 q_25 hX
      · replace hX := if_f c_26 hX
        refine xv_iconst (v := 2) (pc := 55) hC dX8_command_55 (by decide) ?_
        refine xv_goto (tgt := 60) (pc := 56) hC dX8_command_56 (by decide) ?_
        refine xv_sub (lv' := [(0, .ref (a 0)), (1, .int y1), (3, .int y3), (4, .int y4)]) [1, 2, 4, 5] rfl ?_
        exact v60 y1 y3 y4 2 q_25 hX
  have v35 : ∀ (y1 : Int32) (y2 : Int32) (y3 : Int32) (y4 : Int32) (Z : ZZ), sX8_command_B35 y1 y2 y3 y4 Z = some Z' → xv p l e rmX8_command s m args below meth c D A 6 Q (cwR dA a Z) 0 0 35 [(0, .ref (a 0)), (1, .int y1), (2, .int y2), (3, .int y3), (4, .int y4)] [] := by
    intro y1 y2 y3 y4 Z hX
    unfold sX8_command_B35 at hX
    refine xv_iconst (v := 0) (pc := 35) hC dX8_command_35 (by decide) ?_
    exact v36 y1 y2 y3 y4 0 Z hX
  have v31 : ∀ (y1 : Int32) (y2 : Int32) (y3 : Int32) (y4 : Int32) (Z : ZZ), sX8_command_B31 y1 y2 y3 y4 Z = some Z' → xv p l e rmX8_command s m args below meth c D A 6 Q (cwR dA a Z) 0 0 31 [(0, .ref (a 0)), (1, .int y1), (2, .int y2), (3, .int y3), (4, .int y4)] [] := by
    intro y1 y2 y3 y4 Z hX
    unfold sX8_command_B31 at hX
    refine xv_iconst (v := 1) (pc := 31) hC dX8_command_31 (by decide) ?_
    refine xv_goto (tgt := 36) (pc := 32) hC dX8_command_32 (by decide) ?_
    exact v36 y1 y2 y3 y4 1 Z hX
  show xv p l e rmX8_command s m args below meth c D A 6 Q (cwR dA a Z) 0 0 0 [(0, .ref (a 0))] []
  refine xv_aload_n (pc := 0) hC dX8_command_0 0 rfl rfl ?_
  obtain ⟨q_27, hq_27, hX⟩ := bnd_some hX
  refine xv_callVi0 (As := []) (pc := 1) hC (kX8_word hl hq_27) fV_X8_word wf_2019 (rc_X8 (rfl : shR 0 = 1)) rfl ⟨Nat.le_of_ble_eq_true rfl, Nat.le_of_ble_eq_true rfl⟩ rfl (Nat.le_of_ble_eq_true rfl) dX8_command_1 ⟨Nat.le_of_ble_eq_true rfl, Nat.le_of_ble_eq_true rfl⟩ ?_
  obtain ⟨y_28, hy_28, hX⟩ := nm_some hX
  refine xv_nmi hy_28 ?_
  refine xv_istore_n (pc := 4) (lv' := [(1, .int y_28), (0, .ref (a 0))]) hC dX8_command_4 rfl (by decide) rfl ?_
  refine xv_iconst (v := 1) (pc := 5) hC dX8_command_5 (by decide) ?_
  refine xv_istore_n (pc := 6) (lv' := [(2, .int 1), (1, .int y_28), (0, .ref (a 0))]) hC dX8_command_6 rfl (by decide) rfl ?_
  refine xv_iconst (v := 0) (pc := 7) hC dX8_command_7 (by decide) ?_
  refine xv_istore_n (pc := 8) (lv' := [(3, .int 0), (2, .int 1), (1, .int y_28), (0, .ref (a 0))]) hC dX8_command_8 rfl (by decide) rfl ?_
  refine xv_iconst (v := 0) (pc := 9) hC dX8_command_9 (by decide) ?_
  refine xv_istore (pc := 10) (lv' := [(4, .int 0), (3, .int 0), (2, .int 1), (1, .int y_28), (0, .ref (a 0))]) hC dX8_command_10 (by decide) rfl ?_
  refine xv_iload_n (pc := 12) hC dX8_command_12 3 rfl rfl ?_
  refine xv_if_le (tgt := 35) (pc := 13) hC dX8_command_13 (by decide) (fun c_29 => ?_) (fun c_29 => ?_)
  · replace hX := if_t c_29 hX
    refine xv_sub (lv' := [(0, .ref (a 0)), (1, .int y_28), (2, .int 1), (3, .int 0), (4, .int 0)]) [4, 3, 2, 1, 0] rfl ?_
    exact v35 y_28 1 0 0 q_27.2 hX
  · replace hX := if_f c_29 hX
    refine xv_iload_n (pc := 16) hC dX8_command_16 3 rfl rfl ?_
    refine xv_bipush (v := 7) (pc := 17) hC dX8_command_17 (by decide) ?_
    refine xv_icmp_lt (tgt := 31) (pc := 19) hC dX8_command_19 (by decide) (fun c_30 => ?_) (fun c_30 => ?_)
    · replace hX := if_t c_30 hX
      refine xv_sub (lv' := [(0, .ref (a 0)), (1, .int y_28), (2, .int 1), (3, .int 0), (4, .int 0)]) [4, 3, 2, 1, 0] rfl ?_
      exact v31 y_28 1 0 0 q_27.2 hX
    · replace hX := if_f c_30 hX
      refine xv_aload_n (pc := 22) hC dX8_command_22 4 rfl rfl ?_
      obtain ⟨q_31, hq_31, hX⟩ := bnd_some hX
      refine xv_callVi0 (As := []) (pc := 23) hC (kX8_mark hl hq_31) fV_X8_mark wf_2029 (rc_X8 (rfl : shR 0 = 1)) rfl ⟨Nat.le_of_ble_eq_true rfl, Nat.le_of_ble_eq_true rfl⟩ rfl (Nat.le_of_ble_eq_true rfl) dX8_command_23 ⟨Nat.le_of_ble_eq_true rfl, Nat.le_of_ble_eq_true rfl⟩ ?_
      refine xv_bipush (v := 32) (pc := 26) hC dX8_command_26 (by decide) ?_
      refine xv_icmp_ne (tgt := 35) (pc := 28) hC dX8_command_28 (by decide) (fun c_32 => ?_) (fun c_32 => ?_)
      · replace hX := if_f c_32 hX
        refine xv_sub (lv' := [(0, .ref (a 0)), (1, .int y_28), (2, .int 1), (3, .int 0), (4, .int 0)]) [4, 3, 2, 1, 0] rfl ?_
        exact v35 y_28 1 0 0 q_31.2 hX
      · replace hX := if_t c_32 hX
        refine xv_sub (lv' := [(0, .ref (a 0)), (1, .int y_28), (2, .int 1), (3, .int 0), (4, .int 0)]) [4, 3, 2, 1, 0] rfl ?_
        exact v31 y_28 1 0 0 q_31.2 hX
def sX8_parse_B58 (Z : ZZ) : Option (ZZ) :=
  if (gI Z 0 21) ≤ (gI Z 0 22) then (
    gd (bq ((gI Z 0 24) ||| 0) = true) <|
    nm (pI Z 0 24 ((gI Z 0 24) ||| 0)) <| fun Z_2 =>
    some Z_2) else (
    gd (bq ((gI Z 0 24) ||| 1) = true) <|
    nm (pI Z 0 24 ((gI Z 0 24) ||| 1)) <| fun Z_4 =>
    some Z_4)
def sX8_parse_L32 : Nat → ZZ → Option (ZZ)
  | 0, _ => none
  | n + 1, Z =>
  bnd (sX8_mark Z) <| fun q_6 =>
  if q_6.1 = 59 then (
    nm (pI q_6.2 0 22 ((gI q_6.2 0 22) + 1)) <| fun Z_8 =>
    bnd (sX8_command Z_8) <| fun q_9 =>
    sX8_parse_L32 n q_9) else (
    sX8_parse_B58 q_6.2)
def sX8_parse (Z : ZZ) : Option (ZZ) :=
  nm (pI Z 0 21 (gI Z 0 20)) <| fun Z_10 =>
  nm (pI Z_10 0 20 0) <| fun Z_11 =>
  nm (pI Z_11 0 22 0) <| fun Z_12 =>
  nm (pI Z_12 0 23 0) <| fun Z_13 =>
  nm (pI Z_13 0 24 0) <| fun Z_14 =>
  bnd (sX8_command Z_14) <| fun q_15 =>
  sX8_parse_L32 3000 q_15
abbrev rmX8_parse : Room := { frames := 4, cells := 0, slots := 0, locals := 95 }
set_option maxHeartbeats 4000000 in
set_option maxRecDepth 100000 in
theorem kX8_parse {l : Launch} {D : va_G} {dA : Nat → ClassId} {sa : String → Nat → Nat} {a : Nat → Nat} (hl : l.stackTraces = false) {Z Z' : ZZ} (hX : sX8_parse Z = some Z') : CTv l D dA sa yX8_parse (wz yX8_parse cX8_parse 1 none) rmX8_parse [.ref (a 0)] (cwR dA a Z) (cwR dA a Z') := by
  refine xm_v hl (by decide +kernel) (Nat.le_of_ble_eq_true rfl) rfl ?_
  intro p e s m args below meth c A Q hC hR
  unfold sX8_parse at hX
  have v58 : ∀ (Z : ZZ), sX8_parse_B58 Z = some Z' → xv p l e rmX8_parse s m args below meth c D A 1 Q (cwR dA a Z) 0 0 58 [(0, .ref (a 0))] [] := by
    intro Z hX
    unfold sX8_parse_B58 at hX
    refine xv_aload_n (pc := 58) hC dX8_parse_58 0 rfl rfl ?_
    refine xv_dup (pc := 59) hC dX8_parse_59 rfl ?_
    refine xgX8 (v := .int (gI Z 0 24)) (pc := 60) hC dX8_parse_60 (rfl : shR 0 = 1) 24 (by decide) wf_1577 rfl ?_
    refine xv_aload_n (pc := 63) hC dX8_parse_63 0 rfl rfl ?_
    refine xgX8 (v := .int (gI Z 0 22)) (pc := 64) hC dX8_parse_64 (rfl : shR 0 = 1) 22 (by decide) wf_1575 rfl ?_
    refine xv_aload_n (pc := 67) hC dX8_parse_67 0 rfl rfl ?_
    refine xgX8 (v := .int (gI Z 0 21)) (pc := 68) hC dX8_parse_68 (rfl : shR 0 = 1) 21 (by decide) wf_1574 rfl ?_
    refine xv_icmp_ge (tgt := 78) (pc := 71) hC dX8_parse_71 (by decide) (fun c_1 => ?_) (fun c_1 => ?_)
    · replace hX := if_t c_1 hX
      refine xv_iconst (v := 0) (pc := 78) hC dX8_parse_78 (by decide) ?_
      refine xv_ior (pc := 79) hC dX8_parse_79 ?_
      obtain ⟨h_3, hX⟩ := gd_some hX
      obtain ⟨Z_2, hZ_2, hX⟩ := nm_some hX
      refine xpX8 (ty := .boolean) (pc := 80) hC dX8_parse_80 (rfl : shR 0 = 1) 24 (by decide) wf_1577 rfl (by decide +kernel) (bq_n h_3) (bq_f h_3) rfl hZ_2 ?_
      exact xv_eqw (W := cwR dA a) (Option.some.inj hX) (hR _ _ _ _ (Nat.le_of_ble_eq_true rfl) (Nat.le_of_ble_eq_true rfl) dX8_parse_83)
    · replace hX := if_f c_1 hX
      refine xv_iconst (v := 1) (pc := 74) hC dX8_parse_74 (by decide) ?_
      refine xv_goto (tgt := 79) (pc := 75) hC dX8_parse_75 (by decide) ?_
      refine xv_ior (pc := 79) hC dX8_parse_79 ?_
      obtain ⟨h_5, hX⟩ := gd_some hX
      obtain ⟨Z_4, hZ_4, hX⟩ := nm_some hX
      refine xpX8 (ty := .boolean) (pc := 80) hC dX8_parse_80 (rfl : shR 0 = 1) 24 (by decide) wf_1577 rfl (by decide +kernel) (bq_n h_5) (bq_f h_5) rfl hZ_4 ?_
      exact xv_eqw (W := cwR dA a) (Option.some.inj hX) (hR _ _ _ _ (Nat.le_of_ble_eq_true rfl) (Nat.le_of_ble_eq_true rfl) dX8_parse_83)
  have v32 : ∀ (n : Nat) (Z : ZZ), sX8_parse_L32 n Z = some Z' → xv p l e rmX8_parse s m args below meth c D A 1 Q (cwR dA a Z) 0 0 32 [(0, .ref (a 0))] [] := by
    intro n
    induction n with
    | zero =>
      intro Z hX
      exact absurd hX (by simp [sX8_parse_L32])
    | succ n ih =>
      intro Z hX
      rw [sX8_parse_L32] at hX
      refine xv_aload_n (pc := 32) hC dX8_parse_32 0 rfl rfl ?_
      obtain ⟨q_6, hq_6, hX⟩ := bnd_some hX
      refine xv_callVi0 (As := []) (pc := 33) hC (kX8_mark hl hq_6) fV_X8_mark wf_2029 (rc_X8 (rfl : shR 0 = 1)) rfl ⟨Nat.le_of_ble_eq_true rfl, Nat.le_of_ble_eq_true rfl⟩ rfl (Nat.le_of_ble_eq_true rfl) dX8_parse_33 ⟨Nat.le_of_ble_eq_true rfl, Nat.le_of_ble_eq_true rfl⟩ ?_
      refine xv_bipush (v := 59) (pc := 36) hC dX8_parse_36 (by decide) ?_
      refine xv_icmp_ne (tgt := 58) (pc := 38) hC dX8_parse_38 (by decide) (fun c_7 => ?_) (fun c_7 => ?_)
      · replace hX := if_f c_7 hX
        exact v58 q_6.2 hX
      · replace hX := if_t c_7 hX
        refine xv_aload_n (pc := 41) hC dX8_parse_41 0 rfl rfl ?_
        refine xv_dup (pc := 42) hC dX8_parse_42 rfl ?_
        refine xgX8 (v := .int (gI q_6.2 0 22)) (pc := 43) hC dX8_parse_43 (rfl : shR 0 = 1) 22 (by decide) wf_1575 rfl ?_
        refine xv_iconst (v := 1) (pc := 46) hC dX8_parse_46 (by decide) ?_
        refine xv_iadd (pc := 47) hC dX8_parse_47 ?_
        obtain ⟨Z_8, hZ_8, hX⟩ := nm_some hX
        refine xpX8 (ty := .int) (pc := 48) hC dX8_parse_48 (rfl : shR 0 = 1) 22 (by decide) wf_1575 rfl (by decide +kernel) rfl rfl rfl hZ_8 ?_
        refine xv_aload_n (pc := 51) hC dX8_parse_51 0 rfl rfl ?_
        obtain ⟨q_9, hq_9, hX⟩ := bnd_some hX
        refine xv_callVv0 (As := []) (pc := 52) hC (kX8_command hl hq_9) fV_X8_command wf_2015 (rc_X8 (rfl : shR 0 = 1)) rfl ⟨Nat.le_of_ble_eq_true rfl, Nat.le_of_ble_eq_true rfl⟩ rfl (Nat.le_of_ble_eq_true rfl) dX8_parse_52 ⟨Nat.le_of_ble_eq_true rfl, Nat.le_of_ble_eq_true rfl⟩ ?_
        refine xv_goto (tgt := 32) (pc := 55) hC dX8_parse_55 (by decide) ?_
        exact ih q_9 hX
  show xv p l e rmX8_parse s m args below meth c D A 1 Q (cwR dA a Z) 0 0 0 [(0, .ref (a 0))] []
  refine xv_aload_n (pc := 0) hC dX8_parse_0 0 rfl rfl ?_
  refine xv_aload_n (pc := 1) hC dX8_parse_1 0 rfl rfl ?_
  refine xgX8 (v := .int (gI Z 0 20)) (pc := 2) hC dX8_parse_2 (rfl : shR 0 = 1) 20 (by decide) wf_1573 rfl ?_
  obtain ⟨Z_10, hZ_10, hX⟩ := nm_some hX
  refine xpX8 (ty := .int) (pc := 5) hC dX8_parse_5 (rfl : shR 0 = 1) 21 (by decide) wf_1574 rfl (by decide +kernel) rfl rfl rfl hZ_10 ?_
  refine xv_aload_n (pc := 8) hC dX8_parse_8 0 rfl rfl ?_
  refine xv_iconst (v := 0) (pc := 9) hC dX8_parse_9 (by decide) ?_
  obtain ⟨Z_11, hZ_11, hX⟩ := nm_some hX
  refine xpX8 (ty := .int) (pc := 10) hC dX8_parse_10 (rfl : shR 0 = 1) 20 (by decide) wf_1573 rfl (by decide +kernel) rfl rfl rfl hZ_11 ?_
  refine xv_aload_n (pc := 13) hC dX8_parse_13 0 rfl rfl ?_
  refine xv_iconst (v := 0) (pc := 14) hC dX8_parse_14 (by decide) ?_
  obtain ⟨Z_12, hZ_12, hX⟩ := nm_some hX
  refine xpX8 (ty := .int) (pc := 15) hC dX8_parse_15 (rfl : shR 0 = 1) 22 (by decide) wf_1575 rfl (by decide +kernel) rfl rfl rfl hZ_12 ?_
  refine xv_aload_n (pc := 18) hC dX8_parse_18 0 rfl rfl ?_
  refine xv_iconst (v := 0) (pc := 19) hC dX8_parse_19 (by decide) ?_
  obtain ⟨Z_13, hZ_13, hX⟩ := nm_some hX
  refine xpX8 (ty := .int) (pc := 20) hC dX8_parse_20 (rfl : shR 0 = 1) 23 (by decide) wf_1576 rfl (by decide +kernel) rfl rfl rfl hZ_13 ?_
  refine xv_aload_n (pc := 23) hC dX8_parse_23 0 rfl rfl ?_
  refine xv_iconst (v := 0) (pc := 24) hC dX8_parse_24 (by decide) ?_
  obtain ⟨Z_14, hZ_14, hX⟩ := nm_some hX
  refine xpX8 (ty := .boolean) (pc := 25) hC dX8_parse_25 (rfl : shR 0 = 1) 24 (by decide) wf_1577 rfl (by decide +kernel) (by decide) (by decide) rfl hZ_14 ?_
  refine xv_aload_n (pc := 28) hC dX8_parse_28 0 rfl rfl ?_
  obtain ⟨q_15, hq_15, hX⟩ := bnd_some hX
  refine xv_callVv0 (As := []) (pc := 29) hC (kX8_command hl hq_15) fV_X8_command wf_2015 (rc_X8 (rfl : shR 0 = 1)) rfl ⟨Nat.le_of_ble_eq_true rfl, Nat.le_of_ble_eq_true rfl⟩ rfl (Nat.le_of_ble_eq_true rfl) dX8_parse_29 ⟨Nat.le_of_ble_eq_true rfl, Nat.le_of_ble_eq_true rfl⟩ ?_
  exact v32 3000 q_15 hX
def sX8_cannot (x1 : Int32) (Z : ZZ) : Option (Int32 × ZZ) :=
  gd (vin (3 * x1) 96 = true) <|
  nm (gI Z 12 (3 * x1).toNatClampNeg) <| fun y_2 =>
  gd (vin ((3 * x1) + 1) 96 = true) <|
  nm (gI Z 12 ((3 * x1) + 1).toNatClampNeg) <| fun y_4 =>
  gd (vin x1 32 = true) <|
  if (gI Z 11 x1.toNatClampNeg) = 0 then (
    gd (vin 0 180 = true) <|
    if (gI Z 1 (0 : Int32).toNatClampNeg) = 8 then (
      some (1, Z)) else (
      bnd (sX8_addsSwitch Z) <| fun q_9 =>
      nm (q_9.1) <| fun y_10 =>
      some (0, q_9.2))) else if (gI Z 11 x1.toNatClampNeg) = 1 then (
    gd (vin ((3 * x1) + 2) 96 = true) <|
    bnd (sX8_cannotLay y_2 y_4 (gI Z 12 ((3 * x1) + 2).toNatClampNeg) Z) <| fun q_13 =>
    if q_13.1 ≤ 0 then (
      gd (vin ((3 * x1) + 2) 96 = true) <|
      bnd (sX8_lays y_2 y_4 (gI q_13.2 12 ((3 * x1) + 2).toNatClampNeg) q_13.2) <| fun q_16 =>
      nm (q_16.1) <| fun y_17 =>
      some (0, q_16.2)) else (
      some (1, q_13.2))) else if (gI Z 11 x1.toNatClampNeg) = 2 then (
    bnd (sX8_cannotJoin y_2 y_4 Z) <| fun q_19 =>
    if q_19.1 ≤ 0 then (
      bnd (sX8_joins y_2 y_4 q_19.2) <| fun q_21 =>
      nm (q_21.1) <| fun y_22 =>
      some (0, q_21.2)) else (
      some (1, q_19.2))) else if (gI Z 11 x1.toNatClampNeg) = 3 then (
    bnd (sX8_cannotCall y_2 y_4 Z) <| fun q_24 =>
    nm (q_24.1) <| fun y_25 =>
    bnd (sX8_blocks y_2 y_4 y_25 q_24.2) <| fun q_26 =>
    if y_25 ≤ 0 then (
      bnd (sX8_connects y_2 y_4 q_26) <| fun q_28 =>
      nm (q_28.1) <| fun y_29 =>
      some (0, q_28.2)) else (
      some (1, q_26))) else if (gI Z 11 x1.toNatClampNeg) = 4 then (
    bnd (sX8_cannotHang y_2 Z) <| fun q_31 =>
    if q_31.1 ≤ 0 then (
      bnd (sX8_callOf y_2 q_31.2) <| fun q_33 =>
      bnd (sX8_ends q_33.1 q_33.2) <| fun q_34 =>
      nm (q_34.1) <| fun y_35 =>
      some (0, q_34.2)) else (
      some (1, q_31.2))) else if (gI Z 11 x1.toNatClampNeg) = 5 then (
    bnd (sX8_cannotCut y_2 Z) <| fun q_37 =>
    if q_37.1 ≤ 0 then (
      bnd (sX8_cuts y_2 q_37.2) <| fun q_39 =>
      nm (q_39.1) <| fun y_40 =>
      some (0, q_39.2)) else (
      some (1, q_37.2))) else if (gI Z 11 x1.toNatClampNeg) = 6 then (
    bnd (sX8_cannotMend y_2 Z) <| fun q_42 =>
    if q_42.1 ≤ 0 then (
      bnd (sX8_mends y_2 q_42.2) <| fun q_44 =>
      nm (q_44.1) <| fun y_45 =>
      some (0, q_44.2)) else (
      some (1, q_42.2))) else (
    bnd (sX8_in y_2 1 60 Z) <| fun q_46 =>
    if q_46.1 = 0 then (
      some (1, q_46.2)) else (
      bnd (sX8_passes y_2 q_46.2) <| fun q_48 =>
      nm (q_48.1) <| fun y_49 =>
      some (0, q_48.2)))
abbrev rmX8_cannot : Room := { frames := 7, cells := 0, slots := 0, locals := 162 }
set_option maxHeartbeats 4000000 in
set_option maxRecDepth 100000 in
theorem kX8_cannot {l : Launch} {D : va_G} {dA : Nat → ClassId} {sa : String → Nat → Nat} {a : Nat → Nat} (hl : l.stackTraces = false) {x1 : Int32} {Z Z' : ZZ} {v : Int32} (hX : sX8_cannot x1 Z = some (v, Z')) : CTi l D dA sa yX8_cannot (wz yX8_cannot cX8_cannot 6 (some .boolean)) rmX8_cannot [.ref (a 0), .int x1] (cwR dA a Z) v (cwR dA a Z') := by
  refine xm_z hl (by decide +kernel) (Nat.le_of_ble_eq_true rfl) rfl ?_
  intro p e s m args below meth c A Q hC hR
  unfold sX8_cannot at hX
  show xv p l e rmX8_cannot s m args below meth c D A 6 Q (cwR dA a Z) 0 0 0 [(0, .ref (a 0)), (1, .int x1)] []
  refine xv_aload_n (pc := 0) hC dX8_cannot_0 0 rfl rfl ?_
  refine xgX8 (v := .ref (a 12)) (pc := 1) hC dX8_cannot_1 (rfl : shR 0 = 1) 19 (by decide) wf_1572 rfl ?_
  refine xv_iconst (v := 3) (pc := 4) hC dX8_cannot_4 (by decide) ?_
  refine xv_iload_n (pc := 5) hC dX8_cannot_5 1 rfl rfl ?_
  refine xv_imul (pc := 6) hC dX8_cannot_6 ?_
  obtain ⟨h_1, hX⟩ := gd_some hX
  refine xl_R9 (pc := 7) hC dX8_cannot_7 (rfl : shR 12 = 9) h_1 ?_
  obtain ⟨y_2, hy_2, hX⟩ := nm_some hX
  refine xv_nmi hy_2 ?_
  refine xv_istore_n (pc := 8) (lv' := [(2, .int y_2), (0, .ref (a 0)), (1, .int x1)]) hC dX8_cannot_8 rfl (by decide) rfl ?_
  refine xv_aload_n (pc := 9) hC dX8_cannot_9 1 rfl rfl ?_
  refine xgX8 (v := .ref (a 12)) (pc := 10) hC dX8_cannot_10 (rfl : shR 0 = 1) 19 (by decide) wf_1572 rfl ?_
  refine xv_iconst (v := 3) (pc := 13) hC dX8_cannot_13 (by decide) ?_
  refine xv_iload_n (pc := 14) hC dX8_cannot_14 2 rfl rfl ?_
  refine xv_imul (pc := 15) hC dX8_cannot_15 ?_
  refine xv_iconst (v := 1) (pc := 16) hC dX8_cannot_16 (by decide) ?_
  refine xv_iadd (pc := 17) hC dX8_cannot_17 ?_
  obtain ⟨h_3, hX⟩ := gd_some hX
  refine xl_R9 (pc := 18) hC dX8_cannot_18 (rfl : shR 12 = 9) h_3 ?_
  obtain ⟨y_4, hy_4, hX⟩ := nm_some hX
  refine xv_nmi hy_4 ?_
  refine xv_istore_n (pc := 19) (lv' := [(3, .int y_4), (2, .int y_2), (0, .ref (a 0)), (1, .int x1)]) hC dX8_cannot_19 rfl (by decide) rfl ?_
  refine xv_iconst (v := 0) (pc := 20) hC dX8_cannot_20 (by decide) ?_
  refine xv_istore (pc := 21) (lv' := [(4, .int 0), (3, .int y_4), (2, .int y_2), (0, .ref (a 0)), (1, .int x1)]) hC dX8_cannot_21 (by decide) rfl ?_
  refine xv_iconst (v := 0) (pc := 23) hC dX8_cannot_23 (by decide) ?_
  refine xv_istore (pc := 24) (lv' := [(5, .int 0), (4, .int 0), (3, .int y_4), (2, .int y_2), (0, .ref (a 0)), (1, .int x1)]) hC dX8_cannot_24 (by decide) rfl ?_
  refine xv_aload_n (pc := 26) hC dX8_cannot_26 4 rfl rfl ?_
  refine xgX8 (v := .ref (a 11)) (pc := 27) hC dX8_cannot_27 (rfl : shR 0 = 1) 18 (by decide) wf_1571 rfl ?_
  refine xv_iload_n (pc := 30) hC dX8_cannot_30 5 rfl rfl ?_
  obtain ⟨h_5, hX⟩ := gd_some hX
  refine xl_R8 (pc := 31) hC dX8_cannot_31 (rfl : shR 11 = 8) h_5 ?_
  by_cases c_6 : (gI Z 11 x1.toNatClampNeg) = 0
  · replace hX := if_t c_6 hX
    refine xv_tabIn (tgt := 76) (pc := 32) hC dX8_cannot_32 0 c_6 (by decide) (by decide) rfl (by decide) ?_
    refine xv_aload_n (pc := 76) hC dX8_cannot_76 4 rfl rfl ?_
    refine xgX8 (v := .ref (a 1)) (pc := 77) hC dX8_cannot_77 (rfl : shR 0 = 1) 0 (by decide) wf_1553 rfl ?_
    refine xv_iconst (v := 0) (pc := 80) hC dX8_cannot_80 (by decide) ?_
    obtain ⟨h_7, hX⟩ := gd_some hX
    refine xl_R2 (pc := 81) hC dX8_cannot_81 (rfl : shR 1 = 2) h_7 ?_
    refine xv_bipush (v := 8) (pc := 82) hC dX8_cannot_82 (by decide) ?_
    refine xv_icmp_ne (tgt := 89) (pc := 84) hC dX8_cannot_84 (by decide) (fun c_8 => ?_) (fun c_8 => ?_)
    · replace hX := if_f c_8 hX
      refine xv_aload_n (pc := 89) hC dX8_cannot_89 4 rfl rfl ?_
      obtain ⟨q_9, hq_9, hX⟩ := bnd_some hX
      refine xv_callVi0 (As := []) (pc := 90) hC (kX8_addsSwitch hl hq_9) fV_X8_addsSwitch wf_1648 (rc_X8 (rfl : shR 0 = 1)) rfl ⟨Nat.le_of_ble_eq_true rfl, Nat.le_of_ble_eq_true rfl⟩ rfl (Nat.le_of_ble_eq_true rfl) dX8_cannot_90 ⟨Nat.le_of_ble_eq_true rfl, Nat.le_of_ble_eq_true rfl⟩ ?_
      obtain ⟨y_10, hy_10, hX⟩ := nm_some hX
      refine xv_nmi hy_10 ?_
      refine xv_istore (pc := 93) (lv' := [(5, .int y_10), (4, .int 0), (3, .int y_4), (2, .int y_2), (0, .ref (a 0)), (1, .int x1)]) hC dX8_cannot_93 (by decide) rfl ?_
      refine xv_iconst (v := 0) (pc := 95) hC dX8_cannot_95 (by decide) ?_
      obtain ⟨h1, h2⟩ := some_pair hX
      exact xv_eqi (W := cwR dA a) h1 h2 (hR _ _ _ _ (by rw [← h1]; exact (by decide)) (Nat.le_of_ble_eq_true rfl) (Nat.le_of_ble_eq_true rfl) dX8_cannot_96)
    · replace hX := if_t c_8 hX
      refine xv_iconst (v := 1) (pc := 87) hC dX8_cannot_87 (by decide) ?_
      obtain ⟨h1, h2⟩ := some_pair hX
      exact xv_eqi (W := cwR dA a) h1 h2 (hR _ _ _ _ (by rw [← h1]; exact (by decide)) (Nat.le_of_ble_eq_true rfl) (Nat.le_of_ble_eq_true rfl) dX8_cannot_88)
  replace hX := if_f c_6 hX
  by_cases c_11 : (gI Z 11 x1.toNatClampNeg) = 1
  · replace hX := if_t c_11 hX
    refine xv_tabIn (tgt := 97) (pc := 32) hC dX8_cannot_32 1 c_11 (by decide) (by decide) rfl (by decide) ?_
    refine xv_aload_n (pc := 97) hC dX8_cannot_97 4 rfl rfl ?_
    refine xv_iload_n (pc := 98) hC dX8_cannot_98 3 rfl rfl ?_
    refine xv_iload_n (pc := 99) hC dX8_cannot_99 2 rfl rfl ?_
    refine xv_aload_n (pc := 100) hC dX8_cannot_100 4 rfl rfl ?_
    refine xgX8 (v := .ref (a 12)) (pc := 101) hC dX8_cannot_101 (rfl : shR 0 = 1) 19 (by decide) wf_1572 rfl ?_
    refine xv_iconst (v := 3) (pc := 104) hC dX8_cannot_104 (by decide) ?_
    refine xv_iload_n (pc := 105) hC dX8_cannot_105 5 rfl rfl ?_
    refine xv_imul (pc := 106) hC dX8_cannot_106 ?_
    refine xv_iconst (v := 2) (pc := 107) hC dX8_cannot_107 (by decide) ?_
    refine xv_iadd (pc := 108) hC dX8_cannot_108 ?_
    obtain ⟨h_12, hX⟩ := gd_some hX
    refine xl_R9 (pc := 109) hC dX8_cannot_109 (rfl : shR 12 = 9) h_12 ?_
    obtain ⟨q_13, hq_13, hX⟩ := bnd_some hX
    refine xv_callVi0 (As := [.int y_2, .int y_4, .int (gI Z 12 ((3 * x1) + 2).toNatClampNeg)]) (pc := 110) hC (kX8_cannotLay hl hq_13) fV_X8_cannotLay wf_1660 (rc_X8 (rfl : shR 0 = 1)) rfl ⟨Nat.le_of_ble_eq_true rfl, Nat.le_of_ble_eq_true rfl⟩ rfl (Nat.le_of_ble_eq_true rfl) dX8_cannot_110 ⟨Nat.le_of_ble_eq_true rfl, Nat.le_of_ble_eq_true rfl⟩ ?_
    refine xv_if_le (tgt := 118) (pc := 113) hC dX8_cannot_113 (by decide) (fun c_14 => ?_) (fun c_14 => ?_)
    · replace hX := if_t c_14 hX
      refine xv_aload_n (pc := 118) hC dX8_cannot_118 4 rfl rfl ?_
      refine xv_iload_n (pc := 119) hC dX8_cannot_119 3 rfl rfl ?_
      refine xv_iload_n (pc := 120) hC dX8_cannot_120 2 rfl rfl ?_
      refine xv_aload_n (pc := 121) hC dX8_cannot_121 4 rfl rfl ?_
      refine xgX8 (v := .ref (a 12)) (pc := 122) hC dX8_cannot_122 (rfl : shR 0 = 1) 19 (by decide) wf_1572 rfl ?_
      refine xv_iconst (v := 3) (pc := 125) hC dX8_cannot_125 (by decide) ?_
      refine xv_iload_n (pc := 126) hC dX8_cannot_126 5 rfl rfl ?_
      refine xv_imul (pc := 127) hC dX8_cannot_127 ?_
      refine xv_iconst (v := 2) (pc := 128) hC dX8_cannot_128 (by decide) ?_
      refine xv_iadd (pc := 129) hC dX8_cannot_129 ?_
      obtain ⟨h_15, hX⟩ := gd_some hX
      refine xl_R9 (pc := 130) hC dX8_cannot_130 (rfl : shR 12 = 9) h_15 ?_
      obtain ⟨q_16, hq_16, hX⟩ := bnd_some hX
      refine xv_callVi0 (As := [.int y_2, .int y_4, .int (gI q_13.2 12 ((3 * x1) + 2).toNatClampNeg)]) (pc := 131) hC (kX8_lays hl hq_16) fV_X8_lays wf_1671 (rc_X8 (rfl : shR 0 = 1)) rfl ⟨Nat.le_of_ble_eq_true rfl, Nat.le_of_ble_eq_true rfl⟩ rfl (Nat.le_of_ble_eq_true rfl) dX8_cannot_131 ⟨Nat.le_of_ble_eq_true rfl, Nat.le_of_ble_eq_true rfl⟩ ?_
      obtain ⟨y_17, hy_17, hX⟩ := nm_some hX
      refine xv_nmi hy_17 ?_
      refine xv_istore (pc := 134) (lv' := [(5, .int y_17), (4, .int 0), (3, .int y_4), (2, .int y_2), (0, .ref (a 0)), (1, .int x1)]) hC dX8_cannot_134 (by decide) rfl ?_
      refine xv_iconst (v := 0) (pc := 136) hC dX8_cannot_136 (by decide) ?_
      obtain ⟨h1, h2⟩ := some_pair hX
      exact xv_eqi (W := cwR dA a) h1 h2 (hR _ _ _ _ (by rw [← h1]; exact (by decide)) (Nat.le_of_ble_eq_true rfl) (Nat.le_of_ble_eq_true rfl) dX8_cannot_137)
    · replace hX := if_f c_14 hX
      refine xv_iconst (v := 1) (pc := 116) hC dX8_cannot_116 (by decide) ?_
      obtain ⟨h1, h2⟩ := some_pair hX
      exact xv_eqi (W := cwR dA a) h1 h2 (hR _ _ _ _ (by rw [← h1]; exact (by decide)) (Nat.le_of_ble_eq_true rfl) (Nat.le_of_ble_eq_true rfl) dX8_cannot_117)
  replace hX := if_f c_11 hX
  by_cases c_18 : (gI Z 11 x1.toNatClampNeg) = 2
  · replace hX := if_t c_18 hX
    refine xv_tabIn (tgt := 138) (pc := 32) hC dX8_cannot_32 2 c_18 (by decide) (by decide) rfl (by decide) ?_
    refine xv_aload_n (pc := 138) hC dX8_cannot_138 4 rfl rfl ?_
    refine xv_iload_n (pc := 139) hC dX8_cannot_139 3 rfl rfl ?_
    refine xv_iload_n (pc := 140) hC dX8_cannot_140 2 rfl rfl ?_
    obtain ⟨q_19, hq_19, hX⟩ := bnd_some hX
    refine xv_callVi0 (As := [.int y_2, .int y_4]) (pc := 141) hC (kX8_cannotJoin hl hq_19) fV_X8_cannotJoin wf_1683 (rc_X8 (rfl : shR 0 = 1)) rfl ⟨Nat.le_of_ble_eq_true rfl, Nat.le_of_ble_eq_true rfl⟩ rfl (Nat.le_of_ble_eq_true rfl) dX8_cannot_141 ⟨Nat.le_of_ble_eq_true rfl, Nat.le_of_ble_eq_true rfl⟩ ?_
    refine xv_if_le (tgt := 149) (pc := 144) hC dX8_cannot_144 (by decide) (fun c_20 => ?_) (fun c_20 => ?_)
    · replace hX := if_t c_20 hX
      refine xv_aload_n (pc := 149) hC dX8_cannot_149 4 rfl rfl ?_
      refine xv_iload_n (pc := 150) hC dX8_cannot_150 3 rfl rfl ?_
      refine xv_iload_n (pc := 151) hC dX8_cannot_151 2 rfl rfl ?_
      obtain ⟨q_21, hq_21, hX⟩ := bnd_some hX
      refine xv_callVi0 (As := [.int y_2, .int y_4]) (pc := 152) hC (kX8_joins hl hq_21) fV_X8_joins wf_1687 (rc_X8 (rfl : shR 0 = 1)) rfl ⟨Nat.le_of_ble_eq_true rfl, Nat.le_of_ble_eq_true rfl⟩ rfl (Nat.le_of_ble_eq_true rfl) dX8_cannot_152 ⟨Nat.le_of_ble_eq_true rfl, Nat.le_of_ble_eq_true rfl⟩ ?_
      obtain ⟨y_22, hy_22, hX⟩ := nm_some hX
      refine xv_nmi hy_22 ?_
      refine xv_istore (pc := 155) (lv' := [(5, .int y_22), (4, .int 0), (3, .int y_4), (2, .int y_2), (0, .ref (a 0)), (1, .int x1)]) hC dX8_cannot_155 (by decide) rfl ?_
      refine xv_iconst (v := 0) (pc := 157) hC dX8_cannot_157 (by decide) ?_
      obtain ⟨h1, h2⟩ := some_pair hX
      exact xv_eqi (W := cwR dA a) h1 h2 (hR _ _ _ _ (by rw [← h1]; exact (by decide)) (Nat.le_of_ble_eq_true rfl) (Nat.le_of_ble_eq_true rfl) dX8_cannot_158)
    · replace hX := if_f c_20 hX
      refine xv_iconst (v := 1) (pc := 147) hC dX8_cannot_147 (by decide) ?_
      obtain ⟨h1, h2⟩ := some_pair hX
      exact xv_eqi (W := cwR dA a) h1 h2 (hR _ _ _ _ (by rw [← h1]; exact (by decide)) (Nat.le_of_ble_eq_true rfl) (Nat.le_of_ble_eq_true rfl) dX8_cannot_148)
  replace hX := if_f c_18 hX
  by_cases c_23 : (gI Z 11 x1.toNatClampNeg) = 3
  · replace hX := if_t c_23 hX
    refine xv_tabIn (tgt := 159) (pc := 32) hC dX8_cannot_32 3 c_23 (by decide) (by decide) rfl (by decide) ?_
    refine xv_aload_n (pc := 159) hC dX8_cannot_159 4 rfl rfl ?_
    refine xv_iload_n (pc := 160) hC dX8_cannot_160 3 rfl rfl ?_
    refine xv_iload_n (pc := 161) hC dX8_cannot_161 2 rfl rfl ?_
    obtain ⟨q_24, hq_24, hX⟩ := bnd_some hX
    refine xv_callVi0 (As := [.int y_2, .int y_4]) (pc := 162) hC (kX8_cannotCall hl hq_24) fV_X8_cannotCall wf_1787 (rc_X8 (rfl : shR 0 = 1)) rfl ⟨Nat.le_of_ble_eq_true rfl, Nat.le_of_ble_eq_true rfl⟩ rfl (Nat.le_of_ble_eq_true rfl) dX8_cannot_162 ⟨Nat.le_of_ble_eq_true rfl, Nat.le_of_ble_eq_true rfl⟩ ?_
    obtain ⟨y_25, hy_25, hX⟩ := nm_some hX
    refine xv_nmi hy_25 ?_
    refine xv_istore (pc := 165) (lv' := [(4, .int y_25), (5, .int 0), (3, .int y_4), (2, .int y_2), (0, .ref (a 0)), (1, .int x1)]) hC dX8_cannot_165 (by decide) rfl ?_
    refine xv_aload_n (pc := 167) hC dX8_cannot_167 4 rfl rfl ?_
    refine xv_iload_n (pc := 168) hC dX8_cannot_168 3 rfl rfl ?_
    refine xv_iload_n (pc := 169) hC dX8_cannot_169 2 rfl rfl ?_
    refine xv_iload (pc := 170) hC dX8_cannot_170 0 rfl ?_
    obtain ⟨q_26, hq_26, hX⟩ := bnd_some hX
    refine xv_callVv0 (As := [.int y_2, .int y_4, .int y_25]) (pc := 172) hC (kX8_blocks hl hq_26) fV_X8_blocks wf_1799 (rc_X8 (rfl : shR 0 = 1)) rfl ⟨Nat.le_of_ble_eq_true rfl, Nat.le_of_ble_eq_true rfl⟩ rfl (Nat.le_of_ble_eq_true rfl) dX8_cannot_172 ⟨Nat.le_of_ble_eq_true rfl, Nat.le_of_ble_eq_true rfl⟩ ?_
    refine xv_iload (pc := 175) hC dX8_cannot_175 0 rfl ?_
    refine xv_if_le (tgt := 182) (pc := 177) hC dX8_cannot_177 (by decide) (fun c_27 => ?_) (fun c_27 => ?_)
    · replace hX := if_t c_27 hX
      refine xv_aload_n (pc := 182) hC dX8_cannot_182 4 rfl rfl ?_
      refine xv_iload_n (pc := 183) hC dX8_cannot_183 3 rfl rfl ?_
      refine xv_iload_n (pc := 184) hC dX8_cannot_184 2 rfl rfl ?_
      obtain ⟨q_28, hq_28, hX⟩ := bnd_some hX
      refine xv_callVi0 (As := [.int y_2, .int y_4]) (pc := 185) hC (kX8_connects hl hq_28) fV_X8_connects wf_1803 (rc_X8 (rfl : shR 0 = 1)) rfl ⟨Nat.le_of_ble_eq_true rfl, Nat.le_of_ble_eq_true rfl⟩ rfl (Nat.le_of_ble_eq_true rfl) dX8_cannot_185 ⟨Nat.le_of_ble_eq_true rfl, Nat.le_of_ble_eq_true rfl⟩ ?_
      obtain ⟨y_29, hy_29, hX⟩ := nm_some hX
      refine xv_nmi hy_29 ?_
      refine xv_istore (pc := 188) (lv' := [(5, .int y_29), (4, .int y_25), (3, .int y_4), (2, .int y_2), (0, .ref (a 0)), (1, .int x1)]) hC dX8_cannot_188 (by decide) rfl ?_
      refine xv_iconst (v := 0) (pc := 190) hC dX8_cannot_190 (by decide) ?_
      obtain ⟨h1, h2⟩ := some_pair hX
      exact xv_eqi (W := cwR dA a) h1 h2 (hR _ _ _ _ (by rw [← h1]; exact (by decide)) (Nat.le_of_ble_eq_true rfl) (Nat.le_of_ble_eq_true rfl) dX8_cannot_191)
    · replace hX := if_f c_27 hX
      refine xv_iconst (v := 1) (pc := 180) hC dX8_cannot_180 (by decide) ?_
      obtain ⟨h1, h2⟩ := some_pair hX
      exact xv_eqi (W := cwR dA a) h1 h2 (hR _ _ _ _ (by rw [← h1]; exact (by decide)) (Nat.le_of_ble_eq_true rfl) (Nat.le_of_ble_eq_true rfl) dX8_cannot_181)
  replace hX := if_f c_23 hX
  by_cases c_30 : (gI Z 11 x1.toNatClampNeg) = 4
  · replace hX := if_t c_30 hX
    refine xv_tabIn (tgt := 192) (pc := 32) hC dX8_cannot_32 4 c_30 (by decide) (by decide) rfl (by decide) ?_
    refine xv_aload_n (pc := 192) hC dX8_cannot_192 4 rfl rfl ?_
    refine xv_iload_n (pc := 193) hC dX8_cannot_193 3 rfl rfl ?_
    obtain ⟨q_31, hq_31, hX⟩ := bnd_some hX
    refine xv_callVi0 (As := [.int y_2]) (pc := 194) hC (kX8_cannotHang hl hq_31) fV_X8_cannotHang wf_1811 (rc_X8 (rfl : shR 0 = 1)) rfl ⟨Nat.le_of_ble_eq_true rfl, Nat.le_of_ble_eq_true rfl⟩ rfl (Nat.le_of_ble_eq_true rfl) dX8_cannot_194 ⟨Nat.le_of_ble_eq_true rfl, Nat.le_of_ble_eq_true rfl⟩ ?_
    refine xv_if_le (tgt := 202) (pc := 197) hC dX8_cannot_197 (by decide) (fun c_32 => ?_) (fun c_32 => ?_)
    · replace hX := if_t c_32 hX
      refine xv_aload_n (pc := 202) hC dX8_cannot_202 4 rfl rfl ?_
      refine xv_aload_n (pc := 203) hC dX8_cannot_203 4 rfl rfl ?_
      refine xv_iload_n (pc := 204) hC dX8_cannot_204 3 rfl rfl ?_
      obtain ⟨q_33, hq_33, hX⟩ := bnd_some hX
      refine xv_callVi0 (As := [.int y_2]) (pc := 205) hC (kX8_callOf hl hq_33) fV_X8_callOf wf_1795 (rc_X8 (rfl : shR 0 = 1)) rfl ⟨Nat.le_of_ble_eq_true rfl, Nat.le_of_ble_eq_true rfl⟩ rfl (Nat.le_of_ble_eq_true rfl) dX8_cannot_205 ⟨Nat.le_of_ble_eq_true rfl, Nat.le_of_ble_eq_true rfl⟩ ?_
      obtain ⟨q_34, hq_34, hX⟩ := bnd_some hX
      refine xv_callVi0 (As := [.int q_33.1]) (pc := 208) hC (kX8_ends hl hq_34) fV_X8_ends wf_1751 (rc_X8 (rfl : shR 0 = 1)) rfl ⟨Nat.le_of_ble_eq_true rfl, Nat.le_of_ble_eq_true rfl⟩ rfl (Nat.le_of_ble_eq_true rfl) dX8_cannot_208 ⟨Nat.le_of_ble_eq_true rfl, Nat.le_of_ble_eq_true rfl⟩ ?_
      obtain ⟨y_35, hy_35, hX⟩ := nm_some hX
      refine xv_nmi hy_35 ?_
      refine xv_istore (pc := 211) (lv' := [(5, .int y_35), (4, .int 0), (3, .int y_4), (2, .int y_2), (0, .ref (a 0)), (1, .int x1)]) hC dX8_cannot_211 (by decide) rfl ?_
      refine xv_iconst (v := 0) (pc := 213) hC dX8_cannot_213 (by decide) ?_
      obtain ⟨h1, h2⟩ := some_pair hX
      exact xv_eqi (W := cwR dA a) h1 h2 (hR _ _ _ _ (by rw [← h1]; exact (by decide)) (Nat.le_of_ble_eq_true rfl) (Nat.le_of_ble_eq_true rfl) dX8_cannot_214)
    · replace hX := if_f c_32 hX
      refine xv_iconst (v := 1) (pc := 200) hC dX8_cannot_200 (by decide) ?_
      obtain ⟨h1, h2⟩ := some_pair hX
      exact xv_eqi (W := cwR dA a) h1 h2 (hR _ _ _ _ (by rw [← h1]; exact (by decide)) (Nat.le_of_ble_eq_true rfl) (Nat.le_of_ble_eq_true rfl) dX8_cannot_201)
  replace hX := if_f c_30 hX
  by_cases c_36 : (gI Z 11 x1.toNatClampNeg) = 5
  · replace hX := if_t c_36 hX
    refine xv_tabIn (tgt := 215) (pc := 32) hC dX8_cannot_32 5 c_36 (by decide) (by decide) rfl (by decide) ?_
    refine xv_aload_n (pc := 215) hC dX8_cannot_215 4 rfl rfl ?_
    refine xv_iload_n (pc := 216) hC dX8_cannot_216 3 rfl rfl ?_
    obtain ⟨q_37, hq_37, hX⟩ := bnd_some hX
    refine xv_callVi0 (As := [.int y_2]) (pc := 217) hC (kX8_cannotCut hl hq_37) fV_X8_cannotCut wf_1695 (rc_X8 (rfl : shR 0 = 1)) rfl ⟨Nat.le_of_ble_eq_true rfl, Nat.le_of_ble_eq_true rfl⟩ rfl (Nat.le_of_ble_eq_true rfl) dX8_cannot_217 ⟨Nat.le_of_ble_eq_true rfl, Nat.le_of_ble_eq_true rfl⟩ ?_
    refine xv_if_le (tgt := 225) (pc := 220) hC dX8_cannot_220 (by decide) (fun c_38 => ?_) (fun c_38 => ?_)
    · replace hX := if_t c_38 hX
      refine xv_aload_n (pc := 225) hC dX8_cannot_225 4 rfl rfl ?_
      refine xv_iload_n (pc := 226) hC dX8_cannot_226 3 rfl rfl ?_
      obtain ⟨q_39, hq_39, hX⟩ := bnd_some hX
      refine xv_callVi0 (As := [.int y_2]) (pc := 227) hC (kX8_cuts hl hq_39) fV_X8_cuts wf_1707 (rc_X8 (rfl : shR 0 = 1)) rfl ⟨Nat.le_of_ble_eq_true rfl, Nat.le_of_ble_eq_true rfl⟩ rfl (Nat.le_of_ble_eq_true rfl) dX8_cannot_227 ⟨Nat.le_of_ble_eq_true rfl, Nat.le_of_ble_eq_true rfl⟩ ?_
      obtain ⟨y_40, hy_40, hX⟩ := nm_some hX
      refine xv_nmi hy_40 ?_
      refine xv_istore (pc := 230) (lv' := [(5, .int y_40), (4, .int 0), (3, .int y_4), (2, .int y_2), (0, .ref (a 0)), (1, .int x1)]) hC dX8_cannot_230 (by decide) rfl ?_
      refine xv_iconst (v := 0) (pc := 232) hC dX8_cannot_232 (by decide) ?_
      obtain ⟨h1, h2⟩ := some_pair hX
      exact xv_eqi (W := cwR dA a) h1 h2 (hR _ _ _ _ (by rw [← h1]; exact (by decide)) (Nat.le_of_ble_eq_true rfl) (Nat.le_of_ble_eq_true rfl) dX8_cannot_233)
    · replace hX := if_f c_38 hX
      refine xv_iconst (v := 1) (pc := 223) hC dX8_cannot_223 (by decide) ?_
      obtain ⟨h1, h2⟩ := some_pair hX
      exact xv_eqi (W := cwR dA a) h1 h2 (hR _ _ _ _ (by rw [← h1]; exact (by decide)) (Nat.le_of_ble_eq_true rfl) (Nat.le_of_ble_eq_true rfl) dX8_cannot_224)
  replace hX := if_f c_36 hX
  by_cases c_41 : (gI Z 11 x1.toNatClampNeg) = 6
  · replace hX := if_t c_41 hX
    refine xv_tabIn (tgt := 234) (pc := 32) hC dX8_cannot_32 6 c_41 (by decide) (by decide) rfl (by decide) ?_
    refine xv_aload_n (pc := 234) hC dX8_cannot_234 4 rfl rfl ?_
    refine xv_iload_n (pc := 235) hC dX8_cannot_235 3 rfl rfl ?_
    obtain ⟨q_42, hq_42, hX⟩ := bnd_some hX
    refine xv_callVi0 (As := [.int y_2]) (pc := 236) hC (kX8_cannotMend hl hq_42) fV_X8_cannotMend wf_1775 (rc_X8 (rfl : shR 0 = 1)) rfl ⟨Nat.le_of_ble_eq_true rfl, Nat.le_of_ble_eq_true rfl⟩ rfl (Nat.le_of_ble_eq_true rfl) dX8_cannot_236 ⟨Nat.le_of_ble_eq_true rfl, Nat.le_of_ble_eq_true rfl⟩ ?_
    refine xv_if_le (tgt := 244) (pc := 239) hC dX8_cannot_239 (by decide) (fun c_43 => ?_) (fun c_43 => ?_)
    · replace hX := if_t c_43 hX
      refine xv_aload_n (pc := 244) hC dX8_cannot_244 4 rfl rfl ?_
      refine xv_iload_n (pc := 245) hC dX8_cannot_245 3 rfl rfl ?_
      obtain ⟨q_44, hq_44, hX⟩ := bnd_some hX
      refine xv_callVi0 (As := [.int y_2]) (pc := 246) hC (kX8_mends hl hq_44) fV_X8_mends wf_1779 (rc_X8 (rfl : shR 0 = 1)) rfl ⟨Nat.le_of_ble_eq_true rfl, Nat.le_of_ble_eq_true rfl⟩ rfl (Nat.le_of_ble_eq_true rfl) dX8_cannot_246 ⟨Nat.le_of_ble_eq_true rfl, Nat.le_of_ble_eq_true rfl⟩ ?_
      obtain ⟨y_45, hy_45, hX⟩ := nm_some hX
      refine xv_nmi hy_45 ?_
      refine xv_istore (pc := 249) (lv' := [(5, .int y_45), (4, .int 0), (3, .int y_4), (2, .int y_2), (0, .ref (a 0)), (1, .int x1)]) hC dX8_cannot_249 (by decide) rfl ?_
      refine xv_iconst (v := 0) (pc := 251) hC dX8_cannot_251 (by decide) ?_
      obtain ⟨h1, h2⟩ := some_pair hX
      exact xv_eqi (W := cwR dA a) h1 h2 (hR _ _ _ _ (by rw [← h1]; exact (by decide)) (Nat.le_of_ble_eq_true rfl) (Nat.le_of_ble_eq_true rfl) dX8_cannot_252)
    · replace hX := if_f c_43 hX
      refine xv_iconst (v := 1) (pc := 242) hC dX8_cannot_242 (by decide) ?_
      obtain ⟨h1, h2⟩ := some_pair hX
      exact xv_eqi (W := cwR dA a) h1 h2 (hR _ _ _ _ (by rw [← h1]; exact (by decide)) (Nat.le_of_ble_eq_true rfl) (Nat.le_of_ble_eq_true rfl) dX8_cannot_243)
  replace hX := if_f c_41 hX
  refine xv_tabD (tgt := 253) (pc := 32) hC dX8_cannot_32 rfl (fun i9 hi9 hne9 hx9 => ?_) (by decide) ?_
  · have hi9 : i9 < 7 := hi9
    rcases (by omega : i9 = 0 ∨ i9 = 1 ∨ i9 = 2 ∨ i9 = 3 ∨ i9 = 4 ∨ i9 = 5 ∨ i9 = 6) with rfl | rfl | rfl | rfl | rfl | rfl | rfl <;> first | exact hne9 rfl | exact absurd hx9 (by assumption)
  · skip
    refine xv_iload_n (pc := 253) hC dX8_cannot_253 3 rfl rfl ?_
    refine xv_iconst (v := 1) (pc := 254) hC dX8_cannot_254 (by decide) ?_
    refine xv_bipush (v := 60) (pc := 255) hC dX8_cannot_255 (by decide) ?_
    obtain ⟨q_46, hq_46, hX⟩ := bnd_some hX
    refine xv_callSi0 (As := [.int y_2, .int 1, .int 60]) (pc := 257) hC (kX8_in hl hq_46) fS_X8_in wf_1668 rfl ⟨Nat.le_of_ble_eq_true rfl, Nat.le_of_ble_eq_true rfl⟩ rfl (Nat.le_of_ble_eq_true rfl) dX8_cannot_257 ⟨Nat.le_of_ble_eq_true rfl, Nat.le_of_ble_eq_true rfl⟩ ?_
    refine xv_if_ne (tgt := 265) (pc := 260) hC dX8_cannot_260 (by decide) (fun c_47 => ?_) (fun c_47 => ?_)
    · replace hX := if_f c_47 hX
      refine xv_aload_n (pc := 265) hC dX8_cannot_265 4 rfl rfl ?_
      refine xv_iload_n (pc := 266) hC dX8_cannot_266 3 rfl rfl ?_
      obtain ⟨q_48, hq_48, hX⟩ := bnd_some hX
      refine xv_callVi0 (As := [.int y_2]) (pc := 267) hC (kX8_passes hl hq_48) fV_X8_passes wf_1819 (rc_X8 (rfl : shR 0 = 1)) rfl ⟨Nat.le_of_ble_eq_true rfl, Nat.le_of_ble_eq_true rfl⟩ rfl (Nat.le_of_ble_eq_true rfl) dX8_cannot_267 ⟨Nat.le_of_ble_eq_true rfl, Nat.le_of_ble_eq_true rfl⟩ ?_
      obtain ⟨y_49, hy_49, hX⟩ := nm_some hX
      refine xv_nmi hy_49 ?_
      refine xv_istore (pc := 270) (lv' := [(5, .int y_49), (4, .int 0), (3, .int y_4), (2, .int y_2), (0, .ref (a 0)), (1, .int x1)]) hC dX8_cannot_270 (by decide) rfl ?_
      refine xv_iconst (v := 0) (pc := 272) hC dX8_cannot_272 (by decide) ?_
      obtain ⟨h1, h2⟩ := some_pair hX
      exact xv_eqi (W := cwR dA a) h1 h2 (hR _ _ _ _ (by rw [← h1]; exact (by decide)) (Nat.le_of_ble_eq_true rfl) (Nat.le_of_ble_eq_true rfl) dX8_cannot_273)
    · replace hX := if_t c_47 hX
      refine xv_iconst (v := 1) (pc := 263) hC dX8_cannot_263 (by decide) ?_
      obtain ⟨h1, h2⟩ := some_pair hX
      exact xv_eqi (W := cwR dA a) h1 h2 (hR _ _ _ _ (by rw [← h1]; exact (by decide)) (Nat.le_of_ble_eq_true rfl) (Nat.le_of_ble_eq_true rfl) dX8_cannot_264)
