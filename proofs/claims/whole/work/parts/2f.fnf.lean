def sX8_fail (x1 : Int32) (Z : ZZ) : Option (Int32 × ZZ) :=
  nm (pI Z 0 8 x1) <| fun Z_1 =>
  some (0, Z_1)
abbrev rmX8_fail : Room := { frames := 0, cells := 0, slots := 0, locals := 0 }
set_option maxHeartbeats 4000000 in
set_option maxRecDepth 100000 in
theorem kX8_fail {l : Launch} {D : va_G} {dA : Nat → ClassId} {sa : String → Nat → Nat} {a : Nat → Nat} (hl : l.stackTraces = false) {x1 : Int32} {Z Z' : ZZ} {v : Int32} (hX : sX8_fail x1 Z = some (v, Z')) : CTi l D dA sa yX8_fail (wz yX8_fail cX8_fail 2 (some .int)) rmX8_fail [.ref (a 0), .int x1] (cwR dA a Z) v (cwR dA a Z') := by
  refine xm_i hl (by decide +kernel) (Nat.le_of_ble_eq_true rfl) rfl ?_
  intro p e s m args below meth c A Q hC hR
  unfold sX8_fail at hX
  show xv p l e rmX8_fail s m args below meth c D A 2 Q (cwR dA a Z) 0 0 0 [(0, .ref (a 0)), (1, .int x1)] []
  refine xv_aload_n (pc := 0) hC dX8_fail_0 0 rfl rfl ?_
  refine xv_iload_n (pc := 1) hC dX8_fail_1 1 rfl rfl ?_
  obtain ⟨Z_1, hZ_1, hX⟩ := nm_some hX
  refine xpX8 (ty := .int) (pc := 2) hC dX8_fail_2 (rfl : shR 0 = 1) 8 (by decide) wf_1561 rfl (by decide +kernel) rfl rfl rfl hZ_1 ?_
  refine xv_iconst (v := 0) (pc := 5) hC dX8_fail_5 (by decide) ?_
  obtain ⟨h1, h2⟩ := some_pair hX
  exact xv_eqi (W := cwR dA a) h1 h2 (hR _ _ _ _ (Nat.le_of_ble_eq_true rfl) (Nat.le_of_ble_eq_true rfl) dX8_fail_6)
def sX8_copy_2_2_L3 (t0 : Nat) (x1 : Int32) (t2 : Nat) (x3 : Int32) : Nat → Int32 → ZZ → Option (ZZ)
  | 0, _, _ => none
  | n + 1, y4, Z =>
  if (180 : Int32) ≤ y4 then (
    some Z) else (
    gd (vin (x1 + y4) 180 = true) <|
    gd (vin (x3 + y4) 180 = true) <|
    nm (pI Z t2 (x3 + y4).toNatClampNeg (gI Z t0 (x1 + y4).toNatClampNeg)) <| fun Z_4 =>
    nm (y4 + 1) <| fun y_5 =>
    sX8_copy_2_2_L3 t0 x1 t2 x3 n y_5 Z_4)
def sX8_copy_2_2 (t0 : Nat) (x1 : Int32) (t2 : Nat) (x3 : Int32) (Z : ZZ) : Option (ZZ) :=
  gd (shR t0 = 2) <|
  gd (shR t2 = 2) <|
  sX8_copy_2_2_L3 t0 x1 t2 x3 3000 0 Z
abbrev rmX8_copy_2_2 : Room := { frames := 0, cells := 0, slots := 0, locals := 0 }
set_option maxHeartbeats 4000000 in
set_option maxRecDepth 100000 in
theorem kX8_copy_2_2 {l : Launch} {D : va_G} {dA : Nat → ClassId} {sa : String → Nat → Nat} {a : Nat → Nat} (hl : l.stackTraces = false) {t0 : Nat} {x1 : Int32} {t2 : Nat} {x3 : Int32} {Z Z' : ZZ} (hX : sX8_copy_2_2 t0 x1 t2 x3 Z = some Z') : CTv l D dA sa yX8_copy (wz yX8_copy cX8_copy 5 none) rmX8_copy_2_2 [.ref (a t0), .int x1, .ref (a t2), .int x3] (cwR dA a Z) (cwR dA a Z') := by
  refine xm_v hl (by decide +kernel) (Nat.le_of_ble_eq_true rfl) rfl ?_
  intro p e s m args below meth c A Q hC hR
  unfold sX8_copy_2_2 at hX
  obtain ⟨g0, hX⟩ := gd_some hX
  obtain ⟨g2, hX⟩ := gd_some hX
  have v3 : ∀ (n : Nat) (y4 : Int32) (Z : ZZ), sX8_copy_2_2_L3 t0 x1 t2 x3 n y4 Z = some Z' → xv p l e rmX8_copy_2_2 s m args below meth c D A 5 Q (cwR dA a Z) 0 0 3 [(0, .ref (a t0)), (1, .int x1), (2, .ref (a t2)), (3, .int x3), (4, .int y4)] [] := by
    intro n
    induction n with
    | zero =>
      intro y4 Z hX
      exact absurd hX (by simp [sX8_copy_2_2_L3])
    | succ n ih =>
      intro y4 Z hX
      rw [sX8_copy_2_2_L3] at hX
      refine xv_iload (pc := 3) hC dX8_copy_3 4 rfl ?_
      refine xv_sipush (v := 180) (pc := 5) hC dX8_copy_5 (by decide) ?_
      refine xv_icmp_ge (tgt := 29) (pc := 8) hC dX8_copy_8 (by decide) (fun c_1 => ?_) (fun c_1 => ?_)
      · replace hX := if_t c_1 hX
        exact xv_eqw (W := cwR dA a) (Option.some.inj hX) (hR _ _ _ _ (Nat.le_of_ble_eq_true rfl) (Nat.le_of_ble_eq_true rfl) dX8_copy_29)
      · replace hX := if_f c_1 hX
        refine xv_aload_n (pc := 11) hC dX8_copy_11 2 rfl rfl ?_
        refine xv_iload_n (pc := 12) hC dX8_copy_12 3 rfl rfl ?_
        refine xv_iload (pc := 13) hC dX8_copy_13 4 rfl ?_
        refine xv_iadd (pc := 15) hC dX8_copy_15 ?_
        refine xv_aload_n (pc := 16) hC dX8_copy_16 0 rfl rfl ?_
        refine xv_iload_n (pc := 17) hC dX8_copy_17 1 rfl rfl ?_
        refine xv_iload (pc := 18) hC dX8_copy_18 4 rfl ?_
        refine xv_iadd (pc := 20) hC dX8_copy_20 ?_
        obtain ⟨h_2, hX⟩ := gd_some hX
        refine xl_R2 (pc := 21) hC dX8_copy_21 g0 h_2 ?_
        obtain ⟨h_3, hX⟩ := gd_some hX
        obtain ⟨Z_4, hZ_4, hX⟩ := nm_some hX
        refine xs_R2 (pc := 22) hC dX8_copy_22 g2 h_3 hZ_4 ?_
        obtain ⟨y_5, hy_5, hX⟩ := nm_some hX
        refine xv_iinc (pc := 23) (v := y_5) (lv' := [(4, .int y_5), (0, .ref (a t0)), (1, .int x1), (2, .ref (a t2)), (3, .int x3)]) hC dX8_copy_23 4 rfl (by rw [hy_5]; rfl) (by decide) rfl ?_
        refine xv_goto (tgt := 3) (pc := 26) hC dX8_copy_26 (by decide) ?_
        refine xv_sub (lv' := [(0, .ref (a t0)), (1, .int x1), (2, .ref (a t2)), (3, .int x3), (4, .int y_5)]) [1, 2, 3, 4, 0] rfl ?_
        exact ih y_5 Z_4 hX
  show xv p l e rmX8_copy_2_2 s m args below meth c D A 5 Q (cwR dA a Z) 0 0 0 [(0, .ref (a t0)), (1, .int x1), (2, .ref (a t2)), (3, .int x3)] []
  refine xv_iconst (v := 0) (pc := 0) hC dX8_copy_0 (by decide) ?_
  refine xv_istore (pc := 1) (lv' := [(4, .int 0), (0, .ref (a t0)), (1, .int x1), (2, .ref (a t2)), (3, .int x3)]) hC dX8_copy_1 (by decide) rfl ?_
  refine xv_sub (lv' := [(0, .ref (a t0)), (1, .int x1), (2, .ref (a t2)), (3, .int x3), (4, .int 0)]) [1, 2, 3, 4, 0] rfl ?_
  exact v3 3000 0 Z hX
def sX8_begin (Z : ZZ) : Option (ZZ) :=
  nm (pI Z 0 8 0) <| fun Z_1 =>
  bnd (sX8_copy_2_2 1 0 2 0 Z_1) <| fun q_2 =>
  some q_2
abbrev rmX8_begin : Room := { frames := 1, cells := 0, slots := 0, locals := 24 }
set_option maxHeartbeats 4000000 in
set_option maxRecDepth 100000 in
theorem kX8_begin {l : Launch} {D : va_G} {dA : Nat → ClassId} {sa : String → Nat → Nat} {a : Nat → Nat} (hl : l.stackTraces = false) {Z Z' : ZZ} (hX : sX8_begin Z = some Z') : CTv l D dA sa yX8_begin (wz yX8_begin cX8_begin 1 none) rmX8_begin [.ref (a 0)] (cwR dA a Z) (cwR dA a Z') := by
  refine xm_v hl (by decide +kernel) (Nat.le_of_ble_eq_true rfl) rfl ?_
  intro p e s m args below meth c A Q hC hR
  unfold sX8_begin at hX
  show xv p l e rmX8_begin s m args below meth c D A 1 Q (cwR dA a Z) 0 0 0 [(0, .ref (a 0))] []
  refine xv_aload_n (pc := 0) hC dX8_begin_0 0 rfl rfl ?_
  refine xv_iconst (v := 0) (pc := 1) hC dX8_begin_1 (by decide) ?_
  obtain ⟨Z_1, hZ_1, hX⟩ := nm_some hX
  refine xpX8 (ty := .int) (pc := 2) hC dX8_begin_2 (rfl : shR 0 = 1) 8 (by decide) wf_1561 rfl (by decide +kernel) rfl rfl rfl hZ_1 ?_
  refine xv_aload_n (pc := 5) hC dX8_begin_5 0 rfl rfl ?_
  refine xgX8 (v := .ref (a 1)) (pc := 6) hC dX8_begin_6 (rfl : shR 0 = 1) 0 (by decide) wf_1553 rfl ?_
  refine xv_iconst (v := 0) (pc := 9) hC dX8_begin_9 (by decide) ?_
  refine xv_aload_n (pc := 10) hC dX8_begin_10 0 rfl rfl ?_
  refine xgX8 (v := .ref (a 2)) (pc := 11) hC dX8_begin_11 (rfl : shR 0 = 1) 1 (by decide) wf_1554 rfl ?_
  refine xv_iconst (v := 0) (pc := 14) hC dX8_begin_14 (by decide) ?_
  obtain ⟨q_2, hq_2, hX⟩ := bnd_some hX
  refine xv_callSv0 (As := [.ref (a 1), .int 0, .ref (a 2), .int 0]) (pc := 15) hC (kX8_copy_2_2 hl hq_2) fS_X8_copy wf_1641 rfl ⟨Nat.le_of_ble_eq_true rfl, Nat.le_of_ble_eq_true rfl⟩ rfl (Nat.le_of_ble_eq_true rfl) dX8_begin_15 ⟨Nat.le_of_ble_eq_true rfl, Nat.le_of_ble_eq_true rfl⟩ ?_
  exact xv_eqw (W := cwR dA a) (Option.some.inj hX) (hR _ _ _ _ (Nat.le_of_ble_eq_true rfl) (Nat.le_of_ble_eq_true rfl) dX8_begin_18)
def sX8_copy_2_3_L3 (t0 : Nat) (x1 : Int32) (t2 : Nat) (x3 : Int32) : Nat → Int32 → ZZ → Option (ZZ)
  | 0, _, _ => none
  | n + 1, y4, Z =>
  if (180 : Int32) ≤ y4 then (
    some Z) else (
    gd (vin (x1 + y4) 180 = true) <|
    gd (vin (x3 + y4) 1440 = true) <|
    nm (pI Z t2 (x3 + y4).toNatClampNeg (gI Z t0 (x1 + y4).toNatClampNeg)) <| fun Z_4 =>
    nm (y4 + 1) <| fun y_5 =>
    sX8_copy_2_3_L3 t0 x1 t2 x3 n y_5 Z_4)
def sX8_copy_2_3 (t0 : Nat) (x1 : Int32) (t2 : Nat) (x3 : Int32) (Z : ZZ) : Option (ZZ) :=
  gd (shR t0 = 2) <|
  gd (shR t2 = 3) <|
  sX8_copy_2_3_L3 t0 x1 t2 x3 3000 0 Z
abbrev rmX8_copy_2_3 : Room := { frames := 0, cells := 0, slots := 0, locals := 0 }
set_option maxHeartbeats 4000000 in
set_option maxRecDepth 100000 in
theorem kX8_copy_2_3 {l : Launch} {D : va_G} {dA : Nat → ClassId} {sa : String → Nat → Nat} {a : Nat → Nat} (hl : l.stackTraces = false) {t0 : Nat} {x1 : Int32} {t2 : Nat} {x3 : Int32} {Z Z' : ZZ} (hX : sX8_copy_2_3 t0 x1 t2 x3 Z = some Z') : CTv l D dA sa yX8_copy (wz yX8_copy cX8_copy 5 none) rmX8_copy_2_3 [.ref (a t0), .int x1, .ref (a t2), .int x3] (cwR dA a Z) (cwR dA a Z') := by
  refine xm_v hl (by decide +kernel) (Nat.le_of_ble_eq_true rfl) rfl ?_
  intro p e s m args below meth c A Q hC hR
  unfold sX8_copy_2_3 at hX
  obtain ⟨g0, hX⟩ := gd_some hX
  obtain ⟨g2, hX⟩ := gd_some hX
  have v3 : ∀ (n : Nat) (y4 : Int32) (Z : ZZ), sX8_copy_2_3_L3 t0 x1 t2 x3 n y4 Z = some Z' → xv p l e rmX8_copy_2_3 s m args below meth c D A 5 Q (cwR dA a Z) 0 0 3 [(0, .ref (a t0)), (1, .int x1), (2, .ref (a t2)), (3, .int x3), (4, .int y4)] [] := by
    intro n
    induction n with
    | zero =>
      intro y4 Z hX
      exact absurd hX (by simp [sX8_copy_2_3_L3])
    | succ n ih =>
      intro y4 Z hX
      rw [sX8_copy_2_3_L3] at hX
      refine xv_iload (pc := 3) hC dX8_copy_3 4 rfl ?_
      refine xv_sipush (v := 180) (pc := 5) hC dX8_copy_5 (by decide) ?_
      refine xv_icmp_ge (tgt := 29) (pc := 8) hC dX8_copy_8 (by decide) (fun c_1 => ?_) (fun c_1 => ?_)
      · replace hX := if_t c_1 hX
        exact xv_eqw (W := cwR dA a) (Option.some.inj hX) (hR _ _ _ _ (Nat.le_of_ble_eq_true rfl) (Nat.le_of_ble_eq_true rfl) dX8_copy_29)
      · replace hX := if_f c_1 hX
        refine xv_aload_n (pc := 11) hC dX8_copy_11 2 rfl rfl ?_
        refine xv_iload_n (pc := 12) hC dX8_copy_12 3 rfl rfl ?_
        refine xv_iload (pc := 13) hC dX8_copy_13 4 rfl ?_
        refine xv_iadd (pc := 15) hC dX8_copy_15 ?_
        refine xv_aload_n (pc := 16) hC dX8_copy_16 0 rfl rfl ?_
        refine xv_iload_n (pc := 17) hC dX8_copy_17 1 rfl rfl ?_
        refine xv_iload (pc := 18) hC dX8_copy_18 4 rfl ?_
        refine xv_iadd (pc := 20) hC dX8_copy_20 ?_
        obtain ⟨h_2, hX⟩ := gd_some hX
        refine xl_R2 (pc := 21) hC dX8_copy_21 g0 h_2 ?_
        obtain ⟨h_3, hX⟩ := gd_some hX
        obtain ⟨Z_4, hZ_4, hX⟩ := nm_some hX
        refine xs_R3 (pc := 22) hC dX8_copy_22 g2 h_3 hZ_4 ?_
        obtain ⟨y_5, hy_5, hX⟩ := nm_some hX
        refine xv_iinc (pc := 23) (v := y_5) (lv' := [(4, .int y_5), (0, .ref (a t0)), (1, .int x1), (2, .ref (a t2)), (3, .int x3)]) hC dX8_copy_23 4 rfl (by rw [hy_5]; rfl) (by decide) rfl ?_
        refine xv_goto (tgt := 3) (pc := 26) hC dX8_copy_26 (by decide) ?_
        refine xv_sub (lv' := [(0, .ref (a t0)), (1, .int x1), (2, .ref (a t2)), (3, .int x3), (4, .int y_5)]) [1, 2, 3, 4, 0] rfl ?_
        exact ih y_5 Z_4 hX
  show xv p l e rmX8_copy_2_3 s m args below meth c D A 5 Q (cwR dA a Z) 0 0 0 [(0, .ref (a t0)), (1, .int x1), (2, .ref (a t2)), (3, .int x3)] []
  refine xv_iconst (v := 0) (pc := 0) hC dX8_copy_0 (by decide) ?_
  refine xv_istore (pc := 1) (lv' := [(4, .int 0), (0, .ref (a t0)), (1, .int x1), (2, .ref (a t2)), (3, .int x3)]) hC dX8_copy_1 (by decide) rfl ?_
  refine xv_sub (lv' := [(0, .ref (a t0)), (1, .int x1), (2, .ref (a t2)), (3, .int x3), (4, .int 0)]) [1, 2, 3, 4, 0] rfl ?_
  exact v3 3000 0 Z hX
def sX8_copy_3_3_L3 (t0 : Nat) (x1 : Int32) (t2 : Nat) (x3 : Int32) : Nat → Int32 → ZZ → Option (ZZ)
  | 0, _, _ => none
  | n + 1, y4, Z =>
  if (180 : Int32) ≤ y4 then (
    some Z) else (
    gd (vin (x1 + y4) 1440 = true) <|
    gd (vin (x3 + y4) 1440 = true) <|
    nm (pI Z t2 (x3 + y4).toNatClampNeg (gI Z t0 (x1 + y4).toNatClampNeg)) <| fun Z_4 =>
    nm (y4 + 1) <| fun y_5 =>
    sX8_copy_3_3_L3 t0 x1 t2 x3 n y_5 Z_4)
def sX8_copy_3_3 (t0 : Nat) (x1 : Int32) (t2 : Nat) (x3 : Int32) (Z : ZZ) : Option (ZZ) :=
  gd (shR t0 = 3) <|
  gd (shR t2 = 3) <|
  sX8_copy_3_3_L3 t0 x1 t2 x3 3000 0 Z
abbrev rmX8_copy_3_3 : Room := { frames := 0, cells := 0, slots := 0, locals := 0 }
set_option maxHeartbeats 4000000 in
set_option maxRecDepth 100000 in
theorem kX8_copy_3_3 {l : Launch} {D : va_G} {dA : Nat → ClassId} {sa : String → Nat → Nat} {a : Nat → Nat} (hl : l.stackTraces = false) {t0 : Nat} {x1 : Int32} {t2 : Nat} {x3 : Int32} {Z Z' : ZZ} (hX : sX8_copy_3_3 t0 x1 t2 x3 Z = some Z') : CTv l D dA sa yX8_copy (wz yX8_copy cX8_copy 5 none) rmX8_copy_3_3 [.ref (a t0), .int x1, .ref (a t2), .int x3] (cwR dA a Z) (cwR dA a Z') := by
  refine xm_v hl (by decide +kernel) (Nat.le_of_ble_eq_true rfl) rfl ?_
  intro p e s m args below meth c A Q hC hR
  unfold sX8_copy_3_3 at hX
  obtain ⟨g0, hX⟩ := gd_some hX
  obtain ⟨g2, hX⟩ := gd_some hX
  have v3 : ∀ (n : Nat) (y4 : Int32) (Z : ZZ), sX8_copy_3_3_L3 t0 x1 t2 x3 n y4 Z = some Z' → xv p l e rmX8_copy_3_3 s m args below meth c D A 5 Q (cwR dA a Z) 0 0 3 [(0, .ref (a t0)), (1, .int x1), (2, .ref (a t2)), (3, .int x3), (4, .int y4)] [] := by
    intro n
    induction n with
    | zero =>
      intro y4 Z hX
      exact absurd hX (by simp [sX8_copy_3_3_L3])
    | succ n ih =>
      intro y4 Z hX
      rw [sX8_copy_3_3_L3] at hX
      refine xv_iload (pc := 3) hC dX8_copy_3 4 rfl ?_
      refine xv_sipush (v := 180) (pc := 5) hC dX8_copy_5 (by decide) ?_
      refine xv_icmp_ge (tgt := 29) (pc := 8) hC dX8_copy_8 (by decide) (fun c_1 => ?_) (fun c_1 => ?_)
      · replace hX := if_t c_1 hX
        exact xv_eqw (W := cwR dA a) (Option.some.inj hX) (hR _ _ _ _ (Nat.le_of_ble_eq_true rfl) (Nat.le_of_ble_eq_true rfl) dX8_copy_29)
      · replace hX := if_f c_1 hX
        refine xv_aload_n (pc := 11) hC dX8_copy_11 2 rfl rfl ?_
        refine xv_iload_n (pc := 12) hC dX8_copy_12 3 rfl rfl ?_
        refine xv_iload (pc := 13) hC dX8_copy_13 4 rfl ?_
        refine xv_iadd (pc := 15) hC dX8_copy_15 ?_
        refine xv_aload_n (pc := 16) hC dX8_copy_16 0 rfl rfl ?_
        refine xv_iload_n (pc := 17) hC dX8_copy_17 1 rfl rfl ?_
        refine xv_iload (pc := 18) hC dX8_copy_18 4 rfl ?_
        refine xv_iadd (pc := 20) hC dX8_copy_20 ?_
        obtain ⟨h_2, hX⟩ := gd_some hX
        refine xl_R3 (pc := 21) hC dX8_copy_21 g0 h_2 ?_
        obtain ⟨h_3, hX⟩ := gd_some hX
        obtain ⟨Z_4, hZ_4, hX⟩ := nm_some hX
        refine xs_R3 (pc := 22) hC dX8_copy_22 g2 h_3 hZ_4 ?_
        obtain ⟨y_5, hy_5, hX⟩ := nm_some hX
        refine xv_iinc (pc := 23) (v := y_5) (lv' := [(4, .int y_5), (0, .ref (a t0)), (1, .int x1), (2, .ref (a t2)), (3, .int x3)]) hC dX8_copy_23 4 rfl (by rw [hy_5]; rfl) (by decide) rfl ?_
        refine xv_goto (tgt := 3) (pc := 26) hC dX8_copy_26 (by decide) ?_
        refine xv_sub (lv' := [(0, .ref (a t0)), (1, .int x1), (2, .ref (a t2)), (3, .int x3), (4, .int y_5)]) [1, 2, 3, 4, 0] rfl ?_
        exact ih y_5 Z_4 hX
  show xv p l e rmX8_copy_3_3 s m args below meth c D A 5 Q (cwR dA a Z) 0 0 0 [(0, .ref (a t0)), (1, .int x1), (2, .ref (a t2)), (3, .int x3)] []
  refine xv_iconst (v := 0) (pc := 0) hC dX8_copy_0 (by decide) ?_
  refine xv_istore (pc := 1) (lv' := [(4, .int 0), (0, .ref (a t0)), (1, .int x1), (2, .ref (a t2)), (3, .int x3)]) hC dX8_copy_1 (by decide) rfl ?_
  refine xv_sub (lv' := [(0, .ref (a t0)), (1, .int x1), (2, .ref (a t2)), (3, .int x3), (4, .int 0)]) [1, 2, 3, 4, 0] rfl ?_
  exact v3 3000 0 Z hX
def sX8_commit_B56 (x1 : Int32) (Z : ZZ) : Option (Int32 × ZZ) :=
  bnd (sX8_copy_2_3 2 0 4 (180 * (gI Z 0 9)) Z) <| fun q_1 =>
  nm (pI q_1 0 9 ((gI q_1 0 9) + 1)) <| fun Z_2 =>
  some (x1, Z_2)
def sX8_commit_B46 (x1 : Int32) (Z : ZZ) : Option (Int32 × ZZ) :=
  nm (pI Z 0 9 ((gI Z 0 9) - 1)) <| fun Z_3 =>
  sX8_commit_B56 x1 Z_3
def sX8_commit_L11 (x1 : Int32) : Nat → Int32 → ZZ → Option (Int32 × ZZ)
  | 0, _, _ => none
  | n + 1, y2, Z =>
  if (8 : Int32) ≤ y2 then (
    sX8_commit_B46 x1 Z) else (
    bnd (sX8_copy_3_3 4 (180 * y2) 4 (180 * (y2 - 1)) Z) <| fun q_5 =>
    nm (y2 + 1) <| fun y_6 =>
    sX8_commit_L11 x1 n y_6 q_5)
def sX8_commit (x1 : Int32) (Z : ZZ) : Option (Int32 × ZZ) :=
  if (gI Z 0 9) = 8 then (
    sX8_commit_L11 x1 3000 1 Z) else (
    sX8_commit_B56 x1 Z)
abbrev rmX8_commit : Room := { frames := 1, cells := 0, slots := 0, locals := 24 }
set_option maxHeartbeats 4000000 in
set_option maxRecDepth 100000 in
theorem kX8_commit {l : Launch} {D : va_G} {dA : Nat → ClassId} {sa : String → Nat → Nat} {a : Nat → Nat} (hl : l.stackTraces = false) {x1 : Int32} {Z Z' : ZZ} {v : Int32} (hX : sX8_commit x1 Z = some (v, Z')) : CTi l D dA sa yX8_commit (wz yX8_commit cX8_commit 3 (some .int)) rmX8_commit [.ref (a 0), .int x1] (cwR dA a Z) v (cwR dA a Z') := by
  refine xm_i hl (by decide +kernel) (Nat.le_of_ble_eq_true rfl) rfl ?_
  intro p e s m args below meth c A Q hC hR
  unfold sX8_commit at hX
  have v56 : ∀ (Z : ZZ), sX8_commit_B56 x1 Z = some (v, Z') → xv p l e rmX8_commit s m args below meth c D A 3 Q (cwR dA a Z) 0 0 56 [(0, .ref (a 0)), (1, .int x1)] [] := by
    intro Z hX
    unfold sX8_commit_B56 at hX
    refine xv_aload_n (pc := 56) hC dX8_commit_56 0 rfl rfl ?_
    refine xgX8 (v := .ref (a 2)) (pc := 57) hC dX8_commit_57 (rfl : shR 0 = 1) 1 (by decide) wf_1554 rfl ?_
    refine xv_iconst (v := 0) (pc := 60) hC dX8_commit_60 (by decide) ?_
    refine xv_aload_n (pc := 61) hC dX8_commit_61 0 rfl rfl ?_
    refine xgX8 (v := .ref (a 4)) (pc := 62) hC dX8_commit_62 (rfl : shR 0 = 1) 3 (by decide) wf_1556 rfl ?_
    refine xv_sipush (v := 180) (pc := 65) hC dX8_commit_65 (by decide) ?_
    refine xv_aload_n (pc := 68) hC dX8_commit_68 0 rfl rfl ?_
    refine xgX8 (v := .int (gI Z 0 9)) (pc := 69) hC dX8_commit_69 (rfl : shR 0 = 1) 9 (by decide) wf_1562 rfl ?_
    refine xv_imul (pc := 72) hC dX8_commit_72 ?_
    obtain ⟨q_1, hq_1, hX⟩ := bnd_some hX
    refine xv_callSv0 (As := [.ref (a 2), .int 0, .ref (a 4), .int (180 * (gI Z 0 9))]) (pc := 73) hC (kX8_copy_2_3 hl hq_1) fS_X8_copy wf_1641 rfl ⟨Nat.le_of_ble_eq_true rfl, Nat.le_of_ble_eq_true rfl⟩ rfl (Nat.le_of_ble_eq_true rfl) dX8_commit_73 ⟨Nat.le_of_ble_eq_true rfl, Nat.le_of_ble_eq_true rfl⟩ ?_
    refine xv_aload_n (pc := 76) hC dX8_commit_76 0 rfl rfl ?_
    refine xv_dup (pc := 77) hC dX8_commit_77 rfl ?_
    refine xgX8 (v := .int (gI q_1 0 9)) (pc := 78) hC dX8_commit_78 (rfl : shR 0 = 1) 9 (by decide) wf_1562 rfl ?_
    refine xv_iconst (v := 1) (pc := 81) hC dX8_commit_81 (by decide) ?_
    refine xv_iadd (pc := 82) hC dX8_commit_82 ?_
    obtain ⟨Z_2, hZ_2, hX⟩ := nm_some hX
    refine xpX8 (ty := .int) (pc := 83) hC dX8_commit_83 (rfl : shR 0 = 1) 9 (by decide) wf_1562 rfl (by decide +kernel) rfl rfl rfl hZ_2 ?_
    refine xv_iload_n (pc := 86) hC dX8_commit_86 1 rfl rfl ?_
    obtain ⟨h1, h2⟩ := some_pair hX
    exact xv_eqi (W := cwR dA a) h1 h2 (hR _ _ _ _ (Nat.le_of_ble_eq_true rfl) (Nat.le_of_ble_eq_true rfl) dX8_commit_87)
  have v46 : ∀ (Z : ZZ), sX8_commit_B46 x1 Z = some (v, Z') → xv p l e rmX8_commit s m args below meth c D A 3 Q (cwR dA a Z) 0 0 46 [(0, .ref (a 0)), (1, .int x1)] [] := by
    intro Z hX
    unfold sX8_commit_B46 at hX
    refine xv_aload_n (pc := 46) hC dX8_commit_46 0 rfl rfl ?_
    refine xv_dup (pc := 47) hC dX8_commit_47 rfl ?_
    refine xgX8 (v := .int (gI Z 0 9)) (pc := 48) hC dX8_commit_48 (rfl : shR 0 = 1) 9 (by decide) wf_1562 rfl ?_
    refine xv_iconst (v := 1) (pc := 51) hC dX8_commit_51 (by decide) ?_
    refine xv_isub (pc := 52) hC dX8_commit_52 ?_
    obtain ⟨Z_3, hZ_3, hX⟩ := nm_some hX
    refine xpX8 (ty := .int) (pc := 53) hC dX8_commit_53 (rfl : shR 0 = 1) 9 (by decide) wf_1562 rfl (by decide +kernel) rfl rfl rfl hZ_3 ?_
    exact v56 Z_3 hX
  have v11 : ∀ (n : Nat) (y2 : Int32) (Z : ZZ), sX8_commit_L11 x1 n y2 Z = some (v, Z') → xv p l e rmX8_commit s m args below meth c D A 3 Q (cwR dA a Z) 0 0 11 [(0, .ref (a 0)), (1, .int x1), (2, .int y2)] [] := by
    intro n
    induction n with
    | zero =>
      intro y2 Z hX
      exact absurd hX (by simp [sX8_commit_L11])
    | succ n ih =>
      intro y2 Z hX
      rw [sX8_commit_L11] at hX
      refine xv_iload_n (pc := 11) hC dX8_commit_11 2 rfl rfl ?_
      refine xv_bipush (v := 8) (pc := 12) hC dX8_commit_12 (by decide) ?_
      refine xv_icmp_ge (tgt := 46) (pc := 14) hC dX8_commit_14 (by decide) (fun c_4 => ?_) (fun c_4 => ?_)
      · replace hX := if_t c_4 hX
        refine xv_sub (lv' := [(0, .ref (a 0)), (1, .int x1)]) [0, 1] rfl ?_
        exact v46 Z hX
      · replace hX := if_f c_4 hX
        refine xv_aload_n (pc := 17) hC dX8_commit_17 0 rfl rfl ?_
        refine xgX8 (v := .ref (a 4)) (pc := 18) hC dX8_commit_18 (rfl : shR 0 = 1) 3 (by decide) wf_1556 rfl ?_
        refine xv_sipush (v := 180) (pc := 21) hC dX8_commit_21 (by decide) ?_
        refine xv_iload_n (pc := 24) hC dX8_commit_24 2 rfl rfl ?_
        refine xv_imul (pc := 25) hC dX8_commit_25 ?_
        refine xv_aload_n (pc := 26) hC dX8_commit_26 0 rfl rfl ?_
        refine xgX8 (v := .ref (a 4)) (pc := 27) hC dX8_commit_27 (rfl : shR 0 = 1) 3 (by decide) wf_1556 rfl ?_
        refine xv_sipush (v := 180) (pc := 30) hC dX8_commit_30 (by decide) ?_
        refine xv_iload_n (pc := 33) hC dX8_commit_33 2 rfl rfl ?_
        refine xv_iconst (v := 1) (pc := 34) hC dX8_commit_34 (by decide) ?_
        refine xv_isub (pc := 35) hC dX8_commit_35 ?_
        refine xv_imul (pc := 36) hC dX8_commit_36 ?_
        obtain ⟨q_5, hq_5, hX⟩ := bnd_some hX
        refine xv_callSv0 (As := [.ref (a 4), .int (180 * y2), .ref (a 4), .int (180 * (y2 - 1))]) (pc := 37) hC (kX8_copy_3_3 hl hq_5) fS_X8_copy wf_1641 rfl ⟨Nat.le_of_ble_eq_true rfl, Nat.le_of_ble_eq_true rfl⟩ rfl (Nat.le_of_ble_eq_true rfl) dX8_commit_37 ⟨Nat.le_of_ble_eq_true rfl, Nat.le_of_ble_eq_true rfl⟩ ?_
        obtain ⟨y_6, hy_6, hX⟩ := nm_some hX
        refine xv_iinc (pc := 40) (v := y_6) (lv' := [(2, .int y_6), (0, .ref (a 0)), (1, .int x1)]) hC dX8_commit_40 2 rfl (by rw [hy_6]; rfl) (by decide) rfl ?_
        refine xv_goto (tgt := 11) (pc := 43) hC dX8_commit_43 (by decide) ?_
        refine xv_sub (lv' := [(0, .ref (a 0)), (1, .int x1), (2, .int y_6)]) [1, 2, 0] rfl ?_
        exact ih y_6 q_5 hX
  show xv p l e rmX8_commit s m args below meth c D A 3 Q (cwR dA a Z) 0 0 0 [(0, .ref (a 0)), (1, .int x1)] []
  refine xv_aload_n (pc := 0) hC dX8_commit_0 0 rfl rfl ?_
  refine xgX8 (v := .int (gI Z 0 9)) (pc := 1) hC dX8_commit_1 (rfl : shR 0 = 1) 9 (by decide) wf_1562 rfl ?_
  refine xv_bipush (v := 8) (pc := 4) hC dX8_commit_4 (by decide) ?_
  refine xv_icmp_ne (tgt := 56) (pc := 6) hC dX8_commit_6 (by decide) (fun c_7 => ?_) (fun c_7 => ?_)
  · replace hX := if_f c_7 hX
    exact v56 Z hX
  · replace hX := if_t c_7 hX
    refine xv_iconst (v := 1) (pc := 9) hC dX8_commit_9 (by decide) ?_
    refine xv_istore_n (pc := 10) (lv' := [(2, .int 1), (0, .ref (a 0)), (1, .int x1)]) hC dX8_commit_10 rfl (by decide) rfl ?_
    refine xv_sub (lv' := [(0, .ref (a 0)), (1, .int x1), (2, .int 1)]) [1, 2, 0] rfl ?_
    exact v11 3000 1 Z hX
def sX8_t (x1 : Int32) (x2 : Int32) (Z : ZZ) : Option (Int32 × ZZ) :=
  gd (vin ((8 + (5 * x1)) + x2) 180 = true) <|
  some (gI Z 1 ((8 + (5 * x1)) + x2).toNatClampNeg, Z)
abbrev rmX8_t : Room := { frames := 0, cells := 0, slots := 0, locals := 0 }
set_option maxHeartbeats 4000000 in
set_option maxRecDepth 100000 in
theorem kX8_t {l : Launch} {D : va_G} {dA : Nat → ClassId} {sa : String → Nat → Nat} {a : Nat → Nat} (hl : l.stackTraces = false) {x1 : Int32} {x2 : Int32} {Z Z' : ZZ} {v : Int32} (hX : sX8_t x1 x2 Z = some (v, Z')) : CTi l D dA sa yX8_t (wz yX8_t cX8_t 3 (some .int)) rmX8_t [.ref (a 0), .int x1, .int x2] (cwR dA a Z) v (cwR dA a Z') := by
  refine xm_i hl (by decide +kernel) (Nat.le_of_ble_eq_true rfl) rfl ?_
  intro p e s m args below meth c A Q hC hR
  unfold sX8_t at hX
  show xv p l e rmX8_t s m args below meth c D A 3 Q (cwR dA a Z) 0 0 0 [(0, .ref (a 0)), (1, .int x1), (2, .int x2)] []
  refine xv_aload_n (pc := 0) hC dX8_t_0 0 rfl rfl ?_
  refine xgX8 (v := .ref (a 1)) (pc := 1) hC dX8_t_1 (rfl : shR 0 = 1) 0 (by decide) wf_1553 rfl ?_
  refine xv_bipush (v := 8) (pc := 4) hC dX8_t_4 (by decide) ?_
  refine xv_iconst (v := 5) (pc := 6) hC dX8_t_6 (by decide) ?_
  refine xv_iload_n (pc := 7) hC dX8_t_7 1 rfl rfl ?_
  refine xv_imul (pc := 8) hC dX8_t_8 ?_
  refine xv_iadd (pc := 9) hC dX8_t_9 ?_
  refine xv_iload_n (pc := 10) hC dX8_t_10 2 rfl rfl ?_
  refine xv_iadd (pc := 11) hC dX8_t_11 ?_
  obtain ⟨h_1, hX⟩ := gd_some hX
  refine xl_R2 (pc := 12) hC dX8_t_12 (rfl : shR 1 = 2) h_1 ?_
  obtain ⟨h1, h2⟩ := some_pair hX
  exact xv_eqi (W := cwR dA a) h1 h2 (hR _ _ _ _ (Nat.le_of_ble_eq_true rfl) (Nat.le_of_ble_eq_true rfl) dX8_t_13)
def sX8_setTrunk (x1 : Int32) (x2 : Int32) (x3 : Int32) (Z : ZZ) : Option (ZZ) :=
  gd (vin ((8 + (5 * x1)) + x2) 180 = true) <|
  nm (pI Z 1 ((8 + (5 * x1)) + x2).toNatClampNeg x3) <| fun Z_2 =>
  some Z_2
abbrev rmX8_setTrunk : Room := { frames := 0, cells := 0, slots := 0, locals := 0 }
set_option maxHeartbeats 4000000 in
set_option maxRecDepth 100000 in
theorem kX8_setTrunk {l : Launch} {D : va_G} {dA : Nat → ClassId} {sa : String → Nat → Nat} {a : Nat → Nat} (hl : l.stackTraces = false) {x1 : Int32} {x2 : Int32} {x3 : Int32} {Z Z' : ZZ} (hX : sX8_setTrunk x1 x2 x3 Z = some Z') : CTv l D dA sa yX8_setTrunk (wz yX8_setTrunk cX8_setTrunk 4 none) rmX8_setTrunk [.ref (a 0), .int x1, .int x2, .int x3] (cwR dA a Z) (cwR dA a Z') := by
  refine xm_v hl (by decide +kernel) (Nat.le_of_ble_eq_true rfl) rfl ?_
  intro p e s m args below meth c A Q hC hR
  unfold sX8_setTrunk at hX
  show xv p l e rmX8_setTrunk s m args below meth c D A 4 Q (cwR dA a Z) 0 0 0 [(0, .ref (a 0)), (1, .int x1), (2, .int x2), (3, .int x3)] []
  refine xv_aload_n (pc := 0) hC dX8_setTrunk_0 0 rfl rfl ?_
  refine xgX8 (v := .ref (a 1)) (pc := 1) hC dX8_setTrunk_1 (rfl : shR 0 = 1) 0 (by decide) wf_1553 rfl ?_
  refine xv_bipush (v := 8) (pc := 4) hC dX8_setTrunk_4 (by decide) ?_
  refine xv_iconst (v := 5) (pc := 6) hC dX8_setTrunk_6 (by decide) ?_
  refine xv_iload_n (pc := 7) hC dX8_setTrunk_7 1 rfl rfl ?_
  refine xv_imul (pc := 8) hC dX8_setTrunk_8 ?_
  refine xv_iadd (pc := 9) hC dX8_setTrunk_9 ?_
  refine xv_iload_n (pc := 10) hC dX8_setTrunk_10 2 rfl rfl ?_
  refine xv_iadd (pc := 11) hC dX8_setTrunk_11 ?_
  refine xv_iload_n (pc := 12) hC dX8_setTrunk_12 3 rfl rfl ?_
  obtain ⟨h_1, hX⟩ := gd_some hX
  obtain ⟨Z_2, hZ_2, hX⟩ := nm_some hX
  refine xs_R2 (pc := 13) hC dX8_setTrunk_13 (rfl : shR 1 = 2) h_1 hZ_2 ?_
  exact xv_eqw (W := cwR dA a) (Option.some.inj hX) (hR _ _ _ _ (Nat.le_of_ble_eq_true rfl) (Nat.le_of_ble_eq_true rfl) dX8_setTrunk_14)
def sX8_u (x1 : Int32) (x2 : Int32) (Z : ZZ) : Option (Int32 × ZZ) :=
  gd (vin ((88 + (3 * x1)) + x2) 180 = true) <|
  some (gI Z 1 ((88 + (3 * x1)) + x2).toNatClampNeg, Z)
abbrev rmX8_u : Room := { frames := 0, cells := 0, slots := 0, locals := 0 }
set_option maxHeartbeats 4000000 in
set_option maxRecDepth 100000 in
theorem kX8_u {l : Launch} {D : va_G} {dA : Nat → ClassId} {sa : String → Nat → Nat} {a : Nat → Nat} (hl : l.stackTraces = false) {x1 : Int32} {x2 : Int32} {Z Z' : ZZ} {v : Int32} (hX : sX8_u x1 x2 Z = some (v, Z')) : CTi l D dA sa yX8_u (wz yX8_u cX8_u 3 (some .int)) rmX8_u [.ref (a 0), .int x1, .int x2] (cwR dA a Z) v (cwR dA a Z') := by
  refine xm_i hl (by decide +kernel) (Nat.le_of_ble_eq_true rfl) rfl ?_
  intro p e s m args below meth c A Q hC hR
  unfold sX8_u at hX
  show xv p l e rmX8_u s m args below meth c D A 3 Q (cwR dA a Z) 0 0 0 [(0, .ref (a 0)), (1, .int x1), (2, .int x2)] []
  refine xv_aload_n (pc := 0) hC dX8_u_0 0 rfl rfl ?_
  refine xgX8 (v := .ref (a 1)) (pc := 1) hC dX8_u_1 (rfl : shR 0 = 1) 0 (by decide) wf_1553 rfl ?_
  refine xv_bipush (v := 88) (pc := 4) hC dX8_u_4 (by decide) ?_
  refine xv_iconst (v := 3) (pc := 6) hC dX8_u_6 (by decide) ?_
  refine xv_iload_n (pc := 7) hC dX8_u_7 1 rfl rfl ?_
  refine xv_imul (pc := 8) hC dX8_u_8 ?_
  refine xv_iadd (pc := 9) hC dX8_u_9 ?_
  refine xv_iload_n (pc := 10) hC dX8_u_10 2 rfl rfl ?_
  refine xv_iadd (pc := 11) hC dX8_u_11 ?_
  obtain ⟨h_1, hX⟩ := gd_some hX
  refine xl_R2 (pc := 12) hC dX8_u_12 (rfl : shR 1 = 2) h_1 ?_
  obtain ⟨h1, h2⟩ := some_pair hX
  exact xv_eqi (W := cwR dA a) h1 h2 (hR _ _ _ _ (Nat.le_of_ble_eq_true rfl) (Nat.le_of_ble_eq_true rfl) dX8_u_13)
def sX8_c (x1 : Int32) (x2 : Int32) (Z : ZZ) : Option (Int32 × ZZ) :=
  gd (vin ((118 + (12 * x1)) + x2) 180 = true) <|
  some (gI Z 1 ((118 + (12 * x1)) + x2).toNatClampNeg, Z)
abbrev rmX8_c : Room := { frames := 0, cells := 0, slots := 0, locals := 0 }
set_option maxHeartbeats 4000000 in
set_option maxRecDepth 100000 in
theorem kX8_c {l : Launch} {D : va_G} {dA : Nat → ClassId} {sa : String → Nat → Nat} {a : Nat → Nat} (hl : l.stackTraces = false) {x1 : Int32} {x2 : Int32} {Z Z' : ZZ} {v : Int32} (hX : sX8_c x1 x2 Z = some (v, Z')) : CTi l D dA sa yX8_c (wz yX8_c cX8_c 3 (some .int)) rmX8_c [.ref (a 0), .int x1, .int x2] (cwR dA a Z) v (cwR dA a Z') := by
  refine xm_i hl (by decide +kernel) (Nat.le_of_ble_eq_true rfl) rfl ?_
  intro p e s m args below meth c A Q hC hR
  unfold sX8_c at hX
  show xv p l e rmX8_c s m args below meth c D A 3 Q (cwR dA a Z) 0 0 0 [(0, .ref (a 0)), (1, .int x1), (2, .int x2)] []
  refine xv_aload_n (pc := 0) hC dX8_c_0 0 rfl rfl ?_
  refine xgX8 (v := .ref (a 1)) (pc := 1) hC dX8_c_1 (rfl : shR 0 = 1) 0 (by decide) wf_1553 rfl ?_
  refine xv_bipush (v := 118) (pc := 4) hC dX8_c_4 (by decide) ?_
  refine xv_bipush (v := 12) (pc := 6) hC dX8_c_6 (by decide) ?_
  refine xv_iload_n (pc := 8) hC dX8_c_8 1 rfl rfl ?_
  refine xv_imul (pc := 9) hC dX8_c_9 ?_
  refine xv_iadd (pc := 10) hC dX8_c_10 ?_
  refine xv_iload_n (pc := 11) hC dX8_c_11 2 rfl rfl ?_
  refine xv_iadd (pc := 12) hC dX8_c_12 ?_
  obtain ⟨h_1, hX⟩ := gd_some hX
  refine xl_R2 (pc := 13) hC dX8_c_13 (rfl : shR 1 = 2) h_1 ?_
  obtain ⟨h1, h2⟩ := some_pair hX
  exact xv_eqi (W := cwR dA a) h1 h2 (hR _ _ _ _ (Nat.le_of_ble_eq_true rfl) (Nat.le_of_ble_eq_true rfl) dX8_c_14)
def sX8_setCall (x1 : Int32) (x2 : Int32) (x3 : Int32) (Z : ZZ) : Option (ZZ) :=
  gd (vin ((118 + (12 * x1)) + x2) 180 = true) <|
  nm (pI Z 1 ((118 + (12 * x1)) + x2).toNatClampNeg x3) <| fun Z_2 =>
  some Z_2
abbrev rmX8_setCall : Room := { frames := 0, cells := 0, slots := 0, locals := 0 }
set_option maxHeartbeats 4000000 in
set_option maxRecDepth 100000 in
theorem kX8_setCall {l : Launch} {D : va_G} {dA : Nat → ClassId} {sa : String → Nat → Nat} {a : Nat → Nat} (hl : l.stackTraces = false) {x1 : Int32} {x2 : Int32} {x3 : Int32} {Z Z' : ZZ} (hX : sX8_setCall x1 x2 x3 Z = some Z') : CTv l D dA sa yX8_setCall (wz yX8_setCall cX8_setCall 4 none) rmX8_setCall [.ref (a 0), .int x1, .int x2, .int x3] (cwR dA a Z) (cwR dA a Z') := by
  refine xm_v hl (by decide +kernel) (Nat.le_of_ble_eq_true rfl) rfl ?_
  intro p e s m args below meth c A Q hC hR
  unfold sX8_setCall at hX
  show xv p l e rmX8_setCall s m args below meth c D A 4 Q (cwR dA a Z) 0 0 0 [(0, .ref (a 0)), (1, .int x1), (2, .int x2), (3, .int x3)] []
  refine xv_aload_n (pc := 0) hC dX8_setCall_0 0 rfl rfl ?_
  refine xgX8 (v := .ref (a 1)) (pc := 1) hC dX8_setCall_1 (rfl : shR 0 = 1) 0 (by decide) wf_1553 rfl ?_
  refine xv_bipush (v := 118) (pc := 4) hC dX8_setCall_4 (by decide) ?_
  refine xv_bipush (v := 12) (pc := 6) hC dX8_setCall_6 (by decide) ?_
  refine xv_iload_n (pc := 8) hC dX8_setCall_8 1 rfl rfl ?_
  refine xv_imul (pc := 9) hC dX8_setCall_9 ?_
  refine xv_iadd (pc := 10) hC dX8_setCall_10 ?_
  refine xv_iload_n (pc := 11) hC dX8_setCall_11 2 rfl rfl ?_
  refine xv_iadd (pc := 12) hC dX8_setCall_12 ?_
  refine xv_iload_n (pc := 13) hC dX8_setCall_13 3 rfl rfl ?_
  obtain ⟨h_1, hX⟩ := gd_some hX
  obtain ⟨Z_2, hZ_2, hX⟩ := nm_some hX
  refine xs_R2 (pc := 14) hC dX8_setCall_14 (rfl : shR 1 = 2) h_1 hZ_2 ?_
  exact xv_eqw (W := cwR dA a) (Option.some.inj hX) (hR _ _ _ _ (Nat.le_of_ble_eq_true rfl) (Nat.le_of_ble_eq_true rfl) dX8_setCall_15)
def sX8_isSwitch (x1 : Int32) (Z : ZZ) : Option (Int32 × ZZ) :=
  gd (vin 0 180 = true) <|
  bnd (sX8_in x1 0 ((gI Z 1 (0 : Int32).toNatClampNeg) - 1) Z) <| fun q_2 =>
  gd (bq q_2.1 = true) <|
  some (q_2.1, q_2.2)
abbrev rmX8_isSwitch : Room := { frames := 1, cells := 0, slots := 0, locals := 22 }
set_option maxHeartbeats 4000000 in
set_option maxRecDepth 100000 in
theorem kX8_isSwitch {l : Launch} {D : va_G} {dA : Nat → ClassId} {sa : String → Nat → Nat} {a : Nat → Nat} (hl : l.stackTraces = false) {x1 : Int32} {Z Z' : ZZ} {v : Int32} (hX : sX8_isSwitch x1 Z = some (v, Z')) : CTi l D dA sa yX8_isSwitch (wz yX8_isSwitch cX8_isSwitch 2 (some .boolean)) rmX8_isSwitch [.ref (a 0), .int x1] (cwR dA a Z) v (cwR dA a Z') := by
  refine xm_z hl (by decide +kernel) (Nat.le_of_ble_eq_true rfl) rfl ?_
  intro p e s m args below meth c A Q hC hR
  unfold sX8_isSwitch at hX
  show xv p l e rmX8_isSwitch s m args below meth c D A 2 Q (cwR dA a Z) 0 0 0 [(0, .ref (a 0)), (1, .int x1)] []
  refine xv_iload_n (pc := 0) hC dX8_isSwitch_0 1 rfl rfl ?_
  refine xv_iconst (v := 0) (pc := 1) hC dX8_isSwitch_1 (by decide) ?_
  refine xv_aload_n (pc := 2) hC dX8_isSwitch_2 0 rfl rfl ?_
  refine xgX8 (v := .ref (a 1)) (pc := 3) hC dX8_isSwitch_3 (rfl : shR 0 = 1) 0 (by decide) wf_1553 rfl ?_
  refine xv_iconst (v := 0) (pc := 6) hC dX8_isSwitch_6 (by decide) ?_
  obtain ⟨h_1, hX⟩ := gd_some hX
  refine xl_R2 (pc := 7) hC dX8_isSwitch_7 (rfl : shR 1 = 2) h_1 ?_
  refine xv_iconst (v := 1) (pc := 8) hC dX8_isSwitch_8 (by decide) ?_
  refine xv_isub (pc := 9) hC dX8_isSwitch_9 ?_
  obtain ⟨q_2, hq_2, hX⟩ := bnd_some hX
  refine xv_callSi0 (As := [.int x1, .int 0, .int ((gI Z 1 (0 : Int32).toNatClampNeg) - 1)]) (pc := 10) hC (kX8_in hl hq_2) fS_X8_in wf_1668 rfl ⟨Nat.le_of_ble_eq_true rfl, Nat.le_of_ble_eq_true rfl⟩ rfl (Nat.le_of_ble_eq_true rfl) dX8_isSwitch_10 ⟨Nat.le_of_ble_eq_true rfl, Nat.le_of_ble_eq_true rfl⟩ ?_
  obtain ⟨h_3, hX⟩ := gd_some hX
  obtain ⟨h1, h2⟩ := some_pair hX
  exact xv_eqi (W := cwR dA a) h1 h2 (hR _ _ _ _ (by rw [← h1]; exact (bq_n h_3)) (Nat.le_of_ble_eq_true rfl) (Nat.le_of_ble_eq_true rfl) dX8_isSwitch_13)
def sX8_isTrunk (x1 : Int32) (Z : ZZ) : Option (Int32 × ZZ) :=
  gd (vin 1 180 = true) <|
  bnd (sX8_in x1 0 ((gI Z 1 (1 : Int32).toNatClampNeg) - 1) Z) <| fun q_2 =>
  gd (bq q_2.1 = true) <|
  some (q_2.1, q_2.2)
abbrev rmX8_isTrunk : Room := { frames := 1, cells := 0, slots := 0, locals := 22 }
set_option maxHeartbeats 4000000 in
set_option maxRecDepth 100000 in
theorem kX8_isTrunk {l : Launch} {D : va_G} {dA : Nat → ClassId} {sa : String → Nat → Nat} {a : Nat → Nat} (hl : l.stackTraces = false) {x1 : Int32} {Z Z' : ZZ} {v : Int32} (hX : sX8_isTrunk x1 Z = some (v, Z')) : CTi l D dA sa yX8_isTrunk (wz yX8_isTrunk cX8_isTrunk 2 (some .boolean)) rmX8_isTrunk [.ref (a 0), .int x1] (cwR dA a Z) v (cwR dA a Z') := by
  refine xm_z hl (by decide +kernel) (Nat.le_of_ble_eq_true rfl) rfl ?_
  intro p e s m args below meth c A Q hC hR
  unfold sX8_isTrunk at hX
  show xv p l e rmX8_isTrunk s m args below meth c D A 2 Q (cwR dA a Z) 0 0 0 [(0, .ref (a 0)), (1, .int x1)] []
  refine xv_iload_n (pc := 0) hC dX8_isTrunk_0 1 rfl rfl ?_
  refine xv_iconst (v := 0) (pc := 1) hC dX8_isTrunk_1 (by decide) ?_
  refine xv_aload_n (pc := 2) hC dX8_isTrunk_2 0 rfl rfl ?_
  refine xgX8 (v := .ref (a 1)) (pc := 3) hC dX8_isTrunk_3 (rfl : shR 0 = 1) 0 (by decide) wf_1553 rfl ?_
  refine xv_iconst (v := 1) (pc := 6) hC dX8_isTrunk_6 (by decide) ?_
  obtain ⟨h_1, hX⟩ := gd_some hX
  refine xl_R2 (pc := 7) hC dX8_isTrunk_7 (rfl : shR 1 = 2) h_1 ?_
  refine xv_iconst (v := 1) (pc := 8) hC dX8_isTrunk_8 (by decide) ?_
  refine xv_isub (pc := 9) hC dX8_isTrunk_9 ?_
  obtain ⟨q_2, hq_2, hX⟩ := bnd_some hX
  refine xv_callSi0 (As := [.int x1, .int 0, .int ((gI Z 1 (1 : Int32).toNatClampNeg) - 1)]) (pc := 10) hC (kX8_in hl hq_2) fS_X8_in wf_1668 rfl ⟨Nat.le_of_ble_eq_true rfl, Nat.le_of_ble_eq_true rfl⟩ rfl (Nat.le_of_ble_eq_true rfl) dX8_isTrunk_10 ⟨Nat.le_of_ble_eq_true rfl, Nat.le_of_ble_eq_true rfl⟩ ?_
  obtain ⟨h_3, hX⟩ := gd_some hX
  obtain ⟨h1, h2⟩ := some_pair hX
  exact xv_eqi (W := cwR dA a) h1 h2 (hR _ _ _ _ (by rw [← h1]; exact (bq_n h_3)) (Nat.le_of_ble_eq_true rfl) (Nat.le_of_ble_eq_true rfl) dX8_isTrunk_13)
def sX8_isUser (x1 : Int32) (Z : ZZ) : Option (Int32 × ZZ) :=
  gd (vin 2 180 = true) <|
  bnd (sX8_in x1 0 ((gI Z 1 (2 : Int32).toNatClampNeg) - 1) Z) <| fun q_2 =>
  gd (bq q_2.1 = true) <|
  some (q_2.1, q_2.2)
abbrev rmX8_isUser : Room := { frames := 1, cells := 0, slots := 0, locals := 22 }
set_option maxHeartbeats 4000000 in
set_option maxRecDepth 100000 in
theorem kX8_isUser {l : Launch} {D : va_G} {dA : Nat → ClassId} {sa : String → Nat → Nat} {a : Nat → Nat} (hl : l.stackTraces = false) {x1 : Int32} {Z Z' : ZZ} {v : Int32} (hX : sX8_isUser x1 Z = some (v, Z')) : CTi l D dA sa yX8_isUser (wz yX8_isUser cX8_isUser 2 (some .boolean)) rmX8_isUser [.ref (a 0), .int x1] (cwR dA a Z) v (cwR dA a Z') := by
  refine xm_z hl (by decide +kernel) (Nat.le_of_ble_eq_true rfl) rfl ?_
  intro p e s m args below meth c A Q hC hR
  unfold sX8_isUser at hX
  show xv p l e rmX8_isUser s m args below meth c D A 2 Q (cwR dA a Z) 0 0 0 [(0, .ref (a 0)), (1, .int x1)] []
  refine xv_iload_n (pc := 0) hC dX8_isUser_0 1 rfl rfl ?_
  refine xv_iconst (v := 0) (pc := 1) hC dX8_isUser_1 (by decide) ?_
  refine xv_aload_n (pc := 2) hC dX8_isUser_2 0 rfl rfl ?_
  refine xgX8 (v := .ref (a 1)) (pc := 3) hC dX8_isUser_3 (rfl : shR 0 = 1) 0 (by decide) wf_1553 rfl ?_
  refine xv_iconst (v := 2) (pc := 6) hC dX8_isUser_6 (by decide) ?_
  obtain ⟨h_1, hX⟩ := gd_some hX
  refine xl_R2 (pc := 7) hC dX8_isUser_7 (rfl : shR 1 = 2) h_1 ?_
  refine xv_iconst (v := 1) (pc := 8) hC dX8_isUser_8 (by decide) ?_
  refine xv_isub (pc := 9) hC dX8_isUser_9 ?_
  obtain ⟨q_2, hq_2, hX⟩ := bnd_some hX
  refine xv_callSi0 (As := [.int x1, .int 0, .int ((gI Z 1 (2 : Int32).toNatClampNeg) - 1)]) (pc := 10) hC (kX8_in hl hq_2) fS_X8_in wf_1668 rfl ⟨Nat.le_of_ble_eq_true rfl, Nat.le_of_ble_eq_true rfl⟩ rfl (Nat.le_of_ble_eq_true rfl) dX8_isUser_10 ⟨Nat.le_of_ble_eq_true rfl, Nat.le_of_ble_eq_true rfl⟩ ?_
  obtain ⟨h_3, hX⟩ := gd_some hX
  obtain ⟨h1, h2⟩ := some_pair hX
  exact xv_eqi (W := cwR dA a) h1 h2 (hR _ _ _ _ (by rw [← h1]; exact (bq_n h_3)) (Nat.le_of_ble_eq_true rfl) (Nat.le_of_ble_eq_true rfl) dX8_isUser_13)
def sX8_passesOver_L2 (x1 : Int32) (x2 : Int32) : Nat → Int32 → ZZ → Option (Int32 × ZZ)
  | 0, _, _ => none
  | n + 1, y3, Z =>
  bnd (sX8_c x1 3 Z) <| fun q_1 =>
  if q_1.1 ≤ y3 then (
    some (0, q_1.2)) else (
    bnd (sX8_c x1 (4 + y3) q_1.2) <| fun q_3 =>
    if q_3.1 = x2 then (
      some (1, q_3.2)) else (
      nm (y3 + 1) <| fun y_5 =>
      sX8_passesOver_L2 x1 x2 n y_5 q_3.2))
def sX8_passesOver (x1 : Int32) (x2 : Int32) (Z : ZZ) : Option (Int32 × ZZ) :=
  sX8_passesOver_L2 x1 x2 3000 0 Z
abbrev rmX8_passesOver : Room := { frames := 1, cells := 0, slots := 0, locals := 22 }
set_option maxHeartbeats 4000000 in
set_option maxRecDepth 100000 in
theorem kX8_passesOver {l : Launch} {D : va_G} {dA : Nat → ClassId} {sa : String → Nat → Nat} {a : Nat → Nat} (hl : l.stackTraces = false) {x1 : Int32} {x2 : Int32} {Z Z' : ZZ} {v : Int32} (hX : sX8_passesOver x1 x2 Z = some (v, Z')) : CTi l D dA sa yX8_passesOver (wz yX8_passesOver cX8_passesOver 4 (some .boolean)) rmX8_passesOver [.ref (a 0), .int x1, .int x2] (cwR dA a Z) v (cwR dA a Z') := by
  refine xm_z hl (by decide +kernel) (Nat.le_of_ble_eq_true rfl) rfl ?_
  intro p e s m args below meth c A Q hC hR
  unfold sX8_passesOver at hX
  have v2 : ∀ (n : Nat) (y3 : Int32) (Z : ZZ), sX8_passesOver_L2 x1 x2 n y3 Z = some (v, Z') → xv p l e rmX8_passesOver s m args below meth c D A 4 Q (cwR dA a Z) 0 0 2 [(0, .ref (a 0)), (1, .int x1), (2, .int x2), (3, .int y3)] [] := by
    intro n
    induction n with
    | zero =>
      intro y3 Z hX
      exact absurd hX (by simp [sX8_passesOver_L2])
    | succ n ih =>
      intro y3 Z hX
      rw [sX8_passesOver_L2] at hX
      refine xv_iload_n (pc := 2) hC dX8_passesOver_2 3 rfl rfl ?_
      refine xv_aload_n (pc := 3) hC dX8_passesOver_3 0 rfl rfl ?_
      refine xv_iload_n (pc := 4) hC dX8_passesOver_4 1 rfl rfl ?_
      refine xv_iconst (v := 3) (pc := 5) hC dX8_passesOver_5 (by decide) ?_
      obtain ⟨q_1, hq_1, hX⟩ := bnd_some hX
      refine xv_callVi0 (As := [.int x1, .int 3]) (pc := 6) hC (kX8_c hl hq_1) fV_X8_c wf_1719 (rc_X8 (rfl : shR 0 = 1)) rfl ⟨Nat.le_of_ble_eq_true rfl, Nat.le_of_ble_eq_true rfl⟩ rfl (Nat.le_of_ble_eq_true rfl) dX8_passesOver_6 ⟨Nat.le_of_ble_eq_true rfl, Nat.le_of_ble_eq_true rfl⟩ ?_
      refine xv_icmp_ge (tgt := 32) (pc := 9) hC dX8_passesOver_9 (by decide) (fun c_2 => ?_) (fun c_2 => ?_)
      · replace hX := if_t c_2 hX
        refine xv_iconst (v := 0) (pc := 32) hC dX8_passesOver_32 (by decide) ?_
        obtain ⟨h1, h2⟩ := some_pair hX
        exact xv_eqi (W := cwR dA a) h1 h2 (hR _ _ _ _ (by rw [← h1]; exact (by decide)) (Nat.le_of_ble_eq_true rfl) (Nat.le_of_ble_eq_true rfl) dX8_passesOver_33)
      · replace hX := if_f c_2 hX
        refine xv_aload_n (pc := 12) hC dX8_passesOver_12 0 rfl rfl ?_
        refine xv_iload_n (pc := 13) hC dX8_passesOver_13 1 rfl rfl ?_
        refine xv_iconst (v := 4) (pc := 14) hC dX8_passesOver_14 (by decide) ?_
        refine xv_iload_n (pc := 15) hC dX8_passesOver_15 3 rfl rfl ?_
        refine xv_iadd (pc := 16) hC dX8_passesOver_16 ?_
        obtain ⟨q_3, hq_3, hX⟩ := bnd_some hX
        refine xv_callVi0 (As := [.int x1, .int (4 + y3)]) (pc := 17) hC (kX8_c hl hq_3) fV_X8_c wf_1719 (rc_X8 (rfl : shR 0 = 1)) rfl ⟨Nat.le_of_ble_eq_true rfl, Nat.le_of_ble_eq_true rfl⟩ rfl (Nat.le_of_ble_eq_true rfl) dX8_passesOver_17 ⟨Nat.le_of_ble_eq_true rfl, Nat.le_of_ble_eq_true rfl⟩ ?_
        refine xv_iload_n (pc := 20) hC dX8_passesOver_20 2 rfl rfl ?_
        refine xv_icmp_ne (tgt := 26) (pc := 21) hC dX8_passesOver_21 (by decide) (fun c_4 => ?_) (fun c_4 => ?_)
        · replace hX := if_f c_4 hX
          obtain ⟨y_5, hy_5, hX⟩ := nm_some hX
          refine xv_iinc (pc := 26) (v := y_5) (lv' := [(3, .int y_5), (0, .ref (a 0)), (1, .int x1), (2, .int x2)]) hC dX8_passesOver_26 3 rfl (by rw [hy_5]; rfl) (by decide) rfl ?_
          refine xv_goto (tgt := 2) (pc := 29) hC dX8_passesOver_29 (by decide) ?_
          refine xv_sub (lv' := [(0, .ref (a 0)), (1, .int x1), (2, .int x2), (3, .int y_5)]) [1, 2, 3, 0] rfl ?_
          exact ih y_5 q_3.2 hX
        · replace hX := if_t c_4 hX
          refine xv_iconst (v := 1) (pc := 24) hC dX8_passesOver_24 (by decide) ?_
          obtain ⟨h1, h2⟩ := some_pair hX
          exact xv_eqi (W := cwR dA a) h1 h2 (hR _ _ _ _ (by rw [← h1]; exact (by decide)) (Nat.le_of_ble_eq_true rfl) (Nat.le_of_ble_eq_true rfl) dX8_passesOver_25)
  show xv p l e rmX8_passesOver s m args below meth c D A 4 Q (cwR dA a Z) 0 0 0 [(0, .ref (a 0)), (1, .int x1), (2, .int x2)] []
  refine xv_iconst (v := 0) (pc := 0) hC dX8_passesOver_0 (by decide) ?_
  refine xv_istore_n (pc := 1) (lv' := [(3, .int 0), (0, .ref (a 0)), (1, .int x1), (2, .int x2)]) hC dX8_passesOver_1 rfl (by decide) rfl ?_
  refine xv_sub (lv' := [(0, .ref (a 0)), (1, .int x1), (2, .int x2), (3, .int 0)]) [1, 2, 3, 0] rfl ?_
  exact v2 3000 0 Z hX
def sX8_callOn_L2 (x1 : Int32) : Nat → Int32 → ZZ → Option (Int32 × ZZ)
  | 0, _, _ => none
  | n + 1, y2, Z =>
  gd (vin 3 180 = true) <|
  if (gI Z 1 (3 : Int32).toNatClampNeg) ≤ y2 then (
    some ((-1), Z)) else (
    bnd (sX8_passesOver y2 x1 Z) <| fun q_3 =>
    if q_3.1 = 0 then (
      nm (y2 + 1) <| fun y_5 =>
      sX8_callOn_L2 x1 n y_5 q_3.2) else (
      some (y2, q_3.2)))
def sX8_callOn (x1 : Int32) (Z : ZZ) : Option (Int32 × ZZ) :=
  sX8_callOn_L2 x1 3000 0 Z
abbrev rmX8_callOn : Room := { frames := 2, cells := 0, slots := 0, locals := 45 }
set_option maxHeartbeats 4000000 in
set_option maxRecDepth 100000 in
theorem kX8_callOn {l : Launch} {D : va_G} {dA : Nat → ClassId} {sa : String → Nat → Nat} {a : Nat → Nat} (hl : l.stackTraces = false) {x1 : Int32} {Z Z' : ZZ} {v : Int32} (hX : sX8_callOn x1 Z = some (v, Z')) : CTi l D dA sa yX8_callOn (wz yX8_callOn cX8_callOn 3 (some .int)) rmX8_callOn [.ref (a 0), .int x1] (cwR dA a Z) v (cwR dA a Z') := by
  refine xm_i hl (by decide +kernel) (Nat.le_of_ble_eq_true rfl) rfl ?_
  intro p e s m args below meth c A Q hC hR
  unfold sX8_callOn at hX
  have v2 : ∀ (n : Nat) (y2 : Int32) (Z : ZZ), sX8_callOn_L2 x1 n y2 Z = some (v, Z') → xv p l e rmX8_callOn s m args below meth c D A 3 Q (cwR dA a Z) 0 0 2 [(0, .ref (a 0)), (1, .int x1), (2, .int y2)] [] := by
    intro n
    induction n with
    | zero =>
      intro y2 Z hX
      exact absurd hX (by simp [sX8_callOn_L2])
    | succ n ih =>
      intro y2 Z hX
      rw [sX8_callOn_L2] at hX
      refine xv_iload_n (pc := 2) hC dX8_callOn_2 2 rfl rfl ?_
      refine xv_aload_n (pc := 3) hC dX8_callOn_3 0 rfl rfl ?_
      refine xgX8 (v := .ref (a 1)) (pc := 4) hC dX8_callOn_4 (rfl : shR 0 = 1) 0 (by decide) wf_1553 rfl ?_
      refine xv_iconst (v := 3) (pc := 7) hC dX8_callOn_7 (by decide) ?_
      obtain ⟨h_1, hX⟩ := gd_some hX
      refine xl_R2 (pc := 8) hC dX8_callOn_8 (rfl : shR 1 = 2) h_1 ?_
      refine xv_icmp_ge (tgt := 29) (pc := 9) hC dX8_callOn_9 (by decide) (fun c_2 => ?_) (fun c_2 => ?_)
      · replace hX := if_t c_2 hX
        refine xv_iconst (v := (-1)) (pc := 29) hC dX8_callOn_29 (by decide) ?_
        obtain ⟨h1, h2⟩ := some_pair hX
        exact xv_eqi (W := cwR dA a) h1 h2 (hR _ _ _ _ (Nat.le_of_ble_eq_true rfl) (Nat.le_of_ble_eq_true rfl) dX8_callOn_30)
      · replace hX := if_f c_2 hX
        refine xv_aload_n (pc := 12) hC dX8_callOn_12 0 rfl rfl ?_
        refine xv_iload_n (pc := 13) hC dX8_callOn_13 2 rfl rfl ?_
        refine xv_iload_n (pc := 14) hC dX8_callOn_14 1 rfl rfl ?_
        obtain ⟨q_3, hq_3, hX⟩ := bnd_some hX
        refine xv_callVi0 (As := [.int y2, .int x1]) (pc := 15) hC (kX8_passesOver hl hq_3) fV_X8_passesOver wf_1715 (rc_X8 (rfl : shR 0 = 1)) rfl ⟨Nat.le_of_ble_eq_true rfl, Nat.le_of_ble_eq_true rfl⟩ rfl (Nat.le_of_ble_eq_true rfl) dX8_callOn_15 ⟨Nat.le_of_ble_eq_true rfl, Nat.le_of_ble_eq_true rfl⟩ ?_
        refine xv_if_eq (tgt := 23) (pc := 18) hC dX8_callOn_18 (by decide) (fun c_4 => ?_) (fun c_4 => ?_)
        · replace hX := if_t c_4 hX
          obtain ⟨y_5, hy_5, hX⟩ := nm_some hX
          refine xv_iinc (pc := 23) (v := y_5) (lv' := [(2, .int y_5), (0, .ref (a 0)), (1, .int x1)]) hC dX8_callOn_23 2 rfl (by rw [hy_5]; rfl) (by decide) rfl ?_
          refine xv_goto (tgt := 2) (pc := 26) hC dX8_callOn_26 (by decide) ?_
          refine xv_sub (lv' := [(0, .ref (a 0)), (1, .int x1), (2, .int y_5)]) [1, 2, 0] rfl ?_
          exact ih y_5 q_3.2 hX
        · replace hX := if_f c_4 hX
          refine xv_iload_n (pc := 21) hC dX8_callOn_21 2 rfl rfl ?_
          obtain ⟨h1, h2⟩ := some_pair hX
          exact xv_eqi (W := cwR dA a) h1 h2 (hR _ _ _ _ (Nat.le_of_ble_eq_true rfl) (Nat.le_of_ble_eq_true rfl) dX8_callOn_22)
  show xv p l e rmX8_callOn s m args below meth c D A 3 Q (cwR dA a Z) 0 0 0 [(0, .ref (a 0)), (1, .int x1)] []
  refine xv_iconst (v := 0) (pc := 0) hC dX8_callOn_0 (by decide) ?_
  refine xv_istore_n (pc := 1) (lv' := [(2, .int 0), (0, .ref (a 0)), (1, .int x1)]) hC dX8_callOn_1 rfl (by decide) rfl ?_
  refine xv_sub (lv' := [(0, .ref (a 0)), (1, .int x1), (2, .int 0)]) [1, 2, 0] rfl ?_
  exact v2 3000 0 Z hX
def sX8_callOf_L2 (x1 : Int32) : Nat → Int32 → ZZ → Option (Int32 × ZZ)
  | 0, _, _ => none
  | n + 1, y2, Z =>
  gd (vin 3 180 = true) <|
  if (gI Z 1 (3 : Int32).toNatClampNeg) ≤ y2 then (
    some ((-1), Z)) else (
    bnd (sX8_c y2 0 Z) <| fun q_3 =>
    if q_3.1 = x1 then (
      some (y2, q_3.2)) else (
      bnd (sX8_c y2 1 q_3.2) <| fun q_5 =>
      if q_5.1 = x1 then (
        some (y2, q_5.2)) else (
        nm (y2 + 1) <| fun y_7 =>
        sX8_callOf_L2 x1 n y_7 q_5.2)))
def sX8_callOf (x1 : Int32) (Z : ZZ) : Option (Int32 × ZZ) :=
  sX8_callOf_L2 x1 3000 0 Z
abbrev rmX8_callOf : Room := { frames := 1, cells := 0, slots := 0, locals := 22 }
set_option maxHeartbeats 4000000 in
set_option maxRecDepth 100000 in
theorem kX8_callOf {l : Launch} {D : va_G} {dA : Nat → ClassId} {sa : String → Nat → Nat} {a : Nat → Nat} (hl : l.stackTraces = false) {x1 : Int32} {Z Z' : ZZ} {v : Int32} (hX : sX8_callOf x1 Z = some (v, Z')) : CTi l D dA sa yX8_callOf (wz yX8_callOf cX8_callOf 3 (some .int)) rmX8_callOf [.ref (a 0), .int x1] (cwR dA a Z) v (cwR dA a Z') := by
  refine xm_i hl (by decide +kernel) (Nat.le_of_ble_eq_true rfl) rfl ?_
  intro p e s m args below meth c A Q hC hR
  unfold sX8_callOf at hX
  have v2 : ∀ (n : Nat) (y2 : Int32) (Z : ZZ), sX8_callOf_L2 x1 n y2 Z = some (v, Z') → xv p l e rmX8_callOf s m args below meth c D A 3 Q (cwR dA a Z) 0 0 2 [(0, .ref (a 0)), (1, .int x1), (2, .int y2)] [] := by
    intro n
    induction n with
    | zero =>
      intro y2 Z hX
      exact absurd hX (by simp [sX8_callOf_L2])
    | succ n ih =>
      intro y2 Z hX
      rw [sX8_callOf_L2] at hX
      refine xv_iload_n (pc := 2) hC dX8_callOf_2 2 rfl rfl ?_
      refine xv_aload_n (pc := 3) hC dX8_callOf_3 0 rfl rfl ?_
      refine xgX8 (v := .ref (a 1)) (pc := 4) hC dX8_callOf_4 (rfl : shR 0 = 1) 0 (by decide) wf_1553 rfl ?_
      refine xv_iconst (v := 3) (pc := 7) hC dX8_callOf_7 (by decide) ?_
      obtain ⟨h_1, hX⟩ := gd_some hX
      refine xl_R2 (pc := 8) hC dX8_callOf_8 (rfl : shR 1 = 2) h_1 ?_
      refine xv_icmp_ge (tgt := 40) (pc := 9) hC dX8_callOf_9 (by decide) (fun c_2 => ?_) (fun c_2 => ?_)
      · replace hX := if_t c_2 hX
        refine xv_iconst (v := (-1)) (pc := 40) hC dX8_callOf_40 (by decide) ?_
        obtain ⟨h1, h2⟩ := some_pair hX
        exact xv_eqi (W := cwR dA a) h1 h2 (hR _ _ _ _ (Nat.le_of_ble_eq_true rfl) (Nat.le_of_ble_eq_true rfl) dX8_callOf_41)
      · replace hX := if_f c_2 hX
        refine xv_aload_n (pc := 12) hC dX8_callOf_12 0 rfl rfl ?_
        refine xv_iload_n (pc := 13) hC dX8_callOf_13 2 rfl rfl ?_
        refine xv_iconst (v := 0) (pc := 14) hC dX8_callOf_14 (by decide) ?_
        obtain ⟨q_3, hq_3, hX⟩ := bnd_some hX
        refine xv_callVi0 (As := [.int y2, .int 0]) (pc := 15) hC (kX8_c hl hq_3) fV_X8_c wf_1719 (rc_X8 (rfl : shR 0 = 1)) rfl ⟨Nat.le_of_ble_eq_true rfl, Nat.le_of_ble_eq_true rfl⟩ rfl (Nat.le_of_ble_eq_true rfl) dX8_callOf_15 ⟨Nat.le_of_ble_eq_true rfl, Nat.le_of_ble_eq_true rfl⟩ ?_
        refine xv_iload_n (pc := 18) hC dX8_callOf_18 1 rfl rfl ?_
        refine xv_icmp_eq (tgt := 32) (pc := 19) hC dX8_callOf_19 (by decide) (fun c_4 => ?_) (fun c_4 => ?_)
        · replace hX := if_t c_4 hX
          refine xv_iload_n (pc := 32) hC dX8_callOf_32 2 rfl rfl ?_
          obtain ⟨h1, h2⟩ := some_pair hX
          exact xv_eqi (W := cwR dA a) h1 h2 (hR _ _ _ _ (Nat.le_of_ble_eq_true rfl) (Nat.le_of_ble_eq_true rfl) dX8_callOf_33)
        · replace hX := if_f c_4 hX
          refine xv_aload_n (pc := 22) hC dX8_callOf_22 0 rfl rfl ?_
          refine xv_iload_n (pc := 23) hC dX8_callOf_23 2 rfl rfl ?_
          refine xv_iconst (v := 1) (pc := 24) hC dX8_callOf_24 (by decide) ?_
          obtain ⟨q_5, hq_5, hX⟩ := bnd_some hX
          refine xv_callVi0 (As := [.int y2, .int 1]) (pc := 25) hC (kX8_c hl hq_5) fV_X8_c wf_1719 (rc_X8 (rfl : shR 0 = 1)) rfl ⟨Nat.le_of_ble_eq_true rfl, Nat.le_of_ble_eq_true rfl⟩ rfl (Nat.le_of_ble_eq_true rfl) dX8_callOf_25 ⟨Nat.le_of_ble_eq_true rfl, Nat.le_of_ble_eq_true rfl⟩ ?_
          refine xv_iload_n (pc := 28) hC dX8_callOf_28 1 rfl rfl ?_
          refine xv_icmp_ne (tgt := 34) (pc := 29) hC dX8_callOf_29 (by decide) (fun c_6 => ?_) (fun c_6 => ?_)
          · replace hX := if_f c_6 hX
            obtain ⟨y_7, hy_7, hX⟩ := nm_some hX
            refine xv_iinc (pc := 34) (v := y_7) (lv' := [(2, .int y_7), (0, .ref (a 0)), (1, .int x1)]) hC dX8_callOf_34 2 rfl (by rw [hy_7]; rfl) (by decide) rfl ?_
            refine xv_goto (tgt := 2) (pc := 37) hC dX8_callOf_37 (by decide) ?_
            refine xv_sub (lv' := [(0, .ref (a 0)), (1, .int x1), (2, .int y_7)]) [1, 2, 0] rfl ?_
            exact ih y_7 q_5.2 hX
          · replace hX := if_t c_6 hX
            refine xv_iload_n (pc := 32) hC dX8_callOf_32 2 rfl rfl ?_
            obtain ⟨h1, h2⟩ := some_pair hX
            exact xv_eqi (W := cwR dA a) h1 h2 (hR _ _ _ _ (Nat.le_of_ble_eq_true rfl) (Nat.le_of_ble_eq_true rfl) dX8_callOf_33)
  show xv p l e rmX8_callOf s m args below meth c D A 3 Q (cwR dA a Z) 0 0 0 [(0, .ref (a 0)), (1, .int x1)] []
  refine xv_iconst (v := 0) (pc := 0) hC dX8_callOf_0 (by decide) ?_
  refine xv_istore_n (pc := 1) (lv' := [(2, .int 0), (0, .ref (a 0)), (1, .int x1)]) hC dX8_callOf_1 rfl (by decide) rfl ?_
  refine xv_sub (lv' := [(0, .ref (a 0)), (1, .int x1), (2, .int 0)]) [1, 2, 0] rfl ?_
  exact v2 3000 0 Z hX
def sX8_addsSwitch (Z : ZZ) : Option (Int32 × ZZ) :=
  gd (vin 0 180 = true) <|
  gd (vin 0 180 = true) <|
  nm (pI Z 1 (0 : Int32).toNatClampNeg ((gI Z 1 (0 : Int32).toNatClampNeg) + 1)) <| fun Z_3 =>
  gd (vin 0 180 = true) <|
  some ((gI Z_3 1 (0 : Int32).toNatClampNeg) - 1, Z_3)
abbrev rmX8_addsSwitch : Room := { frames := 0, cells := 0, slots := 0, locals := 0 }
set_option maxHeartbeats 4000000 in
set_option maxRecDepth 100000 in
theorem kX8_addsSwitch {l : Launch} {D : va_G} {dA : Nat → ClassId} {sa : String → Nat → Nat} {a : Nat → Nat} (hl : l.stackTraces = false) {Z Z' : ZZ} {v : Int32} (hX : sX8_addsSwitch Z = some (v, Z')) : CTi l D dA sa yX8_addsSwitch (wz yX8_addsSwitch cX8_addsSwitch 1 (some .int)) rmX8_addsSwitch [.ref (a 0)] (cwR dA a Z) v (cwR dA a Z') := by
  refine xm_i hl (by decide +kernel) (Nat.le_of_ble_eq_true rfl) rfl ?_
  intro p e s m args below meth c A Q hC hR
  unfold sX8_addsSwitch at hX
  show xv p l e rmX8_addsSwitch s m args below meth c D A 1 Q (cwR dA a Z) 0 0 0 [(0, .ref (a 0))] []
  refine xv_aload_n (pc := 0) hC dX8_addsSwitch_0 0 rfl rfl ?_
  refine xgX8 (v := .ref (a 1)) (pc := 1) hC dX8_addsSwitch_1 (rfl : shR 0 = 1) 0 (by decide) wf_1553 rfl ?_
  refine xv_iconst (v := 0) (pc := 4) hC dX8_addsSwitch_4 (by decide) ?_
  refine xv_dup2 (pc := 5) hC dX8_addsSwitch_5 rfl rfl ?_
  obtain ⟨h_1, hX⟩ := gd_some hX
  refine xl_R2 (pc := 6) hC dX8_addsSwitch_6 (rfl : shR 1 = 2) h_1 ?_
  refine xv_iconst (v := 1) (pc := 7) hC dX8_addsSwitch_7 (by decide) ?_
  refine xv_iadd (pc := 8) hC dX8_addsSwitch_8 ?_
  obtain ⟨h_2, hX⟩ := gd_some hX
  obtain ⟨Z_3, hZ_3, hX⟩ := nm_some hX
  refine xs_R2 (pc := 9) hC dX8_addsSwitch_9 (rfl : shR 1 = 2) h_2 hZ_3 ?_
  refine xv_aload_n (pc := 10) hC dX8_addsSwitch_10 0 rfl rfl ?_
  refine xgX8 (v := .ref (a 1)) (pc := 11) hC dX8_addsSwitch_11 (rfl : shR 0 = 1) 0 (by decide) wf_1553 rfl ?_
  refine xv_iconst (v := 0) (pc := 14) hC dX8_addsSwitch_14 (by decide) ?_
  obtain ⟨h_4, hX⟩ := gd_some hX
  refine xl_R2 (pc := 15) hC dX8_addsSwitch_15 (rfl : shR 1 = 2) h_4 ?_
  refine xv_iconst (v := 1) (pc := 16) hC dX8_addsSwitch_16 (by decide) ?_
  refine xv_isub (pc := 17) hC dX8_addsSwitch_17 ?_
  obtain ⟨h1, h2⟩ := some_pair hX
  exact xv_eqi (W := cwR dA a) h1 h2 (hR _ _ _ _ (Nat.le_of_ble_eq_true rfl) (Nat.le_of_ble_eq_true rfl) dX8_addsSwitch_18)
def sX8_addSwitch (Z : ZZ) : Option (Int32 × ZZ) :=
  bnd (sX8_begin Z) <| fun q_1 =>
  gd (vin 0 180 = true) <|
  if (gI q_1 1 (0 : Int32).toNatClampNeg) = 8 then (
    bnd (sX8_fail 1 q_1) <| fun q_6 =>
    some (q_6.1, q_6.2)) else (
    bnd (sX8_addsSwitch q_1) <| fun q_4 =>
    bnd (sX8_commit q_4.1 q_4.2) <| fun q_5 =>
    some (q_5.1, q_5.2))
abbrev rmX8_addSwitch : Room := { frames := 2, cells := 0, slots := 0, locals := 46 }
set_option maxHeartbeats 4000000 in
set_option maxRecDepth 100000 in
theorem kX8_addSwitch {l : Launch} {D : va_G} {dA : Nat → ClassId} {sa : String → Nat → Nat} {a : Nat → Nat} (hl : l.stackTraces = false) {Z Z' : ZZ} {v : Int32} (hX : sX8_addSwitch Z = some (v, Z')) : CTi l D dA sa yX8_addSwitch (wz yX8_addSwitch cX8_addSwitch 1 (some .int)) rmX8_addSwitch [.ref (a 0)] (cwR dA a Z) v (cwR dA a Z') := by
  refine xm_i hl (by decide +kernel) (Nat.le_of_ble_eq_true rfl) rfl ?_
  intro p e s m args below meth c A Q hC hR
  unfold sX8_addSwitch at hX
  show xv p l e rmX8_addSwitch s m args below meth c D A 1 Q (cwR dA a Z) 0 0 0 [(0, .ref (a 0))] []
  refine xv_aload_n (pc := 0) hC dX8_addSwitch_0 0 rfl rfl ?_
  obtain ⟨q_1, hq_1, hX⟩ := bnd_some hX
  refine xv_callVv0 (As := []) (pc := 1) hC (kX8_begin hl hq_1) fV_X8_begin wf_1637 (rc_X8 (rfl : shR 0 = 1)) rfl ⟨Nat.le_of_ble_eq_true rfl, Nat.le_of_ble_eq_true rfl⟩ rfl (Nat.le_of_ble_eq_true rfl) dX8_addSwitch_1 ⟨Nat.le_of_ble_eq_true rfl, Nat.le_of_ble_eq_true rfl⟩ ?_
  refine xv_aload_n (pc := 4) hC dX8_addSwitch_4 0 rfl rfl ?_
  refine xgX8 (v := .ref (a 1)) (pc := 5) hC dX8_addSwitch_5 (rfl : shR 0 = 1) 0 (by decide) wf_1553 rfl ?_
  refine xv_iconst (v := 0) (pc := 8) hC dX8_addSwitch_8 (by decide) ?_
  obtain ⟨h_2, hX⟩ := gd_some hX
  refine xl_R2 (pc := 9) hC dX8_addSwitch_9 (rfl : shR 1 = 2) h_2 ?_
  refine xv_bipush (v := 8) (pc := 10) hC dX8_addSwitch_10 (by decide) ?_
  refine xv_icmp_ne (tgt := 23) (pc := 12) hC dX8_addSwitch_12 (by decide) (fun c_3 => ?_) (fun c_3 => ?_)
  · replace hX := if_f c_3 hX
    refine xv_aload_n (pc := 23) hC dX8_addSwitch_23 0 rfl rfl ?_
    refine xv_aload_n (pc := 24) hC dX8_addSwitch_24 0 rfl rfl ?_
    obtain ⟨q_4, hq_4, hX⟩ := bnd_some hX
    refine xv_callVi0 (As := []) (pc := 25) hC (kX8_addsSwitch hl hq_4) fV_X8_addsSwitch wf_1648 (rc_X8 (rfl : shR 0 = 1)) rfl ⟨Nat.le_of_ble_eq_true rfl, Nat.le_of_ble_eq_true rfl⟩ rfl (Nat.le_of_ble_eq_true rfl) dX8_addSwitch_25 ⟨Nat.le_of_ble_eq_true rfl, Nat.le_of_ble_eq_true rfl⟩ ?_
    obtain ⟨q_5, hq_5, hX⟩ := bnd_some hX
    refine xv_callVi0 (As := [.int q_4.1]) (pc := 28) hC (kX8_commit hl hq_5) fV_X8_commit wf_1652 (rc_X8 (rfl : shR 0 = 1)) rfl ⟨Nat.le_of_ble_eq_true rfl, Nat.le_of_ble_eq_true rfl⟩ rfl (Nat.le_of_ble_eq_true rfl) dX8_addSwitch_28 ⟨Nat.le_of_ble_eq_true rfl, Nat.le_of_ble_eq_true rfl⟩ ?_
    obtain ⟨h1, h2⟩ := some_pair hX
    exact xv_eqi (W := cwR dA a) h1 h2 (hR _ _ _ _ (Nat.le_of_ble_eq_true rfl) (Nat.le_of_ble_eq_true rfl) dX8_addSwitch_31)
  · replace hX := if_t c_3 hX
    refine xv_aload_n (pc := 15) hC dX8_addSwitch_15 0 rfl rfl ?_
    refine xv_iconst (v := 1) (pc := 16) hC dX8_addSwitch_16 (by decide) ?_
    obtain ⟨q_6, hq_6, hX⟩ := bnd_some hX
    refine xv_callVi0 (As := [.int 1]) (pc := 17) hC (kX8_fail hl hq_6) fV_X8_fail wf_1644 (rc_X8 (rfl : shR 0 = 1)) rfl ⟨Nat.le_of_ble_eq_true rfl, Nat.le_of_ble_eq_true rfl⟩ rfl (Nat.le_of_ble_eq_true rfl) dX8_addSwitch_17 ⟨Nat.le_of_ble_eq_true rfl, Nat.le_of_ble_eq_true rfl⟩ ?_
    refine xv_goto (tgt := 31) (pc := 20) hC dX8_addSwitch_20 (by decide) ?_
    obtain ⟨h1, h2⟩ := some_pair hX
    exact xv_eqi (W := cwR dA a) h1 h2 (hR _ _ _ _ (Nat.le_of_ble_eq_true rfl) (Nat.le_of_ble_eq_true rfl) dX8_addSwitch_31)
def sX8_cannotLay (x1 : Int32) (x2 : Int32) (x3 : Int32) (Z : ZZ) : Option (Int32 × ZZ) :=
  bnd (sX8_isSwitch x1 Z) <| fun q_1 =>
  if q_1.1 = 0 then (
    some (1, q_1.2)) else (
    bnd (sX8_isSwitch x2 q_1.2) <| fun q_3 =>
    if q_3.1 = 0 then (
      some (1, q_3.2)) else (
      if x1 = x2 then (
        some (2, q_3.2)) else (
        bnd (sX8_in x3 1 20 q_3.2) <| fun q_6 =>
        if q_6.1 = 0 then (
          some (2, q_6.2)) else (
          gd (vin 1 180 = true) <|
          if (gI q_6.2 1 (1 : Int32).toNatClampNeg) = 16 then (
            some (3, q_6.2)) else (
            some (0, q_6.2))))))
abbrev rmX8_cannotLay : Room := { frames := 2, cells := 0, slots := 0, locals := 43 }
set_option maxHeartbeats 4000000 in
set_option maxRecDepth 100000 in
theorem kX8_cannotLay {l : Launch} {D : va_G} {dA : Nat → ClassId} {sa : String → Nat → Nat} {a : Nat → Nat} (hl : l.stackTraces = false) {x1 : Int32} {x2 : Int32} {x3 : Int32} {Z Z' : ZZ} {v : Int32} (hX : sX8_cannotLay x1 x2 x3 Z = some (v, Z')) : CTi l D dA sa yX8_cannotLay (wz yX8_cannotLay cX8_cannotLay 4 (some .int)) rmX8_cannotLay [.ref (a 0), .int x1, .int x2, .int x3] (cwR dA a Z) v (cwR dA a Z') := by
  refine xm_i hl (by decide +kernel) (Nat.le_of_ble_eq_true rfl) rfl ?_
  intro p e s m args below meth c A Q hC hR
  unfold sX8_cannotLay at hX
  show xv p l e rmX8_cannotLay s m args below meth c D A 4 Q (cwR dA a Z) 0 0 0 [(0, .ref (a 0)), (1, .int x1), (2, .int x2), (3, .int x3)] []
  refine xv_aload_n (pc := 0) hC dX8_cannotLay_0 0 rfl rfl ?_
  refine xv_iload_n (pc := 1) hC dX8_cannotLay_1 1 rfl rfl ?_
  obtain ⟨q_1, hq_1, hX⟩ := bnd_some hX
  refine xv_callVi0 (As := [.int x1]) (pc := 2) hC (kX8_isSwitch hl hq_1) fV_X8_isSwitch wf_1664 (rc_X8 (rfl : shR 0 = 1)) rfl ⟨Nat.le_of_ble_eq_true rfl, Nat.le_of_ble_eq_true rfl⟩ rfl (Nat.le_of_ble_eq_true rfl) dX8_cannotLay_2 ⟨Nat.le_of_ble_eq_true rfl, Nat.le_of_ble_eq_true rfl⟩ ?_
  refine xv_if_eq (tgt := 16) (pc := 5) hC dX8_cannotLay_5 (by decide) (fun c_2 => ?_) (fun c_2 => ?_)
  · replace hX := if_t c_2 hX
    refine xv_iconst (v := 1) (pc := 16) hC dX8_cannotLay_16 (by decide) ?_
    obtain ⟨h1, h2⟩ := some_pair hX
    exact xv_eqi (W := cwR dA a) h1 h2 (hR _ _ _ _ (Nat.le_of_ble_eq_true rfl) (Nat.le_of_ble_eq_true rfl) dX8_cannotLay_17)
  · replace hX := if_f c_2 hX
    refine xv_aload_n (pc := 8) hC dX8_cannotLay_8 0 rfl rfl ?_
    refine xv_iload_n (pc := 9) hC dX8_cannotLay_9 2 rfl rfl ?_
    obtain ⟨q_3, hq_3, hX⟩ := bnd_some hX
    refine xv_callVi0 (As := [.int x2]) (pc := 10) hC (kX8_isSwitch hl hq_3) fV_X8_isSwitch wf_1664 (rc_X8 (rfl : shR 0 = 1)) rfl ⟨Nat.le_of_ble_eq_true rfl, Nat.le_of_ble_eq_true rfl⟩ rfl (Nat.le_of_ble_eq_true rfl) dX8_cannotLay_10 ⟨Nat.le_of_ble_eq_true rfl, Nat.le_of_ble_eq_true rfl⟩ ?_
    refine xv_if_ne (tgt := 18) (pc := 13) hC dX8_cannotLay_13 (by decide) (fun c_4 => ?_) (fun c_4 => ?_)
    · replace hX := if_f c_4 hX
      refine xv_iload_n (pc := 18) hC dX8_cannotLay_18 1 rfl rfl ?_
      refine xv_iload_n (pc := 19) hC dX8_cannotLay_19 2 rfl rfl ?_
      refine xv_icmp_eq (tgt := 33) (pc := 20) hC dX8_cannotLay_20 (by decide) (fun c_5 => ?_) (fun c_5 => ?_)
      · replace hX := if_t c_5 hX
        refine xv_iconst (v := 2) (pc := 33) hC dX8_cannotLay_33 (by decide) ?_
        obtain ⟨h1, h2⟩ := some_pair hX
        exact xv_eqi (W := cwR dA a) h1 h2 (hR _ _ _ _ (Nat.le_of_ble_eq_true rfl) (Nat.le_of_ble_eq_true rfl) dX8_cannotLay_34)
      · replace hX := if_f c_5 hX
        refine xv_iload_n (pc := 23) hC dX8_cannotLay_23 3 rfl rfl ?_
        refine xv_iconst (v := 1) (pc := 24) hC dX8_cannotLay_24 (by decide) ?_
        refine xv_bipush (v := 20) (pc := 25) hC dX8_cannotLay_25 (by decide) ?_
        obtain ⟨q_6, hq_6, hX⟩ := bnd_some hX
        refine xv_callSi0 (As := [.int x3, .int 1, .int 20]) (pc := 27) hC (kX8_in hl hq_6) fS_X8_in wf_1668 rfl ⟨Nat.le_of_ble_eq_true rfl, Nat.le_of_ble_eq_true rfl⟩ rfl (Nat.le_of_ble_eq_true rfl) dX8_cannotLay_27 ⟨Nat.le_of_ble_eq_true rfl, Nat.le_of_ble_eq_true rfl⟩ ?_
        refine xv_if_ne (tgt := 35) (pc := 30) hC dX8_cannotLay_30 (by decide) (fun c_7 => ?_) (fun c_7 => ?_)
        · replace hX := if_f c_7 hX
          refine xv_aload_n (pc := 35) hC dX8_cannotLay_35 0 rfl rfl ?_
          refine xgX8 (v := .ref (a 1)) (pc := 36) hC dX8_cannotLay_36 (rfl : shR 0 = 1) 0 (by decide) wf_1553 rfl ?_
          refine xv_iconst (v := 1) (pc := 39) hC dX8_cannotLay_39 (by decide) ?_
          obtain ⟨h_8, hX⟩ := gd_some hX
          refine xl_R2 (pc := 40) hC dX8_cannotLay_40 (rfl : shR 1 = 2) h_8 ?_
          refine xv_bipush (v := 16) (pc := 41) hC dX8_cannotLay_41 (by decide) ?_
          refine xv_icmp_ne (tgt := 50) (pc := 43) hC dX8_cannotLay_43 (by decide) (fun c_9 => ?_) (fun c_9 => ?_)
          · replace hX := if_f c_9 hX
            refine xv_iconst (v := 0) (pc := 50) hC dX8_cannotLay_50 (by decide) ?_
            obtain ⟨h1, h2⟩ := some_pair hX
            exact xv_eqi (W := cwR dA a) h1 h2 (hR _ _ _ _ (Nat.le_of_ble_eq_true rfl) (Nat.le_of_ble_eq_true rfl) dX8_cannotLay_51)
          · replace hX := if_t c_9 hX
            refine xv_iconst (v := 3) (pc := 46) hC dX8_cannotLay_46 (by decide) ?_
            refine xv_goto (tgt := 51) (pc := 47) hC dX8_cannotLay_47 (by decide) ?_
            obtain ⟨h1, h2⟩ := some_pair hX
            exact xv_eqi (W := cwR dA a) h1 h2 (hR _ _ _ _ (Nat.le_of_ble_eq_true rfl) (Nat.le_of_ble_eq_true rfl) dX8_cannotLay_51)
        · replace hX := if_t c_7 hX
          refine xv_iconst (v := 2) (pc := 33) hC dX8_cannotLay_33 (by decide) ?_
          obtain ⟨h1, h2⟩ := some_pair hX
          exact xv_eqi (W := cwR dA a) h1 h2 (hR _ _ _ _ (Nat.le_of_ble_eq_true rfl) (Nat.le_of_ble_eq_true rfl) dX8_cannotLay_34)
    · replace hX := if_t c_4 hX
      refine xv_iconst (v := 1) (pc := 16) hC dX8_cannotLay_16 (by decide) ?_
      obtain ⟨h1, h2⟩ := some_pair hX
      exact xv_eqi (W := cwR dA a) h1 h2 (hR _ _ _ _ (Nat.le_of_ble_eq_true rfl) (Nat.le_of_ble_eq_true rfl) dX8_cannotLay_17)
def sX8_lays (x1 : Int32) (x2 : Int32) (x3 : Int32) (Z : ZZ) : Option (Int32 × ZZ) :=
  gd (vin 1 180 = true) <|
  nm (gI Z 1 (1 : Int32).toNatClampNeg) <| fun y_2 =>
  bnd (sX8_setTrunk y_2 0 x1 Z) <| fun q_3 =>
  bnd (sX8_setTrunk y_2 1 x2 q_3) <| fun q_4 =>
  bnd (sX8_setTrunk y_2 2 x3 q_4) <| fun q_5 =>
  bnd (sX8_setTrunk y_2 3 0 q_5) <| fun q_6 =>
  bnd (sX8_setTrunk y_2 4 0 q_6) <| fun q_7 =>
  gd (vin 1 180 = true) <|
  gd (vin 1 180 = true) <|
  nm (pI q_7 1 (1 : Int32).toNatClampNeg ((gI q_7 1 (1 : Int32).toNatClampNeg) + 1)) <| fun Z_10 =>
  some (y_2, Z_10)
abbrev rmX8_lays : Room := { frames := 1, cells := 0, slots := 0, locals := 23 }
set_option maxHeartbeats 4000000 in
set_option maxRecDepth 100000 in
theorem kX8_lays {l : Launch} {D : va_G} {dA : Nat → ClassId} {sa : String → Nat → Nat} {a : Nat → Nat} (hl : l.stackTraces = false) {x1 : Int32} {x2 : Int32} {x3 : Int32} {Z Z' : ZZ} {v : Int32} (hX : sX8_lays x1 x2 x3 Z = some (v, Z')) : CTi l D dA sa yX8_lays (wz yX8_lays cX8_lays 5 (some .int)) rmX8_lays [.ref (a 0), .int x1, .int x2, .int x3] (cwR dA a Z) v (cwR dA a Z') := by
  refine xm_i hl (by decide +kernel) (Nat.le_of_ble_eq_true rfl) rfl ?_
  intro p e s m args below meth c A Q hC hR
  unfold sX8_lays at hX
  show xv p l e rmX8_lays s m args below meth c D A 5 Q (cwR dA a Z) 0 0 0 [(0, .ref (a 0)), (1, .int x1), (2, .int x2), (3, .int x3)] []
  refine xv_aload_n (pc := 0) hC dX8_lays_0 0 rfl rfl ?_
  refine xgX8 (v := .ref (a 1)) (pc := 1) hC dX8_lays_1 (rfl : shR 0 = 1) 0 (by decide) wf_1553 rfl ?_
  refine xv_iconst (v := 1) (pc := 4) hC dX8_lays_4 (by decide) ?_
  obtain ⟨h_1, hX⟩ := gd_some hX
  refine xl_R2 (pc := 5) hC dX8_lays_5 (rfl : shR 1 = 2) h_1 ?_
  obtain ⟨y_2, hy_2, hX⟩ := nm_some hX
  refine xv_nmi hy_2 ?_
  refine xv_istore (pc := 6) (lv' := [(4, .int y_2), (0, .ref (a 0)), (1, .int x1), (2, .int x2), (3, .int x3)]) hC dX8_lays_6 (by decide) rfl ?_
  refine xv_aload_n (pc := 8) hC dX8_lays_8 1 rfl rfl ?_
  refine xv_iload (pc := 9) hC dX8_lays_9 0 rfl ?_
  refine xv_iconst (v := 0) (pc := 11) hC dX8_lays_11 (by decide) ?_
  refine xv_iload_n (pc := 12) hC dX8_lays_12 2 rfl rfl ?_
  obtain ⟨q_3, hq_3, hX⟩ := bnd_some hX
  refine xv_callVv0 (As := [.int y_2, .int 0, .int x1]) (pc := 13) hC (kX8_setTrunk hl hq_3) fV_X8_setTrunk wf_1675 (rc_X8 (rfl : shR 0 = 1)) rfl ⟨Nat.le_of_ble_eq_true rfl, Nat.le_of_ble_eq_true rfl⟩ rfl (Nat.le_of_ble_eq_true rfl) dX8_lays_13 ⟨Nat.le_of_ble_eq_true rfl, Nat.le_of_ble_eq_true rfl⟩ ?_
  refine xv_aload_n (pc := 16) hC dX8_lays_16 1 rfl rfl ?_
  refine xv_iload (pc := 17) hC dX8_lays_17 0 rfl ?_
  refine xv_iconst (v := 1) (pc := 19) hC dX8_lays_19 (by decide) ?_
  refine xv_iload_n (pc := 20) hC dX8_lays_20 3 rfl rfl ?_
  obtain ⟨q_4, hq_4, hX⟩ := bnd_some hX
  refine xv_callVv0 (As := [.int y_2, .int 1, .int x2]) (pc := 21) hC (kX8_setTrunk hl hq_4) fV_X8_setTrunk wf_1675 (rc_X8 (rfl : shR 0 = 1)) rfl ⟨Nat.le_of_ble_eq_true rfl, Nat.le_of_ble_eq_true rfl⟩ rfl (Nat.le_of_ble_eq_true rfl) dX8_lays_21 ⟨Nat.le_of_ble_eq_true rfl, Nat.le_of_ble_eq_true rfl⟩ ?_
  refine xv_aload_n (pc := 24) hC dX8_lays_24 1 rfl rfl ?_
  refine xv_iload (pc := 25) hC dX8_lays_25 0 rfl ?_
  refine xv_iconst (v := 2) (pc := 27) hC dX8_lays_27 (by decide) ?_
  refine xv_iload_n (pc := 28) hC dX8_lays_28 4 rfl rfl ?_
  obtain ⟨q_5, hq_5, hX⟩ := bnd_some hX
  refine xv_callVv0 (As := [.int y_2, .int 2, .int x3]) (pc := 29) hC (kX8_setTrunk hl hq_5) fV_X8_setTrunk wf_1675 (rc_X8 (rfl : shR 0 = 1)) rfl ⟨Nat.le_of_ble_eq_true rfl, Nat.le_of_ble_eq_true rfl⟩ rfl (Nat.le_of_ble_eq_true rfl) dX8_lays_29 ⟨Nat.le_of_ble_eq_true rfl, Nat.le_of_ble_eq_true rfl⟩ ?_
  refine xv_aload_n (pc := 32) hC dX8_lays_32 1 rfl rfl ?_
  refine xv_iload (pc := 33) hC dX8_lays_33 0 rfl ?_
  refine xv_iconst (v := 3) (pc := 35) hC dX8_lays_35 (by decide) ?_
  refine xv_iconst (v := 0) (pc := 36) hC dX8_lays_36 (by decide) ?_
  obtain ⟨q_6, hq_6, hX⟩ := bnd_some hX
  refine xv_callVv0 (As := [.int y_2, .int 3, .int 0]) (pc := 37) hC (kX8_setTrunk hl hq_6) fV_X8_setTrunk wf_1675 (rc_X8 (rfl : shR 0 = 1)) rfl ⟨Nat.le_of_ble_eq_true rfl, Nat.le_of_ble_eq_true rfl⟩ rfl (Nat.le_of_ble_eq_true rfl) dX8_lays_37 ⟨Nat.le_of_ble_eq_true rfl, Nat.le_of_ble_eq_true rfl⟩ ?_
  refine xv_aload_n (pc := 40) hC dX8_lays_40 1 rfl rfl ?_
  refine xv_iload (pc := 41) hC dX8_lays_41 0 rfl ?_
  refine xv_iconst (v := 4) (pc := 43) hC dX8_lays_43 (by decide) ?_
  refine xv_iconst (v := 0) (pc := 44) hC dX8_lays_44 (by decide) ?_
  obtain ⟨q_7, hq_7, hX⟩ := bnd_some hX
  refine xv_callVv0 (As := [.int y_2, .int 4, .int 0]) (pc := 45) hC (kX8_setTrunk hl hq_7) fV_X8_setTrunk wf_1675 (rc_X8 (rfl : shR 0 = 1)) rfl ⟨Nat.le_of_ble_eq_true rfl, Nat.le_of_ble_eq_true rfl⟩ rfl (Nat.le_of_ble_eq_true rfl) dX8_lays_45 ⟨Nat.le_of_ble_eq_true rfl, Nat.le_of_ble_eq_true rfl⟩ ?_
  refine xv_aload_n (pc := 48) hC dX8_lays_48 1 rfl rfl ?_
  refine xgX8 (v := .ref (a 1)) (pc := 49) hC dX8_lays_49 (rfl : shR 0 = 1) 0 (by decide) wf_1553 rfl ?_
  refine xv_iconst (v := 1) (pc := 52) hC dX8_lays_52 (by decide) ?_
  refine xv_dup2 (pc := 53) hC dX8_lays_53 rfl rfl ?_
  obtain ⟨h_8, hX⟩ := gd_some hX
  refine xl_R2 (pc := 54) hC dX8_lays_54 (rfl : shR 1 = 2) h_8 ?_
  refine xv_iconst (v := 1) (pc := 55) hC dX8_lays_55 (by decide) ?_
  refine xv_iadd (pc := 56) hC dX8_lays_56 ?_
  obtain ⟨h_9, hX⟩ := gd_some hX
  obtain ⟨Z_10, hZ_10, hX⟩ := nm_some hX
  refine xs_R2 (pc := 57) hC dX8_lays_57 (rfl : shR 1 = 2) h_9 hZ_10 ?_
  refine xv_iload (pc := 58) hC dX8_lays_58 0 rfl ?_
  obtain ⟨h1, h2⟩ := some_pair hX
  exact xv_eqi (W := cwR dA a) h1 h2 (hR _ _ _ _ (Nat.le_of_ble_eq_true rfl) (Nat.le_of_ble_eq_true rfl) dX8_lays_60)
def sX8_addTrunk (x1 : Int32) (x2 : Int32) (x3 : Int32) (Z : ZZ) : Option (Int32 × ZZ) :=
  bnd (sX8_begin Z) <| fun q_1 =>
  bnd (sX8_cannotLay x1 x2 x3 q_1) <| fun q_2 =>
  nm (q_2.1) <| fun y_3 =>
  if y_3 ≤ 0 then (
    bnd (sX8_lays x1 x2 x3 q_2.2) <| fun q_5 =>
    bnd (sX8_commit q_5.1 q_5.2) <| fun q_6 =>
    some (q_6.1, q_6.2)) else (
    bnd (sX8_fail y_3 q_2.2) <| fun q_7 =>
    some (q_7.1, q_7.2))
abbrev rmX8_addTrunk : Room := { frames := 3, cells := 0, slots := 0, locals := 66 }
set_option maxHeartbeats 4000000 in
set_option maxRecDepth 100000 in
theorem kX8_addTrunk {l : Launch} {D : va_G} {dA : Nat → ClassId} {sa : String → Nat → Nat} {a : Nat → Nat} (hl : l.stackTraces = false) {x1 : Int32} {x2 : Int32} {x3 : Int32} {Z Z' : ZZ} {v : Int32} (hX : sX8_addTrunk x1 x2 x3 Z = some (v, Z')) : CTi l D dA sa yX8_addTrunk (wz yX8_addTrunk cX8_addTrunk 5 (some .int)) rmX8_addTrunk [.ref (a 0), .int x1, .int x2, .int x3] (cwR dA a Z) v (cwR dA a Z') := by
  refine xm_i hl (by decide +kernel) (Nat.le_of_ble_eq_true rfl) rfl ?_
  intro p e s m args below meth c A Q hC hR
  unfold sX8_addTrunk at hX
  show xv p l e rmX8_addTrunk s m args below meth c D A 5 Q (cwR dA a Z) 0 0 0 [(0, .ref (a 0)), (1, .int x1), (2, .int x2), (3, .int x3)] []
  refine xv_aload_n (pc := 0) hC dX8_addTrunk_0 0 rfl rfl ?_
  obtain ⟨q_1, hq_1, hX⟩ := bnd_some hX
  refine xv_callVv0 (As := []) (pc := 1) hC (kX8_begin hl hq_1) fV_X8_begin wf_1637 (rc_X8 (rfl : shR 0 = 1)) rfl ⟨Nat.le_of_ble_eq_true rfl, Nat.le_of_ble_eq_true rfl⟩ rfl (Nat.le_of_ble_eq_true rfl) dX8_addTrunk_1 ⟨Nat.le_of_ble_eq_true rfl, Nat.le_of_ble_eq_true rfl⟩ ?_
  refine xv_aload_n (pc := 4) hC dX8_addTrunk_4 0 rfl rfl ?_
  refine xv_iload_n (pc := 5) hC dX8_addTrunk_5 1 rfl rfl ?_
  refine xv_iload_n (pc := 6) hC dX8_addTrunk_6 2 rfl rfl ?_
  refine xv_iload_n (pc := 7) hC dX8_addTrunk_7 3 rfl rfl ?_
  obtain ⟨q_2, hq_2, hX⟩ := bnd_some hX
  refine xv_callVi0 (As := [.int x1, .int x2, .int x3]) (pc := 8) hC (kX8_cannotLay hl hq_2) fV_X8_cannotLay wf_1660 (rc_X8 (rfl : shR 0 = 1)) rfl ⟨Nat.le_of_ble_eq_true rfl, Nat.le_of_ble_eq_true rfl⟩ rfl (Nat.le_of_ble_eq_true rfl) dX8_addTrunk_8 ⟨Nat.le_of_ble_eq_true rfl, Nat.le_of_ble_eq_true rfl⟩ ?_
  obtain ⟨y_3, hy_3, hX⟩ := nm_some hX
  refine xv_nmi hy_3 ?_
  refine xv_istore (pc := 11) (lv' := [(4, .int y_3), (0, .ref (a 0)), (1, .int x1), (2, .int x2), (3, .int x3)]) hC dX8_addTrunk_11 (by decide) rfl ?_
  refine xv_iload (pc := 13) hC dX8_addTrunk_13 0 rfl ?_
  refine xv_if_le (tgt := 27) (pc := 15) hC dX8_addTrunk_15 (by decide) (fun c_4 => ?_) (fun c_4 => ?_)
  · replace hX := if_t c_4 hX
    refine xv_aload_n (pc := 27) hC dX8_addTrunk_27 1 rfl rfl ?_
    refine xv_aload_n (pc := 28) hC dX8_addTrunk_28 1 rfl rfl ?_
    refine xv_iload_n (pc := 29) hC dX8_addTrunk_29 2 rfl rfl ?_
    refine xv_iload_n (pc := 30) hC dX8_addTrunk_30 3 rfl rfl ?_
    refine xv_iload_n (pc := 31) hC dX8_addTrunk_31 4 rfl rfl ?_
    obtain ⟨q_5, hq_5, hX⟩ := bnd_some hX
    refine xv_callVi0 (As := [.int x1, .int x2, .int x3]) (pc := 32) hC (kX8_lays hl hq_5) fV_X8_lays wf_1671 (rc_X8 (rfl : shR 0 = 1)) rfl ⟨Nat.le_of_ble_eq_true rfl, Nat.le_of_ble_eq_true rfl⟩ rfl (Nat.le_of_ble_eq_true rfl) dX8_addTrunk_32 ⟨Nat.le_of_ble_eq_true rfl, Nat.le_of_ble_eq_true rfl⟩ ?_
    obtain ⟨q_6, hq_6, hX⟩ := bnd_some hX
    refine xv_callVi0 (As := [.int q_5.1]) (pc := 35) hC (kX8_commit hl hq_6) fV_X8_commit wf_1652 (rc_X8 (rfl : shR 0 = 1)) rfl ⟨Nat.le_of_ble_eq_true rfl, Nat.le_of_ble_eq_true rfl⟩ rfl (Nat.le_of_ble_eq_true rfl) dX8_addTrunk_35 ⟨Nat.le_of_ble_eq_true rfl, Nat.le_of_ble_eq_true rfl⟩ ?_
    obtain ⟨h1, h2⟩ := some_pair hX
    exact xv_eqi (W := cwR dA a) h1 h2 (hR _ _ _ _ (Nat.le_of_ble_eq_true rfl) (Nat.le_of_ble_eq_true rfl) dX8_addTrunk_38)
  · replace hX := if_f c_4 hX
    refine xv_aload_n (pc := 18) hC dX8_addTrunk_18 1 rfl rfl ?_
    refine xv_iload (pc := 19) hC dX8_addTrunk_19 0 rfl ?_
    obtain ⟨q_7, hq_7, hX⟩ := bnd_some hX
    refine xv_callVi0 (As := [.int y_3]) (pc := 21) hC (kX8_fail hl hq_7) fV_X8_fail wf_1644 (rc_X8 (rfl : shR 0 = 1)) rfl ⟨Nat.le_of_ble_eq_true rfl, Nat.le_of_ble_eq_true rfl⟩ rfl (Nat.le_of_ble_eq_true rfl) dX8_addTrunk_21 ⟨Nat.le_of_ble_eq_true rfl, Nat.le_of_ble_eq_true rfl⟩ ?_
    refine xv_goto (tgt := 38) (pc := 24) hC dX8_addTrunk_24 (by decide) ?_
    obtain ⟨h1, h2⟩ := some_pair hX
    exact xv_eqi (W := cwR dA a) h1 h2 (hR _ _ _ _ (Nat.le_of_ble_eq_true rfl) (Nat.le_of_ble_eq_true rfl) dX8_addTrunk_38)
def sX8_cannotJoin (x1 : Int32) (x2 : Int32) (Z : ZZ) : Option (Int32 × ZZ) :=
  bnd (sX8_isSwitch x1 Z) <| fun q_1 =>
  if q_1.1 = 0 then (
    some (1, q_1.2)) else (
    bnd (sX8_in x2 0 2 q_1.2) <| fun q_3 =>
    if q_3.1 = 0 then (
      some (2, q_3.2)) else (
      gd (vin 2 180 = true) <|
      if (gI q_3.2 1 (2 : Int32).toNatClampNeg) = 10 then (
        some (3, q_3.2)) else (
        some (0, q_3.2))))
abbrev rmX8_cannotJoin : Room := { frames := 2, cells := 0, slots := 0, locals := 43 }
set_option maxHeartbeats 4000000 in
set_option maxRecDepth 100000 in
theorem kX8_cannotJoin {l : Launch} {D : va_G} {dA : Nat → ClassId} {sa : String → Nat → Nat} {a : Nat → Nat} (hl : l.stackTraces = false) {x1 : Int32} {x2 : Int32} {Z Z' : ZZ} {v : Int32} (hX : sX8_cannotJoin x1 x2 Z = some (v, Z')) : CTi l D dA sa yX8_cannotJoin (wz yX8_cannotJoin cX8_cannotJoin 3 (some .int)) rmX8_cannotJoin [.ref (a 0), .int x1, .int x2] (cwR dA a Z) v (cwR dA a Z') := by
  refine xm_i hl (by decide +kernel) (Nat.le_of_ble_eq_true rfl) rfl ?_
  intro p e s m args below meth c A Q hC hR
  unfold sX8_cannotJoin at hX
  show xv p l e rmX8_cannotJoin s m args below meth c D A 3 Q (cwR dA a Z) 0 0 0 [(0, .ref (a 0)), (1, .int x1), (2, .int x2)] []
  refine xv_aload_n (pc := 0) hC dX8_cannotJoin_0 0 rfl rfl ?_
  refine xv_iload_n (pc := 1) hC dX8_cannotJoin_1 1 rfl rfl ?_
  obtain ⟨q_1, hq_1, hX⟩ := bnd_some hX
  refine xv_callVi0 (As := [.int x1]) (pc := 2) hC (kX8_isSwitch hl hq_1) fV_X8_isSwitch wf_1664 (rc_X8 (rfl : shR 0 = 1)) rfl ⟨Nat.le_of_ble_eq_true rfl, Nat.le_of_ble_eq_true rfl⟩ rfl (Nat.le_of_ble_eq_true rfl) dX8_cannotJoin_2 ⟨Nat.le_of_ble_eq_true rfl, Nat.le_of_ble_eq_true rfl⟩ ?_
  refine xv_if_ne (tgt := 12) (pc := 5) hC dX8_cannotJoin_5 (by decide) (fun c_2 => ?_) (fun c_2 => ?_)
  · replace hX := if_f c_2 hX
    refine xv_iload_n (pc := 12) hC dX8_cannotJoin_12 2 rfl rfl ?_
    refine xv_iconst (v := 0) (pc := 13) hC dX8_cannotJoin_13 (by decide) ?_
    refine xv_iconst (v := 2) (pc := 14) hC dX8_cannotJoin_14 (by decide) ?_
    obtain ⟨q_3, hq_3, hX⟩ := bnd_some hX
    refine xv_callSi0 (As := [.int x2, .int 0, .int 2]) (pc := 15) hC (kX8_in hl hq_3) fS_X8_in wf_1668 rfl ⟨Nat.le_of_ble_eq_true rfl, Nat.le_of_ble_eq_true rfl⟩ rfl (Nat.le_of_ble_eq_true rfl) dX8_cannotJoin_15 ⟨Nat.le_of_ble_eq_true rfl, Nat.le_of_ble_eq_true rfl⟩ ?_
    refine xv_if_ne (tgt := 25) (pc := 18) hC dX8_cannotJoin_18 (by decide) (fun c_4 => ?_) (fun c_4 => ?_)
    · replace hX := if_f c_4 hX
      refine xv_aload_n (pc := 25) hC dX8_cannotJoin_25 0 rfl rfl ?_
      refine xgX8 (v := .ref (a 1)) (pc := 26) hC dX8_cannotJoin_26 (rfl : shR 0 = 1) 0 (by decide) wf_1553 rfl ?_
      refine xv_iconst (v := 2) (pc := 29) hC dX8_cannotJoin_29 (by decide) ?_
      obtain ⟨h_5, hX⟩ := gd_some hX
      refine xl_R2 (pc := 30) hC dX8_cannotJoin_30 (rfl : shR 1 = 2) h_5 ?_
      refine xv_bipush (v := 10) (pc := 31) hC dX8_cannotJoin_31 (by decide) ?_
      refine xv_icmp_ne (tgt := 40) (pc := 33) hC dX8_cannotJoin_33 (by decide) (fun c_6 => ?_) (fun c_6 => ?_)
      · replace hX := if_f c_6 hX
        refine xv_iconst (v := 0) (pc := 40) hC dX8_cannotJoin_40 (by decide) ?_
        obtain ⟨h1, h2⟩ := some_pair hX
        exact xv_eqi (W := cwR dA a) h1 h2 (hR _ _ _ _ (Nat.le_of_ble_eq_true rfl) (Nat.le_of_ble_eq_true rfl) dX8_cannotJoin_41)
      · replace hX := if_t c_6 hX
        refine xv_iconst (v := 3) (pc := 36) hC dX8_cannotJoin_36 (by decide) ?_
        refine xv_goto (tgt := 41) (pc := 37) hC dX8_cannotJoin_37 (by decide) ?_
        obtain ⟨h1, h2⟩ := some_pair hX
        exact xv_eqi (W := cwR dA a) h1 h2 (hR _ _ _ _ (Nat.le_of_ble_eq_true rfl) (Nat.le_of_ble_eq_true rfl) dX8_cannotJoin_41)
    · replace hX := if_t c_4 hX
      refine xv_iconst (v := 2) (pc := 21) hC dX8_cannotJoin_21 (by decide) ?_
      refine xv_goto (tgt := 41) (pc := 22) hC dX8_cannotJoin_22 (by decide) ?_
      obtain ⟨h1, h2⟩ := some_pair hX
      exact xv_eqi (W := cwR dA a) h1 h2 (hR _ _ _ _ (Nat.le_of_ble_eq_true rfl) (Nat.le_of_ble_eq_true rfl) dX8_cannotJoin_41)
  · replace hX := if_t c_2 hX
    refine xv_iconst (v := 1) (pc := 8) hC dX8_cannotJoin_8 (by decide) ?_
    refine xv_goto (tgt := 41) (pc := 9) hC dX8_cannotJoin_9 (by decide) ?_
    obtain ⟨h1, h2⟩ := some_pair hX
    exact xv_eqi (W := cwR dA a) h1 h2 (hR _ _ _ _ (Nat.le_of_ble_eq_true rfl) (Nat.le_of_ble_eq_true rfl) dX8_cannotJoin_41)
def sX8_joins (x1 : Int32) (x2 : Int32) (Z : ZZ) : Option (Int32 × ZZ) :=
  gd (vin 2 180 = true) <|
  nm (gI Z 1 (2 : Int32).toNatClampNeg) <| fun y_2 =>
  gd (vin ((88 + (3 * y_2)) + 0) 180 = true) <|
  nm (pI Z 1 ((88 + (3 * y_2)) + 0).toNatClampNeg x1) <| fun Z_4 =>
  gd (vin ((88 + (3 * y_2)) + 1) 180 = true) <|
  nm (pI Z_4 1 ((88 + (3 * y_2)) + 1).toNatClampNeg x2) <| fun Z_6 =>
  gd (vin ((88 + (3 * y_2)) + 2) 180 = true) <|
  nm (pI Z_6 1 ((88 + (3 * y_2)) + 2).toNatClampNeg 0) <| fun Z_8 =>
  gd (vin 2 180 = true) <|
  gd (vin 2 180 = true) <|
  nm (pI Z_8 1 (2 : Int32).toNatClampNeg ((gI Z_8 1 (2 : Int32).toNatClampNeg) + 1)) <| fun Z_11 =>
  some (y_2, Z_11)
abbrev rmX8_joins : Room := { frames := 0, cells := 0, slots := 0, locals := 0 }
set_option maxHeartbeats 4000000 in
set_option maxRecDepth 100000 in
theorem kX8_joins {l : Launch} {D : va_G} {dA : Nat → ClassId} {sa : String → Nat → Nat} {a : Nat → Nat} (hl : l.stackTraces = false) {x1 : Int32} {x2 : Int32} {Z Z' : ZZ} {v : Int32} (hX : sX8_joins x1 x2 Z = some (v, Z')) : CTi l D dA sa yX8_joins (wz yX8_joins cX8_joins 4 (some .int)) rmX8_joins [.ref (a 0), .int x1, .int x2] (cwR dA a Z) v (cwR dA a Z') := by
  refine xm_i hl (by decide +kernel) (Nat.le_of_ble_eq_true rfl) rfl ?_
  intro p e s m args below meth c A Q hC hR
  unfold sX8_joins at hX
  show xv p l e rmX8_joins s m args below meth c D A 4 Q (cwR dA a Z) 0 0 0 [(0, .ref (a 0)), (1, .int x1), (2, .int x2)] []
  refine xv_aload_n (pc := 0) hC dX8_joins_0 0 rfl rfl ?_
  refine xgX8 (v := .ref (a 1)) (pc := 1) hC dX8_joins_1 (rfl : shR 0 = 1) 0 (by decide) wf_1553 rfl ?_
  refine xv_iconst (v := 2) (pc := 4) hC dX8_joins_4 (by decide) ?_
  obtain ⟨h_1, hX⟩ := gd_some hX
  refine xl_R2 (pc := 5) hC dX8_joins_5 (rfl : shR 1 = 2) h_1 ?_
  obtain ⟨y_2, hy_2, hX⟩ := nm_some hX
  refine xv_nmi hy_2 ?_
  refine xv_istore_n (pc := 6) (lv' := [(3, .int y_2), (0, .ref (a 0)), (1, .int x1), (2, .int x2)]) hC dX8_joins_6 rfl (by decide) rfl ?_
  refine xv_aload_n (pc := 7) hC dX8_joins_7 1 rfl rfl ?_
  refine xgX8 (v := .ref (a 1)) (pc := 8) hC dX8_joins_8 (rfl : shR 0 = 1) 0 (by decide) wf_1553 rfl ?_
  refine xv_bipush (v := 88) (pc := 11) hC dX8_joins_11 (by decide) ?_
  refine xv_iconst (v := 3) (pc := 13) hC dX8_joins_13 (by decide) ?_
  refine xv_iload_n (pc := 14) hC dX8_joins_14 0 rfl rfl ?_
  refine xv_imul (pc := 15) hC dX8_joins_15 ?_
  refine xv_iadd (pc := 16) hC dX8_joins_16 ?_
  refine xv_iconst (v := 0) (pc := 17) hC dX8_joins_17 (by decide) ?_
  refine xv_iadd (pc := 18) hC dX8_joins_18 ?_
  refine xv_iload_n (pc := 19) hC dX8_joins_19 2 rfl rfl ?_
  obtain ⟨h_3, hX⟩ := gd_some hX
  obtain ⟨Z_4, hZ_4, hX⟩ := nm_some hX
  refine xs_R2 (pc := 20) hC dX8_joins_20 (rfl : shR 1 = 2) h_3 hZ_4 ?_
  refine xv_aload_n (pc := 21) hC dX8_joins_21 1 rfl rfl ?_
  refine xgX8 (v := .ref (a 1)) (pc := 22) hC dX8_joins_22 (rfl : shR 0 = 1) 0 (by decide) wf_1553 rfl ?_
  refine xv_bipush (v := 88) (pc := 25) hC dX8_joins_25 (by decide) ?_
  refine xv_iconst (v := 3) (pc := 27) hC dX8_joins_27 (by decide) ?_
  refine xv_iload_n (pc := 28) hC dX8_joins_28 0 rfl rfl ?_
  refine xv_imul (pc := 29) hC dX8_joins_29 ?_
  refine xv_iadd (pc := 30) hC dX8_joins_30 ?_
  refine xv_iconst (v := 1) (pc := 31) hC dX8_joins_31 (by decide) ?_
  refine xv_iadd (pc := 32) hC dX8_joins_32 ?_
  refine xv_iload_n (pc := 33) hC dX8_joins_33 3 rfl rfl ?_
  obtain ⟨h_5, hX⟩ := gd_some hX
  obtain ⟨Z_6, hZ_6, hX⟩ := nm_some hX
  refine xs_R2 (pc := 34) hC dX8_joins_34 (rfl : shR 1 = 2) h_5 hZ_6 ?_
  refine xv_aload_n (pc := 35) hC dX8_joins_35 1 rfl rfl ?_
  refine xgX8 (v := .ref (a 1)) (pc := 36) hC dX8_joins_36 (rfl : shR 0 = 1) 0 (by decide) wf_1553 rfl ?_
  refine xv_bipush (v := 88) (pc := 39) hC dX8_joins_39 (by decide) ?_
  refine xv_iconst (v := 3) (pc := 41) hC dX8_joins_41 (by decide) ?_
  refine xv_iload_n (pc := 42) hC dX8_joins_42 0 rfl rfl ?_
  refine xv_imul (pc := 43) hC dX8_joins_43 ?_
  refine xv_iadd (pc := 44) hC dX8_joins_44 ?_
  refine xv_iconst (v := 2) (pc := 45) hC dX8_joins_45 (by decide) ?_
  refine xv_iadd (pc := 46) hC dX8_joins_46 ?_
  refine xv_iconst (v := 0) (pc := 47) hC dX8_joins_47 (by decide) ?_
  obtain ⟨h_7, hX⟩ := gd_some hX
  obtain ⟨Z_8, hZ_8, hX⟩ := nm_some hX
  refine xs_R2 (pc := 48) hC dX8_joins_48 (rfl : shR 1 = 2) h_7 hZ_8 ?_
  refine xv_aload_n (pc := 49) hC dX8_joins_49 1 rfl rfl ?_
  refine xgX8 (v := .ref (a 1)) (pc := 50) hC dX8_joins_50 (rfl : shR 0 = 1) 0 (by decide) wf_1553 rfl ?_
  refine xv_iconst (v := 2) (pc := 53) hC dX8_joins_53 (by decide) ?_
  refine xv_dup2 (pc := 54) hC dX8_joins_54 rfl rfl ?_
  obtain ⟨h_9, hX⟩ := gd_some hX
  refine xl_R2 (pc := 55) hC dX8_joins_55 (rfl : shR 1 = 2) h_9 ?_
  refine xv_iconst (v := 1) (pc := 56) hC dX8_joins_56 (by decide) ?_
  refine xv_iadd (pc := 57) hC dX8_joins_57 ?_
  obtain ⟨h_10, hX⟩ := gd_some hX
  obtain ⟨Z_11, hZ_11, hX⟩ := nm_some hX
  refine xs_R2 (pc := 58) hC dX8_joins_58 (rfl : shR 1 = 2) h_10 hZ_11 ?_
  refine xv_iload_n (pc := 59) hC dX8_joins_59 0 rfl rfl ?_
  obtain ⟨h1, h2⟩ := some_pair hX
  exact xv_eqi (W := cwR dA a) h1 h2 (hR _ _ _ _ (Nat.le_of_ble_eq_true rfl) (Nat.le_of_ble_eq_true rfl) dX8_joins_60)
def sX8_addSubscriber (x1 : Int32) (x2 : Int32) (Z : ZZ) : Option (Int32 × ZZ) :=
  bnd (sX8_begin Z) <| fun q_1 =>
  bnd (sX8_cannotJoin x1 x2 q_1) <| fun q_2 =>
  nm (q_2.1) <| fun y_3 =>
  if y_3 ≤ 0 then (
    bnd (sX8_joins x1 x2 q_2.2) <| fun q_5 =>
    bnd (sX8_commit q_5.1 q_5.2) <| fun q_6 =>
    some (q_6.1, q_6.2)) else (
    bnd (sX8_fail y_3 q_2.2) <| fun q_7 =>
    some (q_7.1, q_7.2))
abbrev rmX8_addSubscriber : Room := { frames := 3, cells := 0, slots := 0, locals := 65 }
set_option maxHeartbeats 4000000 in
set_option maxRecDepth 100000 in
theorem kX8_addSubscriber {l : Launch} {D : va_G} {dA : Nat → ClassId} {sa : String → Nat → Nat} {a : Nat → Nat} (hl : l.stackTraces = false) {x1 : Int32} {x2 : Int32} {Z Z' : ZZ} {v : Int32} (hX : sX8_addSubscriber x1 x2 Z = some (v, Z')) : CTi l D dA sa yX8_addSubscriber (wz yX8_addSubscriber cX8_addSubscriber 4 (some .int)) rmX8_addSubscriber [.ref (a 0), .int x1, .int x2] (cwR dA a Z) v (cwR dA a Z') := by
  refine xm_i hl (by decide +kernel) (Nat.le_of_ble_eq_true rfl) rfl ?_
  intro p e s m args below meth c A Q hC hR
  unfold sX8_addSubscriber at hX
  show xv p l e rmX8_addSubscriber s m args below meth c D A 4 Q (cwR dA a Z) 0 0 0 [(0, .ref (a 0)), (1, .int x1), (2, .int x2)] []
  refine xv_aload_n (pc := 0) hC dX8_addSubscriber_0 0 rfl rfl ?_
  obtain ⟨q_1, hq_1, hX⟩ := bnd_some hX
  refine xv_callVv0 (As := []) (pc := 1) hC (kX8_begin hl hq_1) fV_X8_begin wf_1637 (rc_X8 (rfl : shR 0 = 1)) rfl ⟨Nat.le_of_ble_eq_true rfl, Nat.le_of_ble_eq_true rfl⟩ rfl (Nat.le_of_ble_eq_true rfl) dX8_addSubscriber_1 ⟨Nat.le_of_ble_eq_true rfl, Nat.le_of_ble_eq_true rfl⟩ ?_
  refine xv_aload_n (pc := 4) hC dX8_addSubscriber_4 0 rfl rfl ?_
  refine xv_iload_n (pc := 5) hC dX8_addSubscriber_5 1 rfl rfl ?_
  refine xv_iload_n (pc := 6) hC dX8_addSubscriber_6 2 rfl rfl ?_
  obtain ⟨q_2, hq_2, hX⟩ := bnd_some hX
  refine xv_callVi0 (As := [.int x1, .int x2]) (pc := 7) hC (kX8_cannotJoin hl hq_2) fV_X8_cannotJoin wf_1683 (rc_X8 (rfl : shR 0 = 1)) rfl ⟨Nat.le_of_ble_eq_true rfl, Nat.le_of_ble_eq_true rfl⟩ rfl (Nat.le_of_ble_eq_true rfl) dX8_addSubscriber_7 ⟨Nat.le_of_ble_eq_true rfl, Nat.le_of_ble_eq_true rfl⟩ ?_
  obtain ⟨y_3, hy_3, hX⟩ := nm_some hX
  refine xv_nmi hy_3 ?_
  refine xv_istore_n (pc := 10) (lv' := [(3, .int y_3), (0, .ref (a 0)), (1, .int x1), (2, .int x2)]) hC dX8_addSubscriber_10 rfl (by decide) rfl ?_
  refine xv_iload_n (pc := 11) hC dX8_addSubscriber_11 0 rfl rfl ?_
  refine xv_if_le (tgt := 23) (pc := 12) hC dX8_addSubscriber_12 (by decide) (fun c_4 => ?_) (fun c_4 => ?_)
  · replace hX := if_t c_4 hX
    refine xv_aload_n (pc := 23) hC dX8_addSubscriber_23 1 rfl rfl ?_
    refine xv_aload_n (pc := 24) hC dX8_addSubscriber_24 1 rfl rfl ?_
    refine xv_iload_n (pc := 25) hC dX8_addSubscriber_25 2 rfl rfl ?_
    refine xv_iload_n (pc := 26) hC dX8_addSubscriber_26 3 rfl rfl ?_
    obtain ⟨q_5, hq_5, hX⟩ := bnd_some hX
    refine xv_callVi0 (As := [.int x1, .int x2]) (pc := 27) hC (kX8_joins hl hq_5) fV_X8_joins wf_1687 (rc_X8 (rfl : shR 0 = 1)) rfl ⟨Nat.le_of_ble_eq_true rfl, Nat.le_of_ble_eq_true rfl⟩ rfl (Nat.le_of_ble_eq_true rfl) dX8_addSubscriber_27 ⟨Nat.le_of_ble_eq_true rfl, Nat.le_of_ble_eq_true rfl⟩ ?_
    obtain ⟨q_6, hq_6, hX⟩ := bnd_some hX
    refine xv_callVi0 (As := [.int q_5.1]) (pc := 30) hC (kX8_commit hl hq_6) fV_X8_commit wf_1652 (rc_X8 (rfl : shR 0 = 1)) rfl ⟨Nat.le_of_ble_eq_true rfl, Nat.le_of_ble_eq_true rfl⟩ rfl (Nat.le_of_ble_eq_true rfl) dX8_addSubscriber_30 ⟨Nat.le_of_ble_eq_true rfl, Nat.le_of_ble_eq_true rfl⟩ ?_
    obtain ⟨h1, h2⟩ := some_pair hX
    exact xv_eqi (W := cwR dA a) h1 h2 (hR _ _ _ _ (Nat.le_of_ble_eq_true rfl) (Nat.le_of_ble_eq_true rfl) dX8_addSubscriber_33)
  · replace hX := if_f c_4 hX
    refine xv_aload_n (pc := 15) hC dX8_addSubscriber_15 1 rfl rfl ?_
    refine xv_iload_n (pc := 16) hC dX8_addSubscriber_16 0 rfl rfl ?_
    obtain ⟨q_7, hq_7, hX⟩ := bnd_some hX
    refine xv_callVi0 (As := [.int y_3]) (pc := 17) hC (kX8_fail hl hq_7) fV_X8_fail wf_1644 (rc_X8 (rfl : shR 0 = 1)) rfl ⟨Nat.le_of_ble_eq_true rfl, Nat.le_of_ble_eq_true rfl⟩ rfl (Nat.le_of_ble_eq_true rfl) dX8_addSubscriber_17 ⟨Nat.le_of_ble_eq_true rfl, Nat.le_of_ble_eq_true rfl⟩ ?_
    refine xv_goto (tgt := 33) (pc := 20) hC dX8_addSubscriber_20 (by decide) ?_
    obtain ⟨h1, h2⟩ := some_pair hX
    exact xv_eqi (W := cwR dA a) h1 h2 (hR _ _ _ _ (Nat.le_of_ble_eq_true rfl) (Nat.le_of_ble_eq_true rfl) dX8_addSubscriber_33)
def sX8_isFree (x1 : Int32) (x2 : Int32) (Z : ZZ) : Option (Int32 × ZZ) :=
  bnd (sX8_callOn x1 Z) <| fun q_1 =>
  nm (q_1.1) <| fun y_2 =>
  bnd (sX8_t x1 3 q_1.2) <| fun q_3 =>
  if q_3.1 = 0 then (
    if y_2 = (-1) then (
      some (1, q_3.2)) else (
      if y_2 = x2 then (
        some (1, q_3.2)) else (
        some (0, q_3.2)))) else (
    some (0, q_3.2))
abbrev rmX8_isFree : Room := { frames := 3, cells := 0, slots := 0, locals := 67 }
set_option maxHeartbeats 4000000 in
set_option maxRecDepth 100000 in
theorem kX8_isFree {l : Launch} {D : va_G} {dA : Nat → ClassId} {sa : String → Nat → Nat} {a : Nat → Nat} (hl : l.stackTraces = false) {x1 : Int32} {x2 : Int32} {Z Z' : ZZ} {v : Int32} (hX : sX8_isFree x1 x2 Z = some (v, Z')) : CTi l D dA sa yX8_isFree (wz yX8_isFree cX8_isFree 4 (some .boolean)) rmX8_isFree [.ref (a 0), .int x1, .int x2] (cwR dA a Z) v (cwR dA a Z') := by
  refine xm_z hl (by decide +kernel) (Nat.le_of_ble_eq_true rfl) rfl ?_
  intro p e s m args below meth c A Q hC hR
  unfold sX8_isFree at hX
  show xv p l e rmX8_isFree s m args below meth c D A 4 Q (cwR dA a Z) 0 0 0 [(0, .ref (a 0)), (1, .int x1), (2, .int x2)] []
  refine xv_aload_n (pc := 0) hC dX8_isFree_0 0 rfl rfl ?_
  refine xv_iload_n (pc := 1) hC dX8_isFree_1 1 rfl rfl ?_
  obtain ⟨q_1, hq_1, hX⟩ := bnd_some hX
  refine xv_callVi0 (As := [.int x1]) (pc := 2) hC (kX8_callOn hl hq_1) fV_X8_callOn wf_1711 (rc_X8 (rfl : shR 0 = 1)) rfl ⟨Nat.le_of_ble_eq_true rfl, Nat.le_of_ble_eq_true rfl⟩ rfl (Nat.le_of_ble_eq_true rfl) dX8_isFree_2 ⟨Nat.le_of_ble_eq_true rfl, Nat.le_of_ble_eq_true rfl⟩ ?_
  obtain ⟨y_2, hy_2, hX⟩ := nm_some hX
  refine xv_nmi hy_2 ?_
  refine xv_istore_n (pc := 5) (lv' := [(3, .int y_2), (0, .ref (a 0)), (1, .int x1), (2, .int x2)]) hC dX8_isFree_5 rfl (by decide) rfl ?_
  refine xv_aload_n (pc := 6) hC dX8_isFree_6 1 rfl rfl ?_
  refine xv_iload_n (pc := 7) hC dX8_isFree_7 2 rfl rfl ?_
  refine xv_iconst (v := 3) (pc := 8) hC dX8_isFree_8 (by decide) ?_
  obtain ⟨q_3, hq_3, hX⟩ := bnd_some hX
  refine xv_callVi0 (As := [.int x1, .int 3]) (pc := 9) hC (kX8_t hl hq_3) fV_X8_t wf_1703 (rc_X8 (rfl : shR 0 = 1)) rfl ⟨Nat.le_of_ble_eq_true rfl, Nat.le_of_ble_eq_true rfl⟩ rfl (Nat.le_of_ble_eq_true rfl) dX8_isFree_9 ⟨Nat.le_of_ble_eq_true rfl, Nat.le_of_ble_eq_true rfl⟩ ?_
  refine xv_if_ne (tgt := 29) (pc := 12) hC dX8_isFree_12 (by decide) (fun c_4 => ?_) (fun c_4 => ?_)
  · replace hX := if_f c_4 hX
    refine xv_iconst (v := 0) (pc := 29) hC dX8_isFree_29 (by decide) ?_
    obtain ⟨h1, h2⟩ := some_pair hX
    exact xv_eqi (W := cwR dA a) h1 h2 (hR _ _ _ _ (by rw [← h1]; exact (by decide)) (Nat.le_of_ble_eq_true rfl) (Nat.le_of_ble_eq_true rfl) dX8_isFree_30)
  · replace hX := if_t c_4 hX
    refine xv_iload_n (pc := 15) hC dX8_isFree_15 0 rfl rfl ?_
    refine xv_iconst (v := (-1)) (pc := 16) hC dX8_isFree_16 (by decide) ?_
    refine xv_icmp_eq (tgt := 25) (pc := 17) hC dX8_isFree_17 (by decide) (fun c_5 => ?_) (fun c_5 => ?_)
    · replace hX := if_t c_5 hX
      refine xv_iconst (v := 1) (pc := 25) hC dX8_isFree_25 (by decide) ?_
      refine xv_goto (tgt := 30) (pc := 26) hC dX8_isFree_26 (by decide) ?_
      obtain ⟨h1, h2⟩ := some_pair hX
      exact xv_eqi (W := cwR dA a) h1 h2 (hR _ _ _ _ (by rw [← h1]; exact (by decide)) (Nat.le_of_ble_eq_true rfl) (Nat.le_of_ble_eq_true rfl) dX8_isFree_30)
    · replace hX := if_f c_5 hX
      refine xv_iload_n (pc := 20) hC dX8_isFree_20 0 rfl rfl ?_
      refine xv_iload_n (pc := 21) hC dX8_isFree_21 3 rfl rfl ?_
      refine xv_icmp_ne (tgt := 29) (pc := 22) hC dX8_isFree_22 (by decide) (fun c_6 => ?_) (fun c_6 => ?_)
      · replace hX := if_f c_6 hX
        refine xv_iconst (v := 0) (pc := 29) hC dX8_isFree_29 (by decide) ?_
        obtain ⟨h1, h2⟩ := some_pair hX
        exact xv_eqi (W := cwR dA a) h1 h2 (hR _ _ _ _ (by rw [← h1]; exact (by decide)) (Nat.le_of_ble_eq_true rfl) (Nat.le_of_ble_eq_true rfl) dX8_isFree_30)
      · replace hX := if_t c_6 hX
        refine xv_iconst (v := 1) (pc := 25) hC dX8_isFree_25 (by decide) ?_
        refine xv_goto (tgt := 30) (pc := 26) hC dX8_isFree_26 (by decide) ?_
        obtain ⟨h1, h2⟩ := some_pair hX
        exact xv_eqi (W := cwR dA a) h1 h2 (hR _ _ _ _ (by rw [← h1]; exact (by decide)) (Nat.le_of_ble_eq_true rfl) (Nat.le_of_ble_eq_true rfl) dX8_isFree_30)
def sX8_touches (x1 : Int32) (x2 : Int32) (Z : ZZ) : Option (Int32 × ZZ) :=
  bnd (sX8_t x1 0 Z) <| fun q_1 =>
  if q_1.1 = x2 then (
    some (1, q_1.2)) else (
    bnd (sX8_t x1 1 q_1.2) <| fun q_3 =>
    if q_3.1 = x2 then (
      some (1, q_3.2)) else (
      some (0, q_3.2)))
abbrev rmX8_touches : Room := { frames := 1, cells := 0, slots := 0, locals := 22 }
set_option maxHeartbeats 4000000 in
set_option maxRecDepth 100000 in
theorem kX8_touches {l : Launch} {D : va_G} {dA : Nat → ClassId} {sa : String → Nat → Nat} {a : Nat → Nat} (hl : l.stackTraces = false) {x1 : Int32} {x2 : Int32} {Z Z' : ZZ} {v : Int32} (hX : sX8_touches x1 x2 Z = some (v, Z')) : CTi l D dA sa yX8_touches (wz yX8_touches cX8_touches 3 (some .boolean)) rmX8_touches [.ref (a 0), .int x1, .int x2] (cwR dA a Z) v (cwR dA a Z') := by
  refine xm_z hl (by decide +kernel) (Nat.le_of_ble_eq_true rfl) rfl ?_
  intro p e s m args below meth c A Q hC hR
  unfold sX8_touches at hX
  show xv p l e rmX8_touches s m args below meth c D A 3 Q (cwR dA a Z) 0 0 0 [(0, .ref (a 0)), (1, .int x1), (2, .int x2)] []
  refine xv_aload_n (pc := 0) hC dX8_touches_0 0 rfl rfl ?_
  refine xv_iload_n (pc := 1) hC dX8_touches_1 1 rfl rfl ?_
  refine xv_iconst (v := 0) (pc := 2) hC dX8_touches_2 (by decide) ?_
  obtain ⟨q_1, hq_1, hX⟩ := bnd_some hX
  refine xv_callVi0 (As := [.int x1, .int 0]) (pc := 3) hC (kX8_t hl hq_1) fV_X8_t wf_1703 (rc_X8 (rfl : shR 0 = 1)) rfl ⟨Nat.le_of_ble_eq_true rfl, Nat.le_of_ble_eq_true rfl⟩ rfl (Nat.le_of_ble_eq_true rfl) dX8_touches_3 ⟨Nat.le_of_ble_eq_true rfl, Nat.le_of_ble_eq_true rfl⟩ ?_
  refine xv_iload_n (pc := 6) hC dX8_touches_6 2 rfl rfl ?_
  refine xv_icmp_eq (tgt := 20) (pc := 7) hC dX8_touches_7 (by decide) (fun c_2 => ?_) (fun c_2 => ?_)
  · replace hX := if_t c_2 hX
    refine xv_iconst (v := 1) (pc := 20) hC dX8_touches_20 (by decide) ?_
    refine xv_goto (tgt := 25) (pc := 21) hC dX8_touches_21 (by decide) ?_
    obtain ⟨h1, h2⟩ := some_pair hX
    exact xv_eqi (W := cwR dA a) h1 h2 (hR _ _ _ _ (by rw [← h1]; exact (by decide)) (Nat.le_of_ble_eq_true rfl) (Nat.le_of_ble_eq_true rfl) dX8_touches_25)
  · replace hX := if_f c_2 hX
    refine xv_aload_n (pc := 10) hC dX8_touches_10 0 rfl rfl ?_
    refine xv_iload_n (pc := 11) hC dX8_touches_11 1 rfl rfl ?_
    refine xv_iconst (v := 1) (pc := 12) hC dX8_touches_12 (by decide) ?_
    obtain ⟨q_3, hq_3, hX⟩ := bnd_some hX
    refine xv_callVi0 (As := [.int x1, .int 1]) (pc := 13) hC (kX8_t hl hq_3) fV_X8_t wf_1703 (rc_X8 (rfl : shR 0 = 1)) rfl ⟨Nat.le_of_ble_eq_true rfl, Nat.le_of_ble_eq_true rfl⟩ rfl (Nat.le_of_ble_eq_true rfl) dX8_touches_13 ⟨Nat.le_of_ble_eq_true rfl, Nat.le_of_ble_eq_true rfl⟩ ?_
    refine xv_iload_n (pc := 16) hC dX8_touches_16 2 rfl rfl ?_
    refine xv_icmp_ne (tgt := 24) (pc := 17) hC dX8_touches_17 (by decide) (fun c_4 => ?_) (fun c_4 => ?_)
    · replace hX := if_f c_4 hX
      refine xv_iconst (v := 0) (pc := 24) hC dX8_touches_24 (by decide) ?_
      obtain ⟨h1, h2⟩ := some_pair hX
      exact xv_eqi (W := cwR dA a) h1 h2 (hR _ _ _ _ (by rw [← h1]; exact (by decide)) (Nat.le_of_ble_eq_true rfl) (Nat.le_of_ble_eq_true rfl) dX8_touches_25)
    · replace hX := if_t c_4 hX
      refine xv_iconst (v := 1) (pc := 20) hC dX8_touches_20 (by decide) ?_
      refine xv_goto (tgt := 25) (pc := 21) hC dX8_touches_21 (by decide) ?_
      obtain ⟨h1, h2⟩ := some_pair hX
      exact xv_eqi (W := cwR dA a) h1 h2 (hR _ _ _ _ (by rw [← h1]; exact (by decide)) (Nat.le_of_ble_eq_true rfl) (Nat.le_of_ble_eq_true rfl) dX8_touches_25)
def sX8_beyond (x1 : Int32) (x2 : Int32) (Z : ZZ) : Option (Int32 × ZZ) :=
  bnd (sX8_t x1 0 Z) <| fun q_1 =>
  bnd (sX8_t x1 1 q_1.2) <| fun q_2 =>
  some ((q_1.1 + q_2.1) - x2, q_2.2)
abbrev rmX8_beyond : Room := { frames := 1, cells := 0, slots := 0, locals := 22 }
set_option maxHeartbeats 4000000 in
set_option maxRecDepth 100000 in
theorem kX8_beyond {l : Launch} {D : va_G} {dA : Nat → ClassId} {sa : String → Nat → Nat} {a : Nat → Nat} (hl : l.stackTraces = false) {x1 : Int32} {x2 : Int32} {Z Z' : ZZ} {v : Int32} (hX : sX8_beyond x1 x2 Z = some (v, Z')) : CTi l D dA sa yX8_beyond (wz yX8_beyond cX8_beyond 3 (some .int)) rmX8_beyond [.ref (a 0), .int x1, .int x2] (cwR dA a Z) v (cwR dA a Z') := by
  refine xm_i hl (by decide +kernel) (Nat.le_of_ble_eq_true rfl) rfl ?_
  intro p e s m args below meth c A Q hC hR
  unfold sX8_beyond at hX
  show xv p l e rmX8_beyond s m args below meth c D A 3 Q (cwR dA a Z) 0 0 0 [(0, .ref (a 0)), (1, .int x1), (2, .int x2)] []
  refine xv_aload_n (pc := 0) hC dX8_beyond_0 0 rfl rfl ?_
  refine xv_iload_n (pc := 1) hC dX8_beyond_1 1 rfl rfl ?_
  refine xv_iconst (v := 0) (pc := 2) hC dX8_beyond_2 (by decide) ?_
  obtain ⟨q_1, hq_1, hX⟩ := bnd_some hX
  refine xv_callVi0 (As := [.int x1, .int 0]) (pc := 3) hC (kX8_t hl hq_1) fV_X8_t wf_1703 (rc_X8 (rfl : shR 0 = 1)) rfl ⟨Nat.le_of_ble_eq_true rfl, Nat.le_of_ble_eq_true rfl⟩ rfl (Nat.le_of_ble_eq_true rfl) dX8_beyond_3 ⟨Nat.le_of_ble_eq_true rfl, Nat.le_of_ble_eq_true rfl⟩ ?_
  refine xv_aload_n (pc := 6) hC dX8_beyond_6 0 rfl rfl ?_
  refine xv_iload_n (pc := 7) hC dX8_beyond_7 1 rfl rfl ?_
  refine xv_iconst (v := 1) (pc := 8) hC dX8_beyond_8 (by decide) ?_
  obtain ⟨q_2, hq_2, hX⟩ := bnd_some hX
  refine xv_callVi0 (As := [.int x1, .int 1]) (pc := 9) hC (kX8_t hl hq_2) fV_X8_t wf_1703 (rc_X8 (rfl : shR 0 = 1)) rfl ⟨Nat.le_of_ble_eq_true rfl, Nat.le_of_ble_eq_true rfl⟩ rfl (Nat.le_of_ble_eq_true rfl) dX8_beyond_9 ⟨Nat.le_of_ble_eq_true rfl, Nat.le_of_ble_eq_true rfl⟩ ?_
  refine xv_iadd (pc := 12) hC dX8_beyond_12 ?_
  refine xv_iload_n (pc := 13) hC dX8_beyond_13 2 rfl rfl ?_
  refine xv_isub (pc := 14) hC dX8_beyond_14 ?_
  obtain ⟨h1, h2⟩ := some_pair hX
  exact xv_eqi (W := cwR dA a) h1 h2 (hR _ _ _ _ (Nat.le_of_ble_eq_true rfl) (Nat.le_of_ble_eq_true rfl) dX8_beyond_15)
def sX8_nears_B78 (x1 : Int32) (x2 : Int32) (y4 : Int32) (y5 : Int32) (Z : ZZ) : Option (ZZ) :=
  gd (vin x2 8 = true) <|
  nm (pI Z 6 x2.toNatClampNeg y4) <| fun Z_2 =>
  gd (vin x2 8 = true) <|
  nm (pI Z_2 7 x2.toNatClampNeg y5) <| fun Z_4 =>
  some Z_4
def sX8_nears (x1 : Int32) (x2 : Int32) (Z : ZZ) : Option (ZZ) :=
  bnd (sX8_beyond x1 x2 Z) <| fun q_5 =>
  nm (q_5.1) <| fun y_6 =>
  gd (vin y_6 8 = true) <|
  bnd (sX8_t x1 2 q_5.2) <| fun q_8 =>
  nm ((gI q_5.2 6 y_6.toNatClampNeg) + q_8.1) <| fun y_9 =>
  gd (vin y_6 8 = true) <|
  nm ((gI q_8.2 7 y_6.toNatClampNeg) + 1) <| fun y_11 =>
  gd (vin y_6 8 = true) <|
  if (gI q_8.2 6 y_6.toNatClampNeg) = 9999 then (
    some q_8.2) else (
    gd (vin x2 8 = true) <|
    if (gI q_8.2 6 x2.toNatClampNeg) < y_9 then (
      some q_8.2) else (
      gd (vin x2 8 = true) <|
      if y_9 = (gI q_8.2 6 x2.toNatClampNeg) then (
        gd (vin x2 8 = true) <|
        if y_11 < (gI q_8.2 7 x2.toNatClampNeg) then (
          sX8_nears_B78 x1 x2 y_9 y_11 q_8.2) else (
          some q_8.2)) else (
        sX8_nears_B78 x1 x2 y_9 y_11 q_8.2)))
abbrev rmX8_nears : Room := { frames := 2, cells := 0, slots := 0, locals := 44 }
set_option maxHeartbeats 4000000 in
set_option maxRecDepth 100000 in
theorem kX8_nears {l : Launch} {D : va_G} {dA : Nat → ClassId} {sa : String → Nat → Nat} {a : Nat → Nat} (hl : l.stackTraces = false) {x1 : Int32} {x2 : Int32} {Z Z' : ZZ} (hX : sX8_nears x1 x2 Z = some Z') : CTv l D dA sa yX8_nears (wz yX8_nears cX8_nears 6 none) rmX8_nears [.ref (a 0), .int x1, .int x2] (cwR dA a Z) (cwR dA a Z') := by
  refine xm_v hl (by decide +kernel) (Nat.le_of_ble_eq_true rfl) rfl ?_
  intro p e s m args below meth c A Q hC hR
  unfold sX8_nears at hX
  have v78 : ∀ (y4 : Int32) (y5 : Int32) (Z : ZZ), sX8_nears_B78 x1 x2 y4 y5 Z = some Z' → xv p l e rmX8_nears s m args below meth c D A 6 Q (cwR dA a Z) 0 0 78 [(0, .ref (a 0)), (1, .int x1), (2, .int x2), (4, .int y4), (5, .int y5)] [] := by
    intro y4 y5 Z hX
    unfold sX8_nears_B78 at hX
    refine xv_aload_n (pc := 78) hC dX8_nears_78 0 rfl rfl ?_
    refine xgX8 (v := .ref (a 6)) (pc := 79) hC dX8_nears_79 (rfl : shR 0 = 1) 5 (by decide) wf_1558 rfl ?_
    refine xv_iload_n (pc := 82) hC dX8_nears_82 2 rfl rfl ?_
    refine xv_iload (pc := 83) hC dX8_nears_83 3 rfl ?_
    obtain ⟨h_1, hX⟩ := gd_some hX
    obtain ⟨Z_2, hZ_2, hX⟩ := nm_some hX
    refine xs_R5 (pc := 85) hC dX8_nears_85 (rfl : shR 6 = 5) h_1 hZ_2 ?_
    refine xv_aload_n (pc := 86) hC dX8_nears_86 0 rfl rfl ?_
    refine xgX8 (v := .ref (a 7)) (pc := 87) hC dX8_nears_87 (rfl : shR 0 = 1) 6 (by decide) wf_1559 rfl ?_
    refine xv_iload_n (pc := 90) hC dX8_nears_90 2 rfl rfl ?_
    refine xv_iload (pc := 91) hC dX8_nears_91 4 rfl ?_
    obtain ⟨h_3, hX⟩ := gd_some hX
    obtain ⟨Z_4, hZ_4, hX⟩ := nm_some hX
    refine xs_R5 (pc := 93) hC dX8_nears_93 (rfl : shR 7 = 5) h_3 hZ_4 ?_
    exact xv_eqw (W := cwR dA a) (Option.some.inj hX) (hR _ _ _ _ (Nat.le_of_ble_eq_true rfl) (Nat.le_of_ble_eq_true rfl) dX8_nears_94)
  show xv p l e rmX8_nears s m args below meth c D A 6 Q (cwR dA a Z) 0 0 0 [(0, .ref (a 0)), (1, .int x1), (2, .int x2)] []
  refine xv_aload_n (pc := 0) hC dX8_nears_0 0 rfl rfl ?_
  refine xv_iload_n (pc := 1) hC dX8_nears_1 1 rfl rfl ?_
  refine xv_iload_n (pc := 2) hC dX8_nears_2 2 rfl rfl ?_
  obtain ⟨q_5, hq_5, hX⟩ := bnd_some hX
  refine xv_callVi0 (As := [.int x1, .int x2]) (pc := 3) hC (kX8_beyond hl hq_5) fV_X8_beyond wf_1743 (rc_X8 (rfl : shR 0 = 1)) rfl ⟨Nat.le_of_ble_eq_true rfl, Nat.le_of_ble_eq_true rfl⟩ rfl (Nat.le_of_ble_eq_true rfl) dX8_nears_3 ⟨Nat.le_of_ble_eq_true rfl, Nat.le_of_ble_eq_true rfl⟩ ?_
  obtain ⟨y_6, hy_6, hX⟩ := nm_some hX
  refine xv_nmi hy_6 ?_
  refine xv_istore_n (pc := 6) (lv' := [(3, .int y_6), (0, .ref (a 0)), (1, .int x1), (2, .int x2)]) hC dX8_nears_6 rfl (by decide) rfl ?_
  refine xv_aload_n (pc := 7) hC dX8_nears_7 1 rfl rfl ?_
  refine xgX8 (v := .ref (a 6)) (pc := 8) hC dX8_nears_8 (rfl : shR 0 = 1) 5 (by decide) wf_1558 rfl ?_
  refine xv_iload_n (pc := 11) hC dX8_nears_11 0 rfl rfl ?_
  obtain ⟨h_7, hX⟩ := gd_some hX
  refine xl_R5 (pc := 12) hC dX8_nears_12 (rfl : shR 6 = 5) h_7 ?_
  refine xv_aload_n (pc := 13) hC dX8_nears_13 1 rfl rfl ?_
  refine xv_iload_n (pc := 14) hC dX8_nears_14 2 rfl rfl ?_
  refine xv_iconst (v := 2) (pc := 15) hC dX8_nears_15 (by decide) ?_
  obtain ⟨q_8, hq_8, hX⟩ := bnd_some hX
  refine xv_callVi0 (As := [.int x1, .int 2]) (pc := 16) hC (kX8_t hl hq_8) fV_X8_t wf_1703 (rc_X8 (rfl : shR 0 = 1)) rfl ⟨Nat.le_of_ble_eq_true rfl, Nat.le_of_ble_eq_true rfl⟩ rfl (Nat.le_of_ble_eq_true rfl) dX8_nears_16 ⟨Nat.le_of_ble_eq_true rfl, Nat.le_of_ble_eq_true rfl⟩ ?_
  refine xv_iadd (pc := 19) hC dX8_nears_19 ?_
  obtain ⟨y_9, hy_9, hX⟩ := nm_some hX
  refine xv_nmi hy_9 ?_
  refine xv_istore (pc := 20) (lv' := [(4, .int y_9), (3, .int y_6), (0, .ref (a 0)), (1, .int x1), (2, .int x2)]) hC dX8_nears_20 (by decide) rfl ?_
  refine xv_aload_n (pc := 22) hC dX8_nears_22 2 rfl rfl ?_
  refine xgX8 (v := .ref (a 7)) (pc := 23) hC dX8_nears_23 (rfl : shR 0 = 1) 6 (by decide) wf_1559 rfl ?_
  refine xv_iload_n (pc := 26) hC dX8_nears_26 1 rfl rfl ?_
  obtain ⟨h_10, hX⟩ := gd_some hX
  refine xl_R5 (pc := 27) hC dX8_nears_27 (rfl : shR 7 = 5) h_10 ?_
  refine xv_iconst (v := 1) (pc := 28) hC dX8_nears_28 (by decide) ?_
  refine xv_iadd (pc := 29) hC dX8_nears_29 ?_
  obtain ⟨y_11, hy_11, hX⟩ := nm_some hX
  refine xv_nmi hy_11 ?_
  refine xv_istore (pc := 30) (lv' := [(5, .int y_11), (4, .int y_9), (3, .int y_6), (0, .ref (a 0)), (1, .int x1), (2, .int x2)]) hC dX8_nears_30 (by decide) rfl ?_
  refine xv_aload_n (pc := 32) hC dX8_nears_32 3 rfl rfl ?_
  refine xgX8 (v := .ref (a 6)) (pc := 33) hC dX8_nears_33 (rfl : shR 0 = 1) 5 (by decide) wf_1558 rfl ?_
  refine xv_iload_n (pc := 36) hC dX8_nears_36 2 rfl rfl ?_
  obtain ⟨h_12, hX⟩ := gd_some hX
  refine xl_R5 (pc := 37) hC dX8_nears_37 (rfl : shR 6 = 5) h_12 ?_
  refine xv_sipush (v := 9999) (pc := 38) hC dX8_nears_38 (by decide) ?_
  refine xv_icmp_eq (tgt := 77) (pc := 41) hC dX8_nears_41 (by decide) (fun c_13 => ?_) (fun c_13 => ?_)
  · replace hX := if_t c_13 hX
    exact xv_eqw (W := cwR dA a) (Option.some.inj hX) (hR _ _ _ _ (Nat.le_of_ble_eq_true rfl) (Nat.le_of_ble_eq_true rfl) dX8_nears_77)
  · replace hX := if_f c_13 hX
    refine xv_iload (pc := 44) hC dX8_nears_44 1 rfl ?_
    refine xv_aload_n (pc := 46) hC dX8_nears_46 3 rfl rfl ?_
    refine xgX8 (v := .ref (a 6)) (pc := 47) hC dX8_nears_47 (rfl : shR 0 = 1) 5 (by decide) wf_1558 rfl ?_
    refine xv_iload_n (pc := 50) hC dX8_nears_50 5 rfl rfl ?_
    obtain ⟨h_14, hX⟩ := gd_some hX
    refine xl_R5 (pc := 51) hC dX8_nears_51 (rfl : shR 6 = 5) h_14 ?_
    refine xv_icmp_gt (tgt := 77) (pc := 52) hC dX8_nears_52 (by decide) (fun c_15 => ?_) (fun c_15 => ?_)
    · replace hX := if_t c_15 hX
      exact xv_eqw (W := cwR dA a) (Option.some.inj hX) (hR _ _ _ _ (Nat.le_of_ble_eq_true rfl) (Nat.le_of_ble_eq_true rfl) dX8_nears_77)
    · replace hX := if_f c_15 hX
      refine xv_iload (pc := 55) hC dX8_nears_55 1 rfl ?_
      refine xv_aload_n (pc := 57) hC dX8_nears_57 3 rfl rfl ?_
      refine xgX8 (v := .ref (a 6)) (pc := 58) hC dX8_nears_58 (rfl : shR 0 = 1) 5 (by decide) wf_1558 rfl ?_
      refine xv_iload_n (pc := 61) hC dX8_nears_61 5 rfl rfl ?_
      obtain ⟨h_16, hX⟩ := gd_some hX
      refine xl_R5 (pc := 62) hC dX8_nears_62 (rfl : shR 6 = 5) h_16 ?_
      refine xv_icmp_ne (tgt := 78) (pc := 63) hC dX8_nears_63 (by decide) (fun c_17 => ?_) (fun c_17 => ?_)
      · replace hX := if_f c_17 hX
        refine xv_sub (lv' := [(0, .ref (a 0)), (1, .int x1), (2, .int x2), (4, .int y_9), (5, .int y_11)]) [3, 4, 5, 1, 0] rfl ?_
        exact v78 y_9 y_11 q_8.2 hX
      · replace hX := if_t c_17 hX
        refine xv_iload (pc := 66) hC dX8_nears_66 0 rfl ?_
        refine xv_aload_n (pc := 68) hC dX8_nears_68 3 rfl rfl ?_
        refine xgX8 (v := .ref (a 7)) (pc := 69) hC dX8_nears_69 (rfl : shR 0 = 1) 6 (by decide) wf_1559 rfl ?_
        refine xv_iload_n (pc := 72) hC dX8_nears_72 5 rfl rfl ?_
        obtain ⟨h_18, hX⟩ := gd_some hX
        refine xl_R5 (pc := 73) hC dX8_nears_73 (rfl : shR 7 = 5) h_18 ?_
        refine xv_icmp_lt (tgt := 78) (pc := 74) hC dX8_nears_74 (by decide) (fun c_19 => ?_) (fun c_19 => ?_)
        · replace hX := if_t c_19 hX
          refine xv_sub (lv' := [(0, .ref (a 0)), (1, .int x1), (2, .int x2), (4, .int y_9), (5, .int y_11)]) [3, 4, 5, 1, 0] rfl ?_
          exact v78 y_9 y_11 q_8.2 hX
        · replace hX := if_f c_19 hX
          exact xv_eqw (W := cwR dA a) (Option.some.inj hX) (hR _ _ _ _ (Nat.le_of_ble_eq_true rfl) (Nat.le_of_ble_eq_true rfl) dX8_nears_77)
def sX8_measures_L48 (x1 : Int32) (x2 : Int32) (k39 : Int32 → ZZ → Option (ZZ)) : Nat → Int32 → Int32 → ZZ → Option (ZZ)
  | 0, _, _, _ => none
  | n + 1, y3, y4, Z =>
  gd (vin 1 180 = true) <|
  if (gI Z 1 (1 : Int32).toNatClampNeg) ≤ y4 then (
    nm (y3 + 1) <| fun y_3 =>
    k39 y_3 Z) else (
    bnd (sX8_isFree y4 x2 Z) <| fun q_4 =>
    if q_4.1 = 0 then (
      nm (y4 + 1) <| fun y_11 =>
      sX8_measures_L48 x1 x2 k39 n y3 y_11 q_4.2) else (
      bnd (sX8_t y4 0 q_4.2) <| fun q_6 =>
      bnd (sX8_nears y4 q_6.1 q_6.2) <| fun q_7 =>
      bnd (sX8_t y4 1 q_7) <| fun q_8 =>
      bnd (sX8_nears y4 q_8.1 q_8.2) <| fun q_9 =>
      nm (y4 + 1) <| fun y_10 =>
      sX8_measures_L48 x1 x2 k39 n y3 y_10 q_9))
def sX8_measures_L39 (x1 : Int32) (x2 : Int32) : Nat → Int32 → ZZ → Option (ZZ)
  | 0, _, _ => none
  | n + 1, y3, Z =>
  if (8 : Int32) ≤ y3 then (
    some Z) else (
    sX8_measures_L48 x1 x2 (fun y3 Z => sX8_measures_L39 x1 x2 n y3 Z) 3000 y3 0 Z)
def sX8_measures_B30 (x1 : Int32) (x2 : Int32) (Z : ZZ) : Option (ZZ) :=
  gd (vin x1 8 = true) <|
  nm (pI Z 6 x1.toNatClampNeg 0) <| fun Z_14 =>
  sX8_measures_L39 x1 x2 3000 0 Z_14
def sX8_measures_L2 (x1 : Int32) (x2 : Int32) : Nat → Int32 → ZZ → Option (ZZ)
  | 0, _, _ => none
  | n + 1, y3, Z =>
  if (8 : Int32) ≤ y3 then (
    sX8_measures_B30 x1 x2 Z) else (
    gd (vin y3 8 = true) <|
    nm (pI Z 6 y3.toNatClampNeg 9999) <| fun Z_17 =>
    gd (vin y3 8 = true) <|
    nm (pI Z_17 7 y3.toNatClampNeg 0) <| fun Z_19 =>
    nm (y3 + 1) <| fun y_20 =>
    sX8_measures_L2 x1 x2 n y_20 Z_19)
def sX8_measures (x1 : Int32) (x2 : Int32) (Z : ZZ) : Option (ZZ) :=
  sX8_measures_L2 x1 x2 3000 0 Z
abbrev rmX8_measures : Room := { frames := 4, cells := 0, slots := 0, locals := 90 }
set_option maxHeartbeats 4000000 in
set_option maxRecDepth 100000 in
theorem kX8_measures {l : Launch} {D : va_G} {dA : Nat → ClassId} {sa : String → Nat → Nat} {a : Nat → Nat} (hl : l.stackTraces = false) {x1 : Int32} {x2 : Int32} {Z Z' : ZZ} (hX : sX8_measures x1 x2 Z = some Z') : CTv l D dA sa yX8_measures (wz yX8_measures cX8_measures 5 none) rmX8_measures [.ref (a 0), .int x1, .int x2] (cwR dA a Z) (cwR dA a Z') := by
  refine xm_v hl (by decide +kernel) (Nat.le_of_ble_eq_true rfl) rfl ?_
  intro p e s m args below meth c A Q hC hR
  unfold sX8_measures at hX
  have v48 : ∀ (k39 : Int32 → ZZ → Option (ZZ)) (hk39 : ∀ (y3 : Int32) (Z : ZZ), k39 y3 Z = some Z' → xv p l e rmX8_measures s m args below meth c D A 5 Q (cwR dA a Z) 0 0 39 [(0, .ref (a 0)), (1, .int x1), (2, .int x2), (3, .int y3)] []) (n : Nat) (y3 : Int32) (y4 : Int32) (Z : ZZ), sX8_measures_L48 x1 x2 k39 n y3 y4 Z = some Z' → xv p l e rmX8_measures s m args below meth c D A 5 Q (cwR dA a Z) 0 0 48 [(0, .ref (a 0)), (1, .int x1), (2, .int x2), (3, .int y3), (4, .int y4)] [] := by
    intro k39 hk39 n
    induction n with
    | zero =>
      intro y3 y4 Z hX
      exact absurd hX (by simp [sX8_measures_L48])
    | succ n ih =>
      intro y3 y4 Z hX
      rw [sX8_measures_L48] at hX
      refine xv_iload (pc := 48) hC dX8_measures_48 4 rfl ?_
      refine xv_aload_n (pc := 50) hC dX8_measures_50 0 rfl rfl ?_
      refine xgX8 (v := .ref (a 1)) (pc := 51) hC dX8_measures_51 (rfl : shR 0 = 1) 0 (by decide) wf_1553 rfl ?_
      refine xv_iconst (v := 1) (pc := 54) hC dX8_measures_54 (by decide) ?_
      obtain ⟨h_1, hX⟩ := gd_some hX
      refine xl_R2 (pc := 55) hC dX8_measures_55 (rfl : shR 1 = 2) h_1 ?_
      refine xv_icmp_ge (tgt := 104) (pc := 56) hC dX8_measures_56 (by decide) (fun c_2 => ?_) (fun c_2 => ?_)
      · replace hX := if_t c_2 hX
        obtain ⟨y_3, hy_3, hX⟩ := nm_some hX
        refine xv_iinc (pc := 104) (v := y_3) (lv' := [(3, .int y_3), (0, .ref (a 0)), (1, .int x1), (2, .int x2), (4, .int y4)]) hC dX8_measures_104 3 rfl (by rw [hy_3]; rfl) (by decide) rfl ?_
        refine xv_goto (tgt := 39) (pc := 107) hC dX8_measures_107 (by decide) ?_
        refine xv_sub (lv' := [(0, .ref (a 0)), (1, .int x1), (2, .int x2), (3, .int y_3)]) [1, 2, 3, 0] rfl ?_
        exact hk39 y_3 Z hX
      · replace hX := if_f c_2 hX
        refine xv_aload_n (pc := 59) hC dX8_measures_59 0 rfl rfl ?_
        refine xv_iload (pc := 60) hC dX8_measures_60 4 rfl ?_
        refine xv_iload_n (pc := 62) hC dX8_measures_62 2 rfl rfl ?_
        obtain ⟨q_4, hq_4, hX⟩ := bnd_some hX
        refine xv_callVi0 (As := [.int y4, .int x2]) (pc := 63) hC (kX8_isFree hl hq_4) fV_X8_isFree wf_1735 (rc_X8 (rfl : shR 0 = 1)) rfl ⟨Nat.le_of_ble_eq_true rfl, Nat.le_of_ble_eq_true rfl⟩ rfl (Nat.le_of_ble_eq_true rfl) dX8_measures_63 ⟨Nat.le_of_ble_eq_true rfl, Nat.le_of_ble_eq_true rfl⟩ ?_
        refine xv_if_ne (tgt := 72) (pc := 66) hC dX8_measures_66 (by decide) (fun c_5 => ?_) (fun c_5 => ?_)
        · replace hX := if_f c_5 hX
          refine xv_aload_n (pc := 72) hC dX8_measures_72 0 rfl rfl ?_
          refine xv_iload (pc := 73) hC dX8_measures_73 4 rfl ?_
          refine xv_aload_n (pc := 75) hC dX8_measures_75 0 rfl rfl ?_
          refine xv_iload (pc := 76) hC dX8_measures_76 4 rfl ?_
          refine xv_iconst (v := 0) (pc := 78) hC dX8_measures_78 (by decide) ?_
          obtain ⟨q_6, hq_6, hX⟩ := bnd_some hX
          refine xv_callVi0 (As := [.int y4, .int 0]) (pc := 79) hC (kX8_t hl hq_6) fV_X8_t wf_1703 (rc_X8 (rfl : shR 0 = 1)) rfl ⟨Nat.le_of_ble_eq_true rfl, Nat.le_of_ble_eq_true rfl⟩ rfl (Nat.le_of_ble_eq_true rfl) dX8_measures_79 ⟨Nat.le_of_ble_eq_true rfl, Nat.le_of_ble_eq_true rfl⟩ ?_
          obtain ⟨q_7, hq_7, hX⟩ := bnd_some hX
          refine xv_callVv0 (As := [.int y4, .int q_6.1]) (pc := 82) hC (kX8_nears hl hq_7) fV_X8_nears wf_1739 (rc_X8 (rfl : shR 0 = 1)) rfl ⟨Nat.le_of_ble_eq_true rfl, Nat.le_of_ble_eq_true rfl⟩ rfl (Nat.le_of_ble_eq_true rfl) dX8_measures_82 ⟨Nat.le_of_ble_eq_true rfl, Nat.le_of_ble_eq_true rfl⟩ ?_
          refine xv_aload_n (pc := 85) hC dX8_measures_85 0 rfl rfl ?_
          refine xv_iload (pc := 86) hC dX8_measures_86 4 rfl ?_
          refine xv_aload_n (pc := 88) hC dX8_measures_88 0 rfl rfl ?_
          refine xv_iload (pc := 89) hC dX8_measures_89 4 rfl ?_
          refine xv_iconst (v := 1) (pc := 91) hC dX8_measures_91 (by decide) ?_
          obtain ⟨q_8, hq_8, hX⟩ := bnd_some hX
          refine xv_callVi0 (As := [.int y4, .int 1]) (pc := 92) hC (kX8_t hl hq_8) fV_X8_t wf_1703 (rc_X8 (rfl : shR 0 = 1)) rfl ⟨Nat.le_of_ble_eq_true rfl, Nat.le_of_ble_eq_true rfl⟩ rfl (Nat.le_of_ble_eq_true rfl) dX8_measures_92 ⟨Nat.le_of_ble_eq_true rfl, Nat.le_of_ble_eq_true rfl⟩ ?_
          obtain ⟨q_9, hq_9, hX⟩ := bnd_some hX
          refine xv_callVv0 (As := [.int y4, .int q_8.1]) (pc := 95) hC (kX8_nears hl hq_9) fV_X8_nears wf_1739 (rc_X8 (rfl : shR 0 = 1)) rfl ⟨Nat.le_of_ble_eq_true rfl, Nat.le_of_ble_eq_true rfl⟩ rfl (Nat.le_of_ble_eq_true rfl) dX8_measures_95 ⟨Nat.le_of_ble_eq_true rfl, Nat.le_of_ble_eq_true rfl⟩ ?_
          obtain ⟨y_10, hy_10, hX⟩ := nm_some hX
          refine xv_iinc (pc := 98) (v := y_10) (lv' := [(4, .int y_10), (0, .ref (a 0)), (1, .int x1), (2, .int x2), (3, .int y3)]) hC dX8_measures_98 4 rfl (by rw [hy_10]; rfl) (by decide) rfl ?_
          refine xv_goto (tgt := 48) (pc := 101) hC dX8_measures_101 (by decide) ?_
          refine xv_sub (lv' := [(0, .ref (a 0)), (1, .int x1), (2, .int x2), (3, .int y3), (4, .int y_10)]) [1, 2, 3, 4, 0] rfl ?_
          exact ih y3 y_10 q_9 hX
        · replace hX := if_t c_5 hX
          refine xv_goto (tgt := 98) (pc := 69) hC dX8_measures_69 (by decide) ?_
          obtain ⟨y_11, hy_11, hX⟩ := nm_some hX
          refine xv_iinc (pc := 98) (v := y_11) (lv' := [(4, .int y_11), (0, .ref (a 0)), (1, .int x1), (2, .int x2), (3, .int y3)]) hC dX8_measures_98 4 rfl (by rw [hy_11]; rfl) (by decide) rfl ?_
          refine xv_goto (tgt := 48) (pc := 101) hC dX8_measures_101 (by decide) ?_
          refine xv_sub (lv' := [(0, .ref (a 0)), (1, .int x1), (2, .int x2), (3, .int y3), (4, .int y_11)]) [1, 2, 3, 4, 0] rfl ?_
          exact ih y3 y_11 q_4.2 hX
  have v39 : ∀ (n : Nat) (y3 : Int32) (Z : ZZ), sX8_measures_L39 x1 x2 n y3 Z = some Z' → xv p l e rmX8_measures s m args below meth c D A 5 Q (cwR dA a Z) 0 0 39 [(0, .ref (a 0)), (1, .int x1), (2, .int x2), (3, .int y3)] [] := by
    intro n
    induction n with
    | zero =>
      intro y3 Z hX
      exact absurd hX (by simp [sX8_measures_L39])
    | succ n ih =>
      intro y3 Z hX
      rw [sX8_measures_L39] at hX
      refine xv_iload_n (pc := 39) hC dX8_measures_39 3 rfl rfl ?_
      refine xv_bipush (v := 8) (pc := 40) hC dX8_measures_40 (by decide) ?_
      refine xv_icmp_ge (tgt := 110) (pc := 42) hC dX8_measures_42 (by decide) (fun c_12 => ?_) (fun c_12 => ?_)
      · replace hX := if_t c_12 hX
        exact xv_eqw (W := cwR dA a) (Option.some.inj hX) (hR _ _ _ _ (Nat.le_of_ble_eq_true rfl) (Nat.le_of_ble_eq_true rfl) dX8_measures_110)
      · replace hX := if_f c_12 hX
        refine xv_iconst (v := 0) (pc := 45) hC dX8_measures_45 (by decide) ?_
        refine xv_istore (pc := 46) (lv' := [(4, .int 0), (0, .ref (a 0)), (1, .int x1), (2, .int x2), (3, .int y3)]) hC dX8_measures_46 (by decide) rfl ?_
        refine xv_sub (lv' := [(0, .ref (a 0)), (1, .int x1), (2, .int x2), (3, .int y3), (4, .int 0)]) [1, 2, 3, 4, 0] rfl ?_
        exact v48 _ ih 3000 y3 0 Z hX
  have v30 : ∀ (Z : ZZ), sX8_measures_B30 x1 x2 Z = some Z' → xv p l e rmX8_measures s m args below meth c D A 5 Q (cwR dA a Z) 0 0 30 [(0, .ref (a 0)), (1, .int x1), (2, .int x2)] [] := by
    intro Z hX
    unfold sX8_measures_B30 at hX
    refine xv_aload_n (pc := 30) hC dX8_measures_30 0 rfl rfl ?_
    refine xgX8 (v := .ref (a 6)) (pc := 31) hC dX8_measures_31 (rfl : shR 0 = 1) 5 (by decide) wf_1558 rfl ?_
    refine xv_iload_n (pc := 34) hC dX8_measures_34 1 rfl rfl ?_
    refine xv_iconst (v := 0) (pc := 35) hC dX8_measures_35 (by decide) ?_
    obtain ⟨h_13, hX⟩ := gd_some hX
    obtain ⟨Z_14, hZ_14, hX⟩ := nm_some hX
    refine xs_R5 (pc := 36) hC dX8_measures_36 (rfl : shR 6 = 5) h_13 hZ_14 ?_
    refine xv_iconst (v := 0) (pc := 37) hC dX8_measures_37 (by decide) ?_
    refine xv_istore_n (pc := 38) (lv' := [(3, .int 0), (0, .ref (a 0)), (1, .int x1), (2, .int x2)]) hC dX8_measures_38 rfl (by decide) rfl ?_
    refine xv_sub (lv' := [(0, .ref (a 0)), (1, .int x1), (2, .int x2), (3, .int 0)]) [1, 2, 3, 0] rfl ?_
    exact v39 3000 0 Z_14 hX
  have v2 : ∀ (n : Nat) (y3 : Int32) (Z : ZZ), sX8_measures_L2 x1 x2 n y3 Z = some Z' → xv p l e rmX8_measures s m args below meth c D A 5 Q (cwR dA a Z) 0 0 2 [(0, .ref (a 0)), (1, .int x1), (2, .int x2), (3, .int y3)] [] := by
    intro n
    induction n with
    | zero =>
      intro y3 Z hX
      exact absurd hX (by simp [sX8_measures_L2])
    | succ n ih =>
      intro y3 Z hX
      rw [sX8_measures_L2] at hX
      refine xv_iload_n (pc := 2) hC dX8_measures_2 3 rfl rfl ?_
      refine xv_bipush (v := 8) (pc := 3) hC dX8_measures_3 (by decide) ?_
      refine xv_icmp_ge (tgt := 30) (pc := 5) hC dX8_measures_5 (by decide) (fun c_15 => ?_) (fun c_15 => ?_)
      · replace hX := if_t c_15 hX
        refine xv_sub (lv' := [(0, .ref (a 0)), (1, .int x1), (2, .int x2)]) [0, 1, 2] rfl ?_
        exact v30 Z hX
      · replace hX := if_f c_15 hX
        refine xv_aload_n (pc := 8) hC dX8_measures_8 0 rfl rfl ?_
        refine xgX8 (v := .ref (a 6)) (pc := 9) hC dX8_measures_9 (rfl : shR 0 = 1) 5 (by decide) wf_1558 rfl ?_
        refine xv_iload_n (pc := 12) hC dX8_measures_12 3 rfl rfl ?_
        refine xv_sipush (v := 9999) (pc := 13) hC dX8_measures_13 (by decide) ?_
        obtain ⟨h_16, hX⟩ := gd_some hX
        obtain ⟨Z_17, hZ_17, hX⟩ := nm_some hX
        refine xs_R5 (pc := 16) hC dX8_measures_16 (rfl : shR 6 = 5) h_16 hZ_17 ?_
        refine xv_aload_n (pc := 17) hC dX8_measures_17 0 rfl rfl ?_
        refine xgX8 (v := .ref (a 7)) (pc := 18) hC dX8_measures_18 (rfl : shR 0 = 1) 6 (by decide) wf_1559 rfl ?_
        refine xv_iload_n (pc := 21) hC dX8_measures_21 3 rfl rfl ?_
        refine xv_iconst (v := 0) (pc := 22) hC dX8_measures_22 (by decide) ?_
        obtain ⟨h_18, hX⟩ := gd_some hX
        obtain ⟨Z_19, hZ_19, hX⟩ := nm_some hX
        refine xs_R5 (pc := 23) hC dX8_measures_23 (rfl : shR 7 = 5) h_18 hZ_19 ?_
        obtain ⟨y_20, hy_20, hX⟩ := nm_some hX
        refine xv_iinc (pc := 24) (v := y_20) (lv' := [(3, .int y_20), (0, .ref (a 0)), (1, .int x1), (2, .int x2)]) hC dX8_measures_24 3 rfl (by rw [hy_20]; rfl) (by decide) rfl ?_
        refine xv_goto (tgt := 2) (pc := 27) hC dX8_measures_27 (by decide) ?_
        refine xv_sub (lv' := [(0, .ref (a 0)), (1, .int x1), (2, .int x2), (3, .int y_20)]) [1, 2, 3, 0] rfl ?_
        exact ih y_20 Z_19 hX
  show xv p l e rmX8_measures s m args below meth c D A 5 Q (cwR dA a Z) 0 0 0 [(0, .ref (a 0)), (1, .int x1), (2, .int x2)] []
  refine xv_iconst (v := 0) (pc := 0) hC dX8_measures_0 (by decide) ?_
  refine xv_istore_n (pc := 1) (lv' := [(3, .int 0), (0, .ref (a 0)), (1, .int x1), (2, .int x2)]) hC dX8_measures_1 rfl (by decide) rfl ?_
  refine xv_sub (lv' := [(0, .ref (a 0)), (1, .int x1), (2, .int x2), (3, .int 0)]) [1, 2, 3, 0] rfl ?_
  exact v2 3000 0 Z hX
