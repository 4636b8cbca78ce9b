def sX8_pass (x1 : Int32) (Z : ZZ) : Option (Int32 × ZZ) :=
  bnd (sX8_begin Z) <| fun q_1 =>
  bnd (sX8_in x1 1 60 q_1) <| fun q_2 =>
  if q_2.1 = 0 then (
    bnd (sX8_fail 1 q_2.2) <| fun q_4 =>
    some (q_4.1, q_4.2)) else (
    bnd (sX8_passes x1 q_2.2) <| fun q_5 =>
    bnd (sX8_commit q_5.1 q_5.2) <| fun q_6 =>
    some (q_6.1, q_6.2))
abbrev rmX8_pass : Room := { frames := 2, cells := 0, slots := 0, locals := 46 }
set_option maxHeartbeats 4000000 in
set_option maxRecDepth 100000 in
theorem kX8_pass {l : Launch} {D : va_G} {dA : Nat → ClassId} {sa : String → Nat → Nat} {a : Nat → Nat} (hl : l.stackTraces = false) {x1 : Int32} {Z Z' : ZZ} {v : Int32} (hX : sX8_pass x1 Z = some (v, Z')) : CTi l D dA sa yX8_pass (wz yX8_pass cX8_pass 2 (some .int)) rmX8_pass [.ref (a 0), .int x1] (cwR dA a Z) v (cwR dA a Z') := by
  refine xm_i hl (by decide +kernel) (Nat.le_of_ble_eq_true rfl) rfl ?_
  intro p e s m args below meth c A Q hC hR
  unfold sX8_pass at hX
  show xv p l e rmX8_pass s m args below meth c D A 2 Q (cwR dA a Z) 0 0 0 [(0, .ref (a 0)), (1, .int x1)] []
  refine xv_aload_n (pc := 0) hC dX8_pass_0 0 rfl rfl ?_
  obtain ⟨q_1, hq_1, hX⟩ := bnd_some hX
  refine xv_callVv0 (As := []) (pc := 1) hC (kX8_begin hl hq_1) fV_X8_begin wf_1637 (rc_X8 (rfl : shR 0 = 1)) rfl ⟨Nat.le_of_ble_eq_true rfl, Nat.le_of_ble_eq_true rfl⟩ rfl (Nat.le_of_ble_eq_true rfl) dX8_pass_1 ⟨Nat.le_of_ble_eq_true rfl, Nat.le_of_ble_eq_true rfl⟩ ?_
  refine xv_iload_n (pc := 4) hC dX8_pass_4 1 rfl rfl ?_
  refine xv_iconst (v := 1) (pc := 5) hC dX8_pass_5 (by decide) ?_
  refine xv_bipush (v := 60) (pc := 6) hC dX8_pass_6 (by decide) ?_
  obtain ⟨q_2, hq_2, hX⟩ := bnd_some hX
  refine xv_callSi0 (As := [.int x1, .int 1, .int 60]) (pc := 8) hC (kX8_in hl hq_2) fS_X8_in wf_1668 rfl ⟨Nat.le_of_ble_eq_true rfl, Nat.le_of_ble_eq_true rfl⟩ rfl (Nat.le_of_ble_eq_true rfl) dX8_pass_8 ⟨Nat.le_of_ble_eq_true rfl, Nat.le_of_ble_eq_true rfl⟩ ?_
  refine xv_if_eq (tgt := 26) (pc := 11) hC dX8_pass_11 (by decide) (fun c_3 => ?_) (fun c_3 => ?_)
  · replace hX := if_t c_3 hX
    refine xv_aload_n (pc := 26) hC dX8_pass_26 0 rfl rfl ?_
    refine xv_iconst (v := 1) (pc := 27) hC dX8_pass_27 (by decide) ?_
    obtain ⟨q_4, hq_4, hX⟩ := bnd_some hX
    refine xv_callVi0 (As := [.int 1]) (pc := 28) hC (kX8_fail hl hq_4) fV_X8_fail wf_1644 (rc_X8 (rfl : shR 0 = 1)) rfl ⟨Nat.le_of_ble_eq_true rfl, Nat.le_of_ble_eq_true rfl⟩ rfl (Nat.le_of_ble_eq_true rfl) dX8_pass_28 ⟨Nat.le_of_ble_eq_true rfl, Nat.le_of_ble_eq_true rfl⟩ ?_
    obtain ⟨h1, h2⟩ := some_pair hX
    exact xv_eqi (W := cwR dA a) h1 h2 (hR _ _ _ _ (Nat.le_of_ble_eq_true rfl) (Nat.le_of_ble_eq_true rfl) dX8_pass_31)
  · replace hX := if_f c_3 hX
    refine xv_aload_n (pc := 14) hC dX8_pass_14 0 rfl rfl ?_
    refine xv_aload_n (pc := 15) hC dX8_pass_15 0 rfl rfl ?_
    refine xv_iload_n (pc := 16) hC dX8_pass_16 1 rfl rfl ?_
    obtain ⟨q_5, hq_5, hX⟩ := bnd_some hX
    refine xv_callVi0 (As := [.int x1]) (pc := 17) hC (kX8_passes hl hq_5) fV_X8_passes wf_1819 (rc_X8 (rfl : shR 0 = 1)) rfl ⟨Nat.le_of_ble_eq_true rfl, Nat.le_of_ble_eq_true rfl⟩ rfl (Nat.le_of_ble_eq_true rfl) dX8_pass_17 ⟨Nat.le_of_ble_eq_true rfl, Nat.le_of_ble_eq_true rfl⟩ ?_
    obtain ⟨q_6, hq_6, hX⟩ := bnd_some hX
    refine xv_callVi0 (As := [.int q_5.1]) (pc := 20) hC (kX8_commit hl hq_6) fV_X8_commit wf_1652 (rc_X8 (rfl : shR 0 = 1)) rfl ⟨Nat.le_of_ble_eq_true rfl, Nat.le_of_ble_eq_true rfl⟩ rfl (Nat.le_of_ble_eq_true rfl) dX8_pass_20 ⟨Nat.le_of_ble_eq_true rfl, Nat.le_of_ble_eq_true rfl⟩ ?_
    refine xv_goto (tgt := 31) (pc := 23) hC dX8_pass_23 (by decide) ?_
    obtain ⟨h1, h2⟩ := some_pair hX
    exact xv_eqi (W := cwR dA a) h1 h2 (hR _ _ _ _ (Nat.le_of_ble_eq_true rfl) (Nat.le_of_ble_eq_true rfl) dX8_pass_31)
def sX8_plain (x1 : Int32) (Z : ZZ) : Option (Int32 × ZZ) :=
  nm (pI Z 0 8 0) <| fun Z_1 =>
  some (x1, Z_1)
abbrev rmX8_plain : Room := { frames := 0, cells := 0, slots := 0, locals := 0 }
set_option maxHeartbeats 4000000 in
set_option maxRecDepth 100000 in
theorem kX8_plain {l : Launch} {D : va_G} {dA : Nat → ClassId} {sa : String → Nat → Nat} {a : Nat → Nat} (hl : l.stackTraces = false) {x1 : Int32} {Z Z' : ZZ} {v : Int32} (hX : sX8_plain x1 Z = some (v, Z')) : CTi l D dA sa yX8_plain (wz yX8_plain cX8_plain 2 (some .int)) rmX8_plain [.ref (a 0), .int x1] (cwR dA a Z) v (cwR dA a Z') := by
  refine xm_i hl (by decide +kernel) (Nat.le_of_ble_eq_true rfl) rfl ?_
  intro p e s m args below meth c A Q hC hR
  unfold sX8_plain at hX
  show xv p l e rmX8_plain s m args below meth c D A 2 Q (cwR dA a Z) 0 0 0 [(0, .ref (a 0)), (1, .int x1)] []
  refine xv_aload_n (pc := 0) hC dX8_plain_0 0 rfl rfl ?_
  refine xv_iconst (v := 0) (pc := 1) hC dX8_plain_1 (by decide) ?_
  obtain ⟨Z_1, hZ_1, hX⟩ := nm_some hX
  refine xpX8 (ty := .int) (pc := 2) hC dX8_plain_2 (rfl : shR 0 = 1) 8 (by decide) wf_1561 rfl (by decide +kernel) rfl rfl rfl hZ_1 ?_
  refine xv_iload_n (pc := 5) hC dX8_plain_5 1 rfl rfl ?_
  obtain ⟨h1, h2⟩ := some_pair hX
  exact xv_eqi (W := cwR dA a) h1 h2 (hR _ _ _ _ (Nat.le_of_ble_eq_true rfl) (Nat.le_of_ble_eq_true rfl) dX8_plain_6)
def sX8_checked (x1 : Int32) (Z : ZZ) : Option (Int32 × ZZ) :=
  if x1 = 0 then (
    nm (pI Z 0 8 1) <| fun Z_2 =>
    some (gI Z_2 0 8, Z_2)) else (
    nm (pI Z 0 8 0) <| fun Z_3 =>
    some (gI Z_3 0 8, Z_3))
abbrev rmX8_checked : Room := { frames := 0, cells := 0, slots := 0, locals := 0 }
set_option maxHeartbeats 4000000 in
set_option maxRecDepth 100000 in
theorem kX8_checked {l : Launch} {D : va_G} {dA : Nat → ClassId} {sa : String → Nat → Nat} {a : Nat → Nat} (hl : l.stackTraces = false) {x1 : Int32} {Z Z' : ZZ} {v : Int32} (hX : sX8_checked x1 Z = some (v, Z')) : CTi l D dA sa yX8_checked (wz yX8_checked cX8_checked 2 (some .int)) rmX8_checked [.ref (a 0), .int x1] (cwR dA a Z) v (cwR dA a Z') := by
  refine xm_i hl (by decide +kernel) (Nat.le_of_ble_eq_true rfl) rfl ?_
  intro p e s m args below meth c A Q hC hR
  unfold sX8_checked at hX
  show xv p l e rmX8_checked s m args below meth c D A 2 Q (cwR dA a Z) 0 0 0 [(0, .ref (a 0)), (1, .int x1)] []
  refine xv_aload_n (pc := 0) hC dX8_checked_0 0 rfl rfl ?_
  refine xv_iload_n (pc := 1) hC dX8_checked_1 1 rfl rfl ?_
  refine xv_if_eq (tgt := 9) (pc := 2) hC dX8_checked_2 (by decide) (fun c_1 => ?_) (fun c_1 => ?_)
  · replace hX := if_t c_1 hX
    refine xv_iconst (v := 1) (pc := 9) hC dX8_checked_9 (by decide) ?_
    obtain ⟨Z_2, hZ_2, hX⟩ := nm_some hX
    refine xpX8 (ty := .int) (pc := 10) hC dX8_checked_10 (rfl : shR 0 = 1) 8 (by decide) wf_1561 rfl (by decide +kernel) rfl rfl rfl hZ_2 ?_
    refine xv_aload_n (pc := 13) hC dX8_checked_13 0 rfl rfl ?_
    refine xgX8 (v := .int (gI Z_2 0 8)) (pc := 14) hC dX8_checked_14 (rfl : shR 0 = 1) 8 (by decide) wf_1561 rfl ?_
    obtain ⟨h1, h2⟩ := some_pair hX
    exact xv_eqi (W := cwR dA a) h1 h2 (hR _ _ _ _ (Nat.le_of_ble_eq_true rfl) (Nat.le_of_ble_eq_true rfl) dX8_checked_17)
  · replace hX := if_f c_1 hX
    refine xv_iconst (v := 0) (pc := 5) hC dX8_checked_5 (by decide) ?_
    refine xv_goto (tgt := 10) (pc := 6) hC dX8_checked_6 (by decide) ?_
    obtain ⟨Z_3, hZ_3, hX⟩ := nm_some hX
    refine xpX8 (ty := .int) (pc := 10) hC dX8_checked_10 (rfl : shR 0 = 1) 8 (by decide) wf_1561 rfl (by decide +kernel) rfl rfl rfl hZ_3 ?_
    refine xv_aload_n (pc := 13) hC dX8_checked_13 0 rfl rfl ?_
    refine xgX8 (v := .int (gI Z_3 0 8)) (pc := 14) hC dX8_checked_14 (rfl : shR 0 = 1) 8 (by decide) wf_1561 rfl ?_
    obtain ⟨h1, h2⟩ := some_pair hX
    exact xv_eqi (W := cwR dA a) h1 h2 (hR _ _ _ _ (Nat.le_of_ble_eq_true rfl) (Nat.le_of_ble_eq_true rfl) dX8_checked_17)
def sX8_switches (Z : ZZ) : Option (Int32 × ZZ) :=
  gd (vin 0 180 = true) <|
  bnd (sX8_plain (gI Z 1 (0 : Int32).toNatClampNeg) Z) <| fun q_2 =>
  some (q_2.1, q_2.2)
abbrev rmX8_switches : Room := { frames := 1, cells := 0, slots := 0, locals := 21 }
set_option maxHeartbeats 4000000 in
set_option maxRecDepth 100000 in
theorem kX8_switches {l : Launch} {D : va_G} {dA : Nat → ClassId} {sa : String → Nat → Nat} {a : Nat → Nat} (hl : l.stackTraces = false) {Z Z' : ZZ} {v : Int32} (hX : sX8_switches Z = some (v, Z')) : CTi l D dA sa yX8_switches (wz yX8_switches cX8_switches 1 (some .int)) rmX8_switches [.ref (a 0)] (cwR dA a Z) v (cwR dA a Z') := by
  refine xm_i hl (by decide +kernel) (Nat.le_of_ble_eq_true rfl) rfl ?_
  intro p e s m args below meth c A Q hC hR
  unfold sX8_switches at hX
  show xv p l e rmX8_switches s m args below meth c D A 1 Q (cwR dA a Z) 0 0 0 [(0, .ref (a 0))] []
  refine xv_aload_n (pc := 0) hC dX8_switches_0 0 rfl rfl ?_
  refine xv_aload_n (pc := 1) hC dX8_switches_1 0 rfl rfl ?_
  refine xgX8 (v := .ref (a 1)) (pc := 2) hC dX8_switches_2 (rfl : shR 0 = 1) 0 (by decide) wf_1553 rfl ?_
  refine xv_iconst (v := 0) (pc := 5) hC dX8_switches_5 (by decide) ?_
  obtain ⟨h_1, hX⟩ := gd_some hX
  refine xl_R2 (pc := 6) hC dX8_switches_6 (rfl : shR 1 = 2) h_1 ?_
  obtain ⟨q_2, hq_2, hX⟩ := bnd_some hX
  refine xv_callVi0 (As := [.int (gI Z 1 (0 : Int32).toNatClampNeg)]) (pc := 7) hC (kX8_plain hl hq_2) fV_X8_plain wf_1827 (rc_X8 (rfl : shR 0 = 1)) rfl ⟨Nat.le_of_ble_eq_true rfl, Nat.le_of_ble_eq_true rfl⟩ rfl (Nat.le_of_ble_eq_true rfl) dX8_switches_7 ⟨Nat.le_of_ble_eq_true rfl, Nat.le_of_ble_eq_true rfl⟩ ?_
  obtain ⟨h1, h2⟩ := some_pair hX
  exact xv_eqi (W := cwR dA a) h1 h2 (hR _ _ _ _ (Nat.le_of_ble_eq_true rfl) (Nat.le_of_ble_eq_true rfl) dX8_switches_10)
def sX8_trunks (Z : ZZ) : Option (Int32 × ZZ) :=
  gd (vin 1 180 = true) <|
  bnd (sX8_plain (gI Z 1 (1 : Int32).toNatClampNeg) Z) <| fun q_2 =>
  some (q_2.1, q_2.2)
abbrev rmX8_trunks : Room := { frames := 1, cells := 0, slots := 0, locals := 21 }
set_option maxHeartbeats 4000000 in
set_option maxRecDepth 100000 in
theorem kX8_trunks {l : Launch} {D : va_G} {dA : Nat → ClassId} {sa : String → Nat → Nat} {a : Nat → Nat} (hl : l.stackTraces = false) {Z Z' : ZZ} {v : Int32} (hX : sX8_trunks Z = some (v, Z')) : CTi l D dA sa yX8_trunks (wz yX8_trunks cX8_trunks 1 (some .int)) rmX8_trunks [.ref (a 0)] (cwR dA a Z) v (cwR dA a Z') := by
  refine xm_i hl (by decide +kernel) (Nat.le_of_ble_eq_true rfl) rfl ?_
  intro p e s m args below meth c A Q hC hR
  unfold sX8_trunks at hX
  show xv p l e rmX8_trunks s m args below meth c D A 1 Q (cwR dA a Z) 0 0 0 [(0, .ref (a 0))] []
  refine xv_aload_n (pc := 0) hC dX8_trunks_0 0 rfl rfl ?_
  refine xv_aload_n (pc := 1) hC dX8_trunks_1 0 rfl rfl ?_
  refine xgX8 (v := .ref (a 1)) (pc := 2) hC dX8_trunks_2 (rfl : shR 0 = 1) 0 (by decide) wf_1553 rfl ?_
  refine xv_iconst (v := 1) (pc := 5) hC dX8_trunks_5 (by decide) ?_
  obtain ⟨h_1, hX⟩ := gd_some hX
  refine xl_R2 (pc := 6) hC dX8_trunks_6 (rfl : shR 1 = 2) h_1 ?_
  obtain ⟨q_2, hq_2, hX⟩ := bnd_some hX
  refine xv_callVi0 (As := [.int (gI Z 1 (1 : Int32).toNatClampNeg)]) (pc := 7) hC (kX8_plain hl hq_2) fV_X8_plain wf_1827 (rc_X8 (rfl : shR 0 = 1)) rfl ⟨Nat.le_of_ble_eq_true rfl, Nat.le_of_ble_eq_true rfl⟩ rfl (Nat.le_of_ble_eq_true rfl) dX8_trunks_7 ⟨Nat.le_of_ble_eq_true rfl, Nat.le_of_ble_eq_true rfl⟩ ?_
  obtain ⟨h1, h2⟩ := some_pair hX
  exact xv_eqi (W := cwR dA a) h1 h2 (hR _ _ _ _ (Nat.le_of_ble_eq_true rfl) (Nat.le_of_ble_eq_true rfl) dX8_trunks_10)
def sX8_trunkLength (x1 : Int32) (Z : ZZ) : Option (Int32 × ZZ) :=
  bnd (sX8_isTrunk x1 Z) <| fun q_1 =>
  bnd (sX8_checked q_1.1 q_1.2) <| fun q_2 =>
  if q_2.1 ≤ 0 then (
    bnd (sX8_t x1 2 q_2.2) <| fun q_4 =>
    some (q_4.1, q_4.2)) else (
    some (0, q_2.2))
abbrev rmX8_trunkLength : Room := { frames := 2, cells := 0, slots := 0, locals := 43 }
set_option maxHeartbeats 4000000 in
set_option maxRecDepth 100000 in
theorem kX8_trunkLength {l : Launch} {D : va_G} {dA : Nat → ClassId} {sa : String → Nat → Nat} {a : Nat → Nat} (hl : l.stackTraces = false) {x1 : Int32} {Z Z' : ZZ} {v : Int32} (hX : sX8_trunkLength x1 Z = some (v, Z')) : CTi l D dA sa yX8_trunkLength (wz yX8_trunkLength cX8_trunkLength 2 (some .int)) rmX8_trunkLength [.ref (a 0), .int x1] (cwR dA a Z) v (cwR dA a Z') := by
  refine xm_i hl (by decide +kernel) (Nat.le_of_ble_eq_true rfl) rfl ?_
  intro p e s m args below meth c A Q hC hR
  unfold sX8_trunkLength at hX
  show xv p l e rmX8_trunkLength s m args below meth c D A 2 Q (cwR dA a Z) 0 0 0 [(0, .ref (a 0)), (1, .int x1)] []
  refine xv_aload_n (pc := 0) hC dX8_trunkLength_0 0 rfl rfl ?_
  refine xv_aload_n (pc := 1) hC dX8_trunkLength_1 0 rfl rfl ?_
  refine xv_iload_n (pc := 2) hC dX8_trunkLength_2 1 rfl rfl ?_
  obtain ⟨q_1, hq_1, hX⟩ := bnd_some hX
  refine xv_callVi0 (As := [.int x1]) (pc := 3) hC (kX8_isTrunk hl hq_1) fV_X8_isTrunk wf_1699 (rc_X8 (rfl : shR 0 = 1)) rfl ⟨Nat.le_of_ble_eq_true rfl, Nat.le_of_ble_eq_true rfl⟩ rfl (Nat.le_of_ble_eq_true rfl) dX8_trunkLength_3 ⟨Nat.le_of_ble_eq_true rfl, Nat.le_of_ble_eq_true rfl⟩ ?_
  obtain ⟨q_2, hq_2, hX⟩ := bnd_some hX
  refine xv_callVi0 (As := [.int q_1.1]) (pc := 6) hC (kX8_checked hl hq_2) fV_X8_checked wf_1839 (rc_X8 (rfl : shR 0 = 1)) rfl ⟨Nat.le_of_ble_eq_true rfl, Nat.le_of_ble_eq_true rfl⟩ rfl (Nat.le_of_ble_eq_true rfl) dX8_trunkLength_6 ⟨Nat.le_of_ble_eq_true rfl, Nat.le_of_ble_eq_true rfl⟩ ?_
  refine xv_if_le (tgt := 16) (pc := 9) hC dX8_trunkLength_9 (by decide) (fun c_3 => ?_) (fun c_3 => ?_)
  · replace hX := if_t c_3 hX
    refine xv_aload_n (pc := 16) hC dX8_trunkLength_16 0 rfl rfl ?_
    refine xv_iload_n (pc := 17) hC dX8_trunkLength_17 1 rfl rfl ?_
    refine xv_iconst (v := 2) (pc := 18) hC dX8_trunkLength_18 (by decide) ?_
    obtain ⟨q_4, hq_4, hX⟩ := bnd_some hX
    refine xv_callVi0 (As := [.int x1, .int 2]) (pc := 19) hC (kX8_t hl hq_4) fV_X8_t wf_1703 (rc_X8 (rfl : shR 0 = 1)) rfl ⟨Nat.le_of_ble_eq_true rfl, Nat.le_of_ble_eq_true rfl⟩ rfl (Nat.le_of_ble_eq_true rfl) dX8_trunkLength_19 ⟨Nat.le_of_ble_eq_true rfl, Nat.le_of_ble_eq_true rfl⟩ ?_
    obtain ⟨h1, h2⟩ := some_pair hX
    exact xv_eqi (W := cwR dA a) h1 h2 (hR _ _ _ _ (Nat.le_of_ble_eq_true rfl) (Nat.le_of_ble_eq_true rfl) dX8_trunkLength_22)
  · replace hX := if_f c_3 hX
    refine xv_iconst (v := 0) (pc := 12) hC dX8_trunkLength_12 (by decide) ?_
    refine xv_goto (tgt := 22) (pc := 13) hC dX8_trunkLength_13 (by decide) ?_
    obtain ⟨h1, h2⟩ := some_pair hX
    exact xv_eqi (W := cwR dA a) h1 h2 (hR _ _ _ _ (Nat.le_of_ble_eq_true rfl) (Nat.le_of_ble_eq_true rfl) dX8_trunkLength_22)
def sX8_otherEnd_B27 (x1 : Int32) (x2 : Int32) (u1 : Int32) (Z : ZZ) : Option (Int32 × ZZ) :=
  nm (pI Z 0 8 u1) <| fun Z_1 =>
  if (gI Z_1 0 8) ≤ 0 then (
    bnd (sX8_beyond x1 x2 Z_1) <| fun q_3 =>
    some (q_3.1, q_3.2)) else (
    some (0, Z_1))
def sX8_otherEnd (x1 : Int32) (x2 : Int32) (Z : ZZ) : Option (Int32 × ZZ) :=
  bnd (sX8_isTrunk x1 Z) <| fun q_4 =>
  if q_4.1 = 0 then (
    sX8_otherEnd_B27 x1 x2 1 q_4.2) else (
    bnd (sX8_touches x1 x2 q_4.2) <| fun q_6 =>
    if q_6.1 = 0 then (
      sX8_otherEnd_B27 x1 x2 2 q_6.2) else (
      sX8_otherEnd_B27 x1 x2 0 q_6.2))
abbrev rmX8_otherEnd : Room := { frames := 2, cells := 0, slots := 0, locals := 44 }
set_option maxHeartbeats 4000000 in
set_option maxRecDepth 100000 in
theorem kX8_otherEnd {l : Launch} {D : va_G} {dA : Nat → ClassId} {sa : String → Nat → Nat} {a : Nat → Nat} (hl : l.stackTraces = false) {x1 : Int32} {x2 : Int32} {Z Z' : ZZ} {v : Int32} (hX : sX8_otherEnd x1 x2 Z = some (v, Z')) : CTi l D dA sa yX8_otherEnd (wz yX8_otherEnd cX8_otherEnd 3 (some .int)) rmX8_otherEnd [.ref (a 0), .int x1, .int x2] (cwR dA a Z) v (cwR dA a Z') := by
  refine xm_i hl (by decide +kernel) (Nat.le_of_ble_eq_true rfl) rfl ?_
  intro p e s m args below meth c A Q hC hR
  unfold sX8_otherEnd at hX
  have v27 : ∀ (u1 : Int32) (Z : ZZ), sX8_otherEnd_B27 x1 x2 u1 Z = some (v, Z') → xv p l e rmX8_otherEnd s m args below meth c D A 3 Q (cwR dA a Z) 0 0 27 [(0, .ref (a 0)), (1, .int x1), (2, .int x2)] [.int u1, .ref (a 0)] := by
    intro u1 Z hX
    unfold sX8_otherEnd_B27 at hX
    obtain ⟨Z_1, hZ_1, hX⟩ := nm_some hX
    refine xpX8 (ty := .int) (pc := 27) hC dX8_otherEnd_27 (rfl : shR 0 = 1) 8 (by decide) wf_1561 rfl (by decide +kernel) rfl rfl rfl hZ_1 ?_
    refine xv_aload_n (pc := 30) hC dX8_otherEnd_30 0 rfl rfl ?_
    refine xgX8 (v := .int (gI Z_1 0 8)) (pc := 31) hC dX8_otherEnd_31 (rfl : shR 0 = 1) 8 (by decide) wf_1561 rfl ?_
    refine xv_if_le (tgt := 41) (pc := 34) hC dX8_otherEnd_34 (by decide) (fun c_2 => ?_) (fun c_2 => ?_)
    · replace hX := if_t c_2 hX
      refine xv_aload_n (pc := 41) hC dX8_otherEnd_41 0 rfl rfl ?_
      refine xv_iload_n (pc := 42) hC dX8_otherEnd_42 1 rfl rfl ?_
      refine xv_iload_n (pc := 43) hC dX8_otherEnd_43 2 rfl rfl ?_
      obtain ⟨q_3, hq_3, hX⟩ := bnd_some hX
      refine xv_callVi0 (As := [.int x1, .int x2]) (pc := 44) hC (kX8_beyond hl hq_3) fV_X8_beyond wf_1743 (rc_X8 (rfl : shR 0 = 1)) rfl ⟨Nat.le_of_ble_eq_true rfl, Nat.le_of_ble_eq_true rfl⟩ rfl (Nat.le_of_ble_eq_true rfl) dX8_otherEnd_44 ⟨Nat.le_of_ble_eq_true rfl, Nat.le_of_ble_eq_true rfl⟩ ?_
      obtain ⟨h1, h2⟩ := some_pair hX
      exact xv_eqi (W := cwR dA a) h1 h2 (hR _ _ _ _ (Nat.le_of_ble_eq_true rfl) (Nat.le_of_ble_eq_true rfl) dX8_otherEnd_47)
    · replace hX := if_f c_2 hX
      refine xv_iconst (v := 0) (pc := 37) hC dX8_otherEnd_37 (by decide) ?_
      refine xv_goto (tgt := 47) (pc := 38) hC dX8_otherEnd_38 (by decide) ?_
      obtain ⟨h1, h2⟩ := some_pair hX
      exact xv_eqi (W := cwR dA a) h1 h2 (hR _ _ _ _ (Nat.le_of_ble_eq_true rfl) (Nat.le_of_ble_eq_true rfl) dX8_otherEnd_47)
  show xv p l e rmX8_otherEnd s m args below meth c D A 3 Q (cwR dA a Z) 0 0 0 [(0, .ref (a 0)), (1, .int x1), (2, .int x2)] []
  refine xv_aload_n (pc := 0) hC dX8_otherEnd_0 0 rfl rfl ?_
  refine xv_aload_n (pc := 1) hC dX8_otherEnd_1 0 rfl rfl ?_
  refine xv_iload_n (pc := 2) hC dX8_otherEnd_2 1 rfl rfl ?_
  obtain ⟨q_4, hq_4, hX⟩ := bnd_some hX
  refine xv_callVi0 (As := [.int x1]) (pc := 3) hC (kX8_isTrunk hl hq_4) fV_X8_isTrunk wf_1699 (rc_X8 (rfl : shR 0 = 1)) rfl ⟨Nat.le_of_ble_eq_true rfl, Nat.le_of_ble_eq_true rfl⟩ rfl (Nat.le_of_ble_eq_true rfl) dX8_otherEnd_3 ⟨Nat.le_of_ble_eq_true rfl, Nat.le_of_ble_eq_true rfl⟩ ?_
  refine xv_if_ne (tgt := 13) (pc := 6) hC dX8_otherEnd_6 (by decide) (fun c_5 => ?_) (fun c_5 => ?_)
  · replace hX := if_f c_5 hX
    refine xv_aload_n (pc := 13) hC dX8_otherEnd_13 0 rfl rfl ?_
    refine xv_iload_n (pc := 14) hC dX8_otherEnd_14 1 rfl rfl ?_
    refine xv_iload_n (pc := 15) hC dX8_otherEnd_15 2 rfl rfl ?_
    obtain ⟨q_6, hq_6, hX⟩ := bnd_some hX
    refine xv_callVi0 (As := [.int x1, .int x2]) (pc := 16) hC (kX8_touches hl hq_6) fV_X8_touches wf_1747 (rc_X8 (rfl : shR 0 = 1)) rfl ⟨Nat.le_of_ble_eq_true rfl, Nat.le_of_ble_eq_true rfl⟩ rfl (Nat.le_of_ble_eq_true rfl) dX8_otherEnd_16 ⟨Nat.le_of_ble_eq_true rfl, Nat.le_of_ble_eq_true rfl⟩ ?_
    refine xv_if_ne (tgt := 26) (pc := 19) hC dX8_otherEnd_19 (by decide) (fun c_7 => ?_) (fun c_7 => ?_)
    · replace hX := if_f c_7 hX
      refine xv_iconst (v := 0) (pc := 26) hC dX8_otherEnd_26 (by decide) ?_
      exact v27 0 q_6.2 hX
    · replace hX := if_t c_7 hX
      refine xv_iconst (v := 2) (pc := 22) hC dX8_otherEnd_22 (by decide) ?_
      refine xv_goto (tgt := 27) (pc := 23) hC dX8_otherEnd_23 (by decide) ?_
      exact v27 2 q_6.2 hX
  · replace hX := if_t c_5 hX
    refine xv_iconst (v := 1) (pc := 9) hC dX8_otherEnd_9 (by decide) ?_
    refine xv_goto (tgt := 27) (pc := 10) hC dX8_otherEnd_10 (by decide) ?_
    exact v27 1 q_4.2 hX
def sX8_isCut (x1 : Int32) (Z : ZZ) : Option (Int32 × ZZ) :=
  bnd (sX8_isTrunk x1 Z) <| fun q_1 =>
  bnd (sX8_checked q_1.1 q_1.2) <| fun q_2 =>
  if q_2.1 = 0 then (
    bnd (sX8_t x1 3 q_2.2) <| fun q_4 =>
    if q_4.1 = 1 then (
      some (1, q_4.2)) else (
      some (0, q_4.2))) else (
    some (0, q_2.2))
abbrev rmX8_isCut : Room := { frames := 2, cells := 0, slots := 0, locals := 43 }
set_option maxHeartbeats 4000000 in
set_option maxRecDepth 100000 in
theorem kX8_isCut {l : Launch} {D : va_G} {dA : Nat → ClassId} {sa : String → Nat → Nat} {a : Nat → Nat} (hl : l.stackTraces = false) {x1 : Int32} {Z Z' : ZZ} {v : Int32} (hX : sX8_isCut x1 Z = some (v, Z')) : CTi l D dA sa yX8_isCut (wz yX8_isCut cX8_isCut 2 (some .boolean)) rmX8_isCut [.ref (a 0), .int x1] (cwR dA a Z) v (cwR dA a Z') := by
  refine xm_z hl (by decide +kernel) (Nat.le_of_ble_eq_true rfl) rfl ?_
  intro p e s m args below meth c A Q hC hR
  unfold sX8_isCut at hX
  show xv p l e rmX8_isCut s m args below meth c D A 2 Q (cwR dA a Z) 0 0 0 [(0, .ref (a 0)), (1, .int x1)] []
  refine xv_aload_n (pc := 0) hC dX8_isCut_0 0 rfl rfl ?_
  refine xv_aload_n (pc := 1) hC dX8_isCut_1 0 rfl rfl ?_
  refine xv_iload_n (pc := 2) hC dX8_isCut_2 1 rfl rfl ?_
  obtain ⟨q_1, hq_1, hX⟩ := bnd_some hX
  refine xv_callVi0 (As := [.int x1]) (pc := 3) hC (kX8_isTrunk hl hq_1) fV_X8_isTrunk wf_1699 (rc_X8 (rfl : shR 0 = 1)) rfl ⟨Nat.le_of_ble_eq_true rfl, Nat.le_of_ble_eq_true rfl⟩ rfl (Nat.le_of_ble_eq_true rfl) dX8_isCut_3 ⟨Nat.le_of_ble_eq_true rfl, Nat.le_of_ble_eq_true rfl⟩ ?_
  obtain ⟨q_2, hq_2, hX⟩ := bnd_some hX
  refine xv_callVi0 (As := [.int q_1.1]) (pc := 6) hC (kX8_checked hl hq_2) fV_X8_checked wf_1839 (rc_X8 (rfl : shR 0 = 1)) rfl ⟨Nat.le_of_ble_eq_true rfl, Nat.le_of_ble_eq_true rfl⟩ rfl (Nat.le_of_ble_eq_true rfl) dX8_isCut_6 ⟨Nat.le_of_ble_eq_true rfl, Nat.le_of_ble_eq_true rfl⟩ ?_
  refine xv_if_ne (tgt := 26) (pc := 9) hC dX8_isCut_9 (by decide) (fun c_3 => ?_) (fun c_3 => ?_)
  · replace hX := if_f c_3 hX
    refine xv_iconst (v := 0) (pc := 26) hC dX8_isCut_26 (by decide) ?_
    obtain ⟨h1, h2⟩ := some_pair hX
    exact xv_eqi (W := cwR dA a) h1 h2 (hR _ _ _ _ (by rw [← h1]; exact (by decide)) (Nat.le_of_ble_eq_true rfl) (Nat.le_of_ble_eq_true rfl) dX8_isCut_27)
  · replace hX := if_t c_3 hX
    refine xv_aload_n (pc := 12) hC dX8_isCut_12 0 rfl rfl ?_
    refine xv_iload_n (pc := 13) hC dX8_isCut_13 1 rfl rfl ?_
    refine xv_iconst (v := 3) (pc := 14) hC dX8_isCut_14 (by decide) ?_
    obtain ⟨q_4, hq_4, hX⟩ := bnd_some hX
    refine xv_callVi0 (As := [.int x1, .int 3]) (pc := 15) hC (kX8_t hl hq_4) fV_X8_t wf_1703 (rc_X8 (rfl : shR 0 = 1)) rfl ⟨Nat.le_of_ble_eq_true rfl, Nat.le_of_ble_eq_true rfl⟩ rfl (Nat.le_of_ble_eq_true rfl) dX8_isCut_15 ⟨Nat.le_of_ble_eq_true rfl, Nat.le_of_ble_eq_true rfl⟩ ?_
    refine xv_iconst (v := 1) (pc := 18) hC dX8_isCut_18 (by decide) ?_
    refine xv_icmp_ne (tgt := 26) (pc := 19) hC dX8_isCut_19 (by decide) (fun c_5 => ?_) (fun c_5 => ?_)
    · replace hX := if_f c_5 hX
      refine xv_iconst (v := 0) (pc := 26) hC dX8_isCut_26 (by decide) ?_
      obtain ⟨h1, h2⟩ := some_pair hX
      exact xv_eqi (W := cwR dA a) h1 h2 (hR _ _ _ _ (by rw [← h1]; exact (by decide)) (Nat.le_of_ble_eq_true rfl) (Nat.le_of_ble_eq_true rfl) dX8_isCut_27)
    · replace hX := if_t c_5 hX
      refine xv_iconst (v := 1) (pc := 22) hC dX8_isCut_22 (by decide) ?_
      refine xv_goto (tgt := 27) (pc := 23) hC dX8_isCut_23 (by decide) ?_
      obtain ⟨h1, h2⟩ := some_pair hX
      exact xv_eqi (W := cwR dA a) h1 h2 (hR _ _ _ _ (by rw [← h1]; exact (by decide)) (Nat.le_of_ble_eq_true rfl) (Nat.le_of_ble_eq_true rfl) dX8_isCut_27)
def sX8_userOf_B26 (x1 : Int32) (u1 : Int32) (Z : ZZ) : Option (Int32 × ZZ) :=
  nm (pI Z 0 8 u1) <| fun Z_1 =>
  if (gI Z_1 0 8) ≤ 0 then (
    bnd (sX8_callOn x1 Z_1) <| fun q_3 =>
    bnd (sX8_c q_3.1 0 q_3.2) <| fun q_4 =>
    some (q_4.1, q_4.2)) else (
    some (0, Z_1))
def sX8_userOf (x1 : Int32) (Z : ZZ) : Option (Int32 × ZZ) :=
  bnd (sX8_isTrunk x1 Z) <| fun q_5 =>
  if q_5.1 = 0 then (
    sX8_userOf_B26 x1 1 q_5.2) else (
    bnd (sX8_callOn x1 q_5.2) <| fun q_7 =>
    if (0 : Int32) ≤ q_7.1 then (
      sX8_userOf_B26 x1 0 q_7.2) else (
      sX8_userOf_B26 x1 2 q_7.2))
abbrev rmX8_userOf : Room := { frames := 3, cells := 0, slots := 0, locals := 67 }
set_option maxHeartbeats 4000000 in
set_option maxRecDepth 100000 in
theorem kX8_userOf {l : Launch} {D : va_G} {dA : Nat → ClassId} {sa : String → Nat → Nat} {a : Nat → Nat} (hl : l.stackTraces = false) {x1 : Int32} {Z Z' : ZZ} {v : Int32} (hX : sX8_userOf x1 Z = some (v, Z')) : CTi l D dA sa yX8_userOf (wz yX8_userOf cX8_userOf 2 (some .int)) rmX8_userOf [.ref (a 0), .int x1] (cwR dA a Z) v (cwR dA a Z') := by
  refine xm_i hl (by decide +kernel) (Nat.le_of_ble_eq_true rfl) rfl ?_
  intro p e s m args below meth c A Q hC hR
  unfold sX8_userOf at hX
  have v26 : ∀ (u1 : Int32) (Z : ZZ), sX8_userOf_B26 x1 u1 Z = some (v, Z') → xv p l e rmX8_userOf s m args below meth c D A 2 Q (cwR dA a Z) 0 0 26 [(0, .ref (a 0)), (1, .int x1)] [.int u1, .ref (a 0)] := by
    intro u1 Z hX
    unfold sX8_userOf_B26 at hX
    obtain ⟨Z_1, hZ_1, hX⟩ := nm_some hX
    refine xpX8 (ty := .int) (pc := 26) hC dX8_userOf_26 (rfl : shR 0 = 1) 8 (by decide) wf_1561 rfl (by decide +kernel) rfl rfl rfl hZ_1 ?_
    refine xv_aload_n (pc := 29) hC dX8_userOf_29 0 rfl rfl ?_
    refine xgX8 (v := .int (gI Z_1 0 8)) (pc := 30) hC dX8_userOf_30 (rfl : shR 0 = 1) 8 (by decide) wf_1561 rfl ?_
    refine xv_if_le (tgt := 40) (pc := 33) hC dX8_userOf_33 (by decide) (fun c_2 => ?_) (fun c_2 => ?_)
    · replace hX := if_t c_2 hX
      refine xv_aload_n (pc := 40) hC dX8_userOf_40 0 rfl rfl ?_
      refine xv_aload_n (pc := 41) hC dX8_userOf_41 0 rfl rfl ?_
      refine xv_iload_n (pc := 42) hC dX8_userOf_42 1 rfl rfl ?_
      obtain ⟨q_3, hq_3, hX⟩ := bnd_some hX
      refine xv_callVi0 (As := [.int x1]) (pc := 43) hC (kX8_callOn hl hq_3) fV_X8_callOn wf_1711 (rc_X8 (rfl : shR 0 = 1)) rfl ⟨Nat.le_of_ble_eq_true rfl, Nat.le_of_ble_eq_true rfl⟩ rfl (Nat.le_of_ble_eq_true rfl) dX8_userOf_43 ⟨Nat.le_of_ble_eq_true rfl, Nat.le_of_ble_eq_true rfl⟩ ?_
      refine xv_iconst (v := 0) (pc := 46) hC dX8_userOf_46 (by decide) ?_
      obtain ⟨q_4, hq_4, hX⟩ := bnd_some hX
      refine xv_callVi0 (As := [.int q_3.1, .int 0]) (pc := 47) hC (kX8_c hl hq_4) fV_X8_c wf_1719 (rc_X8 (rfl : shR 0 = 1)) rfl ⟨Nat.le_of_ble_eq_true rfl, Nat.le_of_ble_eq_true rfl⟩ rfl (Nat.le_of_ble_eq_true rfl) dX8_userOf_47 ⟨Nat.le_of_ble_eq_true rfl, Nat.le_of_ble_eq_true rfl⟩ ?_
      obtain ⟨h1, h2⟩ := some_pair hX
      exact xv_eqi (W := cwR dA a) h1 h2 (hR _ _ _ _ (Nat.le_of_ble_eq_true rfl) (Nat.le_of_ble_eq_true rfl) dX8_userOf_50)
    · replace hX := if_f c_2 hX
      refine xv_iconst (v := 0) (pc := 36) hC dX8_userOf_36 (by decide) ?_
      refine xv_goto (tgt := 50) (pc := 37) hC dX8_userOf_37 (by decide) ?_
      obtain ⟨h1, h2⟩ := some_pair hX
      exact xv_eqi (W := cwR dA a) h1 h2 (hR _ _ _ _ (Nat.le_of_ble_eq_true rfl) (Nat.le_of_ble_eq_true rfl) dX8_userOf_50)
  show xv p l e rmX8_userOf s m args below meth c D A 2 Q (cwR dA a Z) 0 0 0 [(0, .ref (a 0)), (1, .int x1)] []
  refine xv_aload_n (pc := 0) hC dX8_userOf_0 0 rfl rfl ?_
  refine xv_aload_n (pc := 1) hC dX8_userOf_1 0 rfl rfl ?_
  refine xv_iload_n (pc := 2) hC dX8_userOf_2 1 rfl rfl ?_
  obtain ⟨q_5, hq_5, hX⟩ := bnd_some hX
  refine xv_callVi0 (As := [.int x1]) (pc := 3) hC (kX8_isTrunk hl hq_5) fV_X8_isTrunk wf_1699 (rc_X8 (rfl : shR 0 = 1)) rfl ⟨Nat.le_of_ble_eq_true rfl, Nat.le_of_ble_eq_true rfl⟩ rfl (Nat.le_of_ble_eq_true rfl) dX8_userOf_3 ⟨Nat.le_of_ble_eq_true rfl, Nat.le_of_ble_eq_true rfl⟩ ?_
  refine xv_if_ne (tgt := 13) (pc := 6) hC dX8_userOf_6 (by decide) (fun c_6 => ?_) (fun c_6 => ?_)
  · replace hX := if_f c_6 hX
    refine xv_aload_n (pc := 13) hC dX8_userOf_13 0 rfl rfl ?_
    refine xv_iload_n (pc := 14) hC dX8_userOf_14 1 rfl rfl ?_
    obtain ⟨q_7, hq_7, hX⟩ := bnd_some hX
    refine xv_callVi0 (As := [.int x1]) (pc := 15) hC (kX8_callOn hl hq_7) fV_X8_callOn wf_1711 (rc_X8 (rfl : shR 0 = 1)) rfl ⟨Nat.le_of_ble_eq_true rfl, Nat.le_of_ble_eq_true rfl⟩ rfl (Nat.le_of_ble_eq_true rfl) dX8_userOf_15 ⟨Nat.le_of_ble_eq_true rfl, Nat.le_of_ble_eq_true rfl⟩ ?_
    refine xv_if_ge (tgt := 25) (pc := 18) hC dX8_userOf_18 (by decide) (fun c_8 => ?_) (fun c_8 => ?_)
    · replace hX := if_t c_8 hX
      refine xv_iconst (v := 0) (pc := 25) hC dX8_userOf_25 (by decide) ?_
      exact v26 0 q_7.2 hX
    · replace hX := if_f c_8 hX
      refine xv_iconst (v := 2) (pc := 21) hC dX8_userOf_21 (by decide) ?_
      refine xv_goto (tgt := 26) (pc := 22) hC dX8_userOf_22 (by decide) ?_
      exact v26 2 q_7.2 hX
  · replace hX := if_t c_6 hX
    refine xv_iconst (v := 1) (pc := 9) hC dX8_userOf_9 (by decide) ?_
    refine xv_goto (tgt := 26) (pc := 10) hC dX8_userOf_10 (by decide) ?_
    exact v26 1 q_5.2 hX
def sX8_minutesOn (x1 : Int32) (Z : ZZ) : Option (Int32 × ZZ) :=
  bnd (sX8_isTrunk x1 Z) <| fun q_1 =>
  bnd (sX8_checked q_1.1 q_1.2) <| fun q_2 =>
  if q_2.1 ≤ 0 then (
    bnd (sX8_t x1 4 q_2.2) <| fun q_4 =>
    some (q_4.1, q_4.2)) else (
    some (0, q_2.2))
abbrev rmX8_minutesOn : Room := { frames := 2, cells := 0, slots := 0, locals := 43 }
set_option maxHeartbeats 4000000 in
set_option maxRecDepth 100000 in
theorem kX8_minutesOn {l : Launch} {D : va_G} {dA : Nat → ClassId} {sa : String → Nat → Nat} {a : Nat → Nat} (hl : l.stackTraces = false) {x1 : Int32} {Z Z' : ZZ} {v : Int32} (hX : sX8_minutesOn x1 Z = some (v, Z')) : CTi l D dA sa yX8_minutesOn (wz yX8_minutesOn cX8_minutesOn 2 (some .int)) rmX8_minutesOn [.ref (a 0), .int x1] (cwR dA a Z) v (cwR dA a Z') := by
  refine xm_i hl (by decide +kernel) (Nat.le_of_ble_eq_true rfl) rfl ?_
  intro p e s m args below meth c A Q hC hR
  unfold sX8_minutesOn at hX
  show xv p l e rmX8_minutesOn s m args below meth c D A 2 Q (cwR dA a Z) 0 0 0 [(0, .ref (a 0)), (1, .int x1)] []
  refine xv_aload_n (pc := 0) hC dX8_minutesOn_0 0 rfl rfl ?_
  refine xv_aload_n (pc := 1) hC dX8_minutesOn_1 0 rfl rfl ?_
  refine xv_iload_n (pc := 2) hC dX8_minutesOn_2 1 rfl rfl ?_
  obtain ⟨q_1, hq_1, hX⟩ := bnd_some hX
  refine xv_callVi0 (As := [.int x1]) (pc := 3) hC (kX8_isTrunk hl hq_1) fV_X8_isTrunk wf_1699 (rc_X8 (rfl : shR 0 = 1)) rfl ⟨Nat.le_of_ble_eq_true rfl, Nat.le_of_ble_eq_true rfl⟩ rfl (Nat.le_of_ble_eq_true rfl) dX8_minutesOn_3 ⟨Nat.le_of_ble_eq_true rfl, Nat.le_of_ble_eq_true rfl⟩ ?_
  obtain ⟨q_2, hq_2, hX⟩ := bnd_some hX
  refine xv_callVi0 (As := [.int q_1.1]) (pc := 6) hC (kX8_checked hl hq_2) fV_X8_checked wf_1839 (rc_X8 (rfl : shR 0 = 1)) rfl ⟨Nat.le_of_ble_eq_true rfl, Nat.le_of_ble_eq_true rfl⟩ rfl (Nat.le_of_ble_eq_true rfl) dX8_minutesOn_6 ⟨Nat.le_of_ble_eq_true rfl, Nat.le_of_ble_eq_true rfl⟩ ?_
  refine xv_if_le (tgt := 16) (pc := 9) hC dX8_minutesOn_9 (by decide) (fun c_3 => ?_) (fun c_3 => ?_)
  · replace hX := if_t c_3 hX
    refine xv_aload_n (pc := 16) hC dX8_minutesOn_16 0 rfl rfl ?_
    refine xv_iload_n (pc := 17) hC dX8_minutesOn_17 1 rfl rfl ?_
    refine xv_iconst (v := 4) (pc := 18) hC dX8_minutesOn_18 (by decide) ?_
    obtain ⟨q_4, hq_4, hX⟩ := bnd_some hX
    refine xv_callVi0 (As := [.int x1, .int 4]) (pc := 19) hC (kX8_t hl hq_4) fV_X8_t wf_1703 (rc_X8 (rfl : shR 0 = 1)) rfl ⟨Nat.le_of_ble_eq_true rfl, Nat.le_of_ble_eq_true rfl⟩ rfl (Nat.le_of_ble_eq_true rfl) dX8_minutesOn_19 ⟨Nat.le_of_ble_eq_true rfl, Nat.le_of_ble_eq_true rfl⟩ ?_
    obtain ⟨h1, h2⟩ := some_pair hX
    exact xv_eqi (W := cwR dA a) h1 h2 (hR _ _ _ _ (Nat.le_of_ble_eq_true rfl) (Nat.le_of_ble_eq_true rfl) dX8_minutesOn_22)
  · replace hX := if_f c_3 hX
    refine xv_iconst (v := 0) (pc := 12) hC dX8_minutesOn_12 (by decide) ?_
    refine xv_goto (tgt := 22) (pc := 13) hC dX8_minutesOn_13 (by decide) ?_
    obtain ⟨h1, h2⟩ := some_pair hX
    exact xv_eqi (W := cwR dA a) h1 h2 (hR _ _ _ _ (Nat.le_of_ble_eq_true rfl) (Nat.le_of_ble_eq_true rfl) dX8_minutesOn_22)
def sX8_shortest_B22 (x1 : Int32) (x2 : Int32) (u1 : Int32) (Z : ZZ) : Option (Int32 × ZZ) :=
  bnd (sX8_checked u1 Z) <| fun q_1 =>
  if q_1.1 ≤ 0 then (
    bnd (sX8_measures x2 (-1) q_1.2) <| fun q_3 =>
    gd (vin x1 8 = true) <|
    if (gI q_3 6 x1.toNatClampNeg) = 9999 then (
      bnd (sX8_fail 2 q_3) <| fun q_7 =>
      some (q_7.1, q_7.2)) else (
      gd (vin x1 8 = true) <|
      some (gI q_3 6 x1.toNatClampNeg, q_3))) else (
    some (0, q_1.2))
def sX8_shortest_B21 (x1 : Int32) (x2 : Int32) (Z : ZZ) : Option (Int32 × ZZ) :=
  sX8_shortest_B22 x1 x2 0 Z
def sX8_shortest (x1 : Int32) (x2 : Int32) (Z : ZZ) : Option (Int32 × ZZ) :=
  bnd (sX8_isSwitch x1 Z) <| fun q_8 =>
  if q_8.1 = 0 then (
    sX8_shortest_B21 x1 x2 q_8.2) else (
    bnd (sX8_isSwitch x2 q_8.2) <| fun q_10 =>
    if q_10.1 = 0 then (
      sX8_shortest_B21 x1 x2 q_10.2) else (
      sX8_shortest_B22 x1 x2 1 q_10.2))
abbrev rmX8_shortest : Room := { frames := 5, cells := 0, slots := 0, locals := 114 }
set_option maxHeartbeats 4000000 in
set_option maxRecDepth 100000 in
theorem kX8_shortest {l : Launch} {D : va_G} {dA : Nat → ClassId} {sa : String → Nat → Nat} {a : Nat → Nat} (hl : l.stackTraces = false) {x1 : Int32} {x2 : Int32} {Z Z' : ZZ} {v : Int32} (hX : sX8_shortest x1 x2 Z = some (v, Z')) : CTi l D dA sa yX8_shortest (wz yX8_shortest cX8_shortest 3 (some .int)) rmX8_shortest [.ref (a 0), .int x1, .int x2] (cwR dA a Z) v (cwR dA a Z') := by
  refine xm_i hl (by decide +kernel) (Nat.le_of_ble_eq_true rfl) rfl ?_
  intro p e s m args below meth c A Q hC hR
  unfold sX8_shortest at hX
  have v22 : ∀ (u1 : Int32) (Z : ZZ), sX8_shortest_B22 x1 x2 u1 Z = some (v, Z') → xv p l e rmX8_shortest s m args below meth c D A 3 Q (cwR dA a Z) 0 0 22 [(0, .ref (a 0)), (1, .int x1), (2, .int x2)] [.int u1, .ref (a 0)] := by
    intro u1 Z hX
    unfold sX8_shortest_B22 at hX
    obtain ⟨q_1, hq_1, hX⟩ := bnd_some hX
    refine xv_callVi0 (As := [.int u1]) (pc := 22) hC (kX8_checked hl hq_1) fV_X8_checked wf_1839 (rc_X8 (rfl : shR 0 = 1)) rfl ⟨Nat.le_of_ble_eq_true rfl, Nat.le_of_ble_eq_true rfl⟩ rfl (Nat.le_of_ble_eq_true rfl) dX8_shortest_22 ⟨Nat.le_of_ble_eq_true rfl, Nat.le_of_ble_eq_true rfl⟩ ?_
    refine xv_if_le (tgt := 30) (pc := 25) hC dX8_shortest_25 (by decide) (fun c_2 => ?_) (fun c_2 => ?_)
    · replace hX := if_t c_2 hX
      refine xv_aload_n (pc := 30) hC dX8_shortest_30 0 rfl rfl ?_
      refine xv_iload_n (pc := 31) hC dX8_shortest_31 2 rfl rfl ?_
      refine xv_iconst (v := (-1)) (pc := 32) hC dX8_shortest_32 (by decide) ?_
      obtain ⟨q_3, hq_3, hX⟩ := bnd_some hX
      refine xv_callVv0 (As := [.int x2, .int (-1)]) (pc := 33) hC (kX8_measures hl hq_3) fV_X8_measures wf_1731 (rc_X8 (rfl : shR 0 = 1)) rfl ⟨Nat.le_of_ble_eq_true rfl, Nat.le_of_ble_eq_true rfl⟩ rfl (Nat.le_of_ble_eq_true rfl) dX8_shortest_33 ⟨Nat.le_of_ble_eq_true rfl, Nat.le_of_ble_eq_true rfl⟩ ?_
      refine xv_aload_n (pc := 36) hC dX8_shortest_36 0 rfl rfl ?_
      refine xgX8 (v := .ref (a 6)) (pc := 37) hC dX8_shortest_37 (rfl : shR 0 = 1) 5 (by decide) wf_1558 rfl ?_
      refine xv_iload_n (pc := 40) hC dX8_shortest_40 1 rfl rfl ?_
      obtain ⟨h_4, hX⟩ := gd_some hX
      refine xl_R5 (pc := 41) hC dX8_shortest_41 (rfl : shR 6 = 5) h_4 ?_
      refine xv_sipush (v := 9999) (pc := 42) hC dX8_shortest_42 (by decide) ?_
      refine xv_icmp_ne (tgt := 56) (pc := 45) hC dX8_shortest_45 (by decide) (fun c_5 => ?_) (fun c_5 => ?_)
      · replace hX := if_f c_5 hX
        refine xv_aload_n (pc := 56) hC dX8_shortest_56 0 rfl rfl ?_
        refine xgX8 (v := .ref (a 6)) (pc := 57) hC dX8_shortest_57 (rfl : shR 0 = 1) 5 (by decide) wf_1558 rfl ?_
        refine xv_iload_n (pc := 60) hC dX8_shortest_60 1 rfl rfl ?_
        obtain ⟨h_6, hX⟩ := gd_some hX
        refine xl_R5 (pc := 61) hC dX8_shortest_61 (rfl : shR 6 = 5) h_6 ?_
        obtain ⟨h1, h2⟩ := some_pair hX
        exact xv_eqi (W := cwR dA a) h1 h2 (hR _ _ _ _ (Nat.le_of_ble_eq_true rfl) (Nat.le_of_ble_eq_true rfl) dX8_shortest_62)
      · replace hX := if_t c_5 hX
        refine xv_aload_n (pc := 48) hC dX8_shortest_48 0 rfl rfl ?_
        refine xv_iconst (v := 2) (pc := 49) hC dX8_shortest_49 (by decide) ?_
        obtain ⟨q_7, hq_7, hX⟩ := bnd_some hX
        refine xv_callVi0 (As := [.int 2]) (pc := 50) hC (kX8_fail hl hq_7) fV_X8_fail wf_1644 (rc_X8 (rfl : shR 0 = 1)) rfl ⟨Nat.le_of_ble_eq_true rfl, Nat.le_of_ble_eq_true rfl⟩ rfl (Nat.le_of_ble_eq_true rfl) dX8_shortest_50 ⟨Nat.le_of_ble_eq_true rfl, Nat.le_of_ble_eq_true rfl⟩ ?_
        refine xv_goto (tgt := 62) (pc := 53) hC dX8_shortest_53 (by decide) ?_
        obtain ⟨h1, h2⟩ := some_pair hX
        exact xv_eqi (W := cwR dA a) h1 h2 (hR _ _ _ _ (Nat.le_of_ble_eq_true rfl) (Nat.le_of_ble_eq_true rfl) dX8_shortest_62)
    · replace hX := if_f c_2 hX
      refine xv_iconst (v := 0) (pc := 28) hC dX8_shortest_28 (by decide) ?_
      obtain ⟨h1, h2⟩ := some_pair hX
      exact xv_eqi (W := cwR dA a) h1 h2 (hR _ _ _ _ (Nat.le_of_ble_eq_true rfl) (Nat.le_of_ble_eq_true rfl) dX8_shortest_29)
  have v21 : ∀ (Z : ZZ), sX8_shortest_B21 x1 x2 Z = some (v, Z') → xv p l e rmX8_shortest s m args below meth c D A 3 Q (cwR dA a Z) 0 0 21 [(0, .ref (a 0)), (1, .int x1), (2, .int x2)] [.ref (a 0)] := by
    intro Z hX
    unfold sX8_shortest_B21 at hX
    refine xv_iconst (v := 0) (pc := 21) hC dX8_shortest_21 (by decide) ?_
    exact v22 0 Z hX
  show xv p l e rmX8_shortest s m args below meth c D A 3 Q (cwR dA a Z) 0 0 0 [(0, .ref (a 0)), (1, .int x1), (2, .int x2)] []
  refine xv_aload_n (pc := 0) hC dX8_shortest_0 0 rfl rfl ?_
  refine xv_aload_n (pc := 1) hC dX8_shortest_1 0 rfl rfl ?_
  refine xv_iload_n (pc := 2) hC dX8_shortest_2 1 rfl rfl ?_
  obtain ⟨q_8, hq_8, hX⟩ := bnd_some hX
  refine xv_callVi0 (As := [.int x1]) (pc := 3) hC (kX8_isSwitch hl hq_8) fV_X8_isSwitch wf_1664 (rc_X8 (rfl : shR 0 = 1)) rfl ⟨Nat.le_of_ble_eq_true rfl, Nat.le_of_ble_eq_true rfl⟩ rfl (Nat.le_of_ble_eq_true rfl) dX8_shortest_3 ⟨Nat.le_of_ble_eq_true rfl, Nat.le_of_ble_eq_true rfl⟩ ?_
  refine xv_if_eq (tgt := 21) (pc := 6) hC dX8_shortest_6 (by decide) (fun c_9 => ?_) (fun c_9 => ?_)
  · replace hX := if_t c_9 hX
    exact v21 q_8.2 hX
  · replace hX := if_f c_9 hX
    refine xv_aload_n (pc := 9) hC dX8_shortest_9 0 rfl rfl ?_
    refine xv_iload_n (pc := 10) hC dX8_shortest_10 2 rfl rfl ?_
    obtain ⟨q_10, hq_10, hX⟩ := bnd_some hX
    refine xv_callVi0 (As := [.int x2]) (pc := 11) hC (kX8_isSwitch hl hq_10) fV_X8_isSwitch wf_1664 (rc_X8 (rfl : shR 0 = 1)) rfl ⟨Nat.le_of_ble_eq_true rfl, Nat.le_of_ble_eq_true rfl⟩ rfl (Nat.le_of_ble_eq_true rfl) dX8_shortest_11 ⟨Nat.le_of_ble_eq_true rfl, Nat.le_of_ble_eq_true rfl⟩ ?_
    refine xv_if_eq (tgt := 21) (pc := 14) hC dX8_shortest_14 (by decide) (fun c_11 => ?_) (fun c_11 => ?_)
    · replace hX := if_t c_11 hX
      exact v21 q_10.2 hX
    · replace hX := if_f c_11 hX
      refine xv_iconst (v := 1) (pc := 17) hC dX8_shortest_17 (by decide) ?_
      refine xv_goto (tgt := 22) (pc := 18) hC dX8_shortest_18 (by decide) ?_
      exact v22 1 q_10.2 hX
def sX8_routeLength (x1 : Int32) (x2 : Int32) (Z : ZZ) : Option (Int32 × ZZ) :=
  bnd (sX8_shortest x1 x2 Z) <| fun q_1 =>
  some (q_1.1, q_1.2)
abbrev rmX8_routeLength : Room := { frames := 6, cells := 0, slots := 0, locals := 136 }
set_option maxHeartbeats 4000000 in
set_option maxRecDepth 100000 in
theorem kX8_routeLength {l : Launch} {D : va_G} {dA : Nat → ClassId} {sa : String → Nat → Nat} {a : Nat → Nat} (hl : l.stackTraces = false) {x1 : Int32} {x2 : Int32} {Z Z' : ZZ} {v : Int32} (hX : sX8_routeLength x1 x2 Z = some (v, Z')) : CTi l D dA sa yX8_routeLength (wz yX8_routeLength cX8_routeLength 3 (some .int)) rmX8_routeLength [.ref (a 0), .int x1, .int x2] (cwR dA a Z) v (cwR dA a Z') := by
  refine xm_i hl (by decide +kernel) (Nat.le_of_ble_eq_true rfl) rfl ?_
  intro p e s m args below meth c A Q hC hR
  unfold sX8_routeLength at hX
  show xv p l e rmX8_routeLength s m args below meth c D A 3 Q (cwR dA a Z) 0 0 0 [(0, .ref (a 0)), (1, .int x1), (2, .int x2)] []
  refine xv_aload_n (pc := 0) hC dX8_routeLength_0 0 rfl rfl ?_
  refine xv_iload_n (pc := 1) hC dX8_routeLength_1 1 rfl rfl ?_
  refine xv_iload_n (pc := 2) hC dX8_routeLength_2 2 rfl rfl ?_
  obtain ⟨q_1, hq_1, hX⟩ := bnd_some hX
  refine xv_callVi0 (As := [.int x1, .int x2]) (pc := 3) hC (kX8_shortest hl hq_1) fV_X8_shortest wf_1863 (rc_X8 (rfl : shR 0 = 1)) rfl ⟨Nat.le_of_ble_eq_true rfl, Nat.le_of_ble_eq_true rfl⟩ rfl (Nat.le_of_ble_eq_true rfl) dX8_routeLength_3 ⟨Nat.le_of_ble_eq_true rfl, Nat.le_of_ble_eq_true rfl⟩ ?_
  obtain ⟨h1, h2⟩ := some_pair hX
  exact xv_eqi (W := cwR dA a) h1 h2 (hR _ _ _ _ (Nat.le_of_ble_eq_true rfl) (Nat.le_of_ble_eq_true rfl) dX8_routeLength_6)
def sX8_routeLengthByRelaxation (x1 : Int32) (x2 : Int32) (Z : ZZ) : Option (Int32 × ZZ) :=
  bnd (sX8_shortest x1 x2 Z) <| fun q_1 =>
  some (q_1.1, q_1.2)
abbrev rmX8_routeLengthByRelaxation : Room := { frames := 6, cells := 0, slots := 0, locals := 136 }
set_option maxHeartbeats 4000000 in
set_option maxRecDepth 100000 in
theorem kX8_routeLengthByRelaxation {l : Launch} {D : va_G} {dA : Nat → ClassId} {sa : String → Nat → Nat} {a : Nat → Nat} (hl : l.stackTraces = false) {x1 : Int32} {x2 : Int32} {Z Z' : ZZ} {v : Int32} (hX : sX8_routeLengthByRelaxation x1 x2 Z = some (v, Z')) : CTi l D dA sa yX8_routeLengthByRelaxation (wz yX8_routeLengthByRelaxation cX8_routeLengthByRelaxation 3 (some .int)) rmX8_routeLengthByRelaxation [.ref (a 0), .int x1, .int x2] (cwR dA a Z) v (cwR dA a Z') := by
  refine xm_i hl (by decide +kernel) (Nat.le_of_ble_eq_true rfl) rfl ?_
  intro p e s m args below meth c A Q hC hR
  unfold sX8_routeLengthByRelaxation at hX
  show xv p l e rmX8_routeLengthByRelaxation s m args below meth c D A 3 Q (cwR dA a Z) 0 0 0 [(0, .ref (a 0)), (1, .int x1), (2, .int x2)] []
  refine xv_aload_n (pc := 0) hC dX8_routeLengthByRelaxation_0 0 rfl rfl ?_
  refine xv_iload_n (pc := 1) hC dX8_routeLengthByRelaxation_1 1 rfl rfl ?_
  refine xv_iload_n (pc := 2) hC dX8_routeLengthByRelaxation_2 2 rfl rfl ?_
  obtain ⟨q_1, hq_1, hX⟩ := bnd_some hX
  refine xv_callVi0 (As := [.int x1, .int x2]) (pc := 3) hC (kX8_shortest hl hq_1) fV_X8_shortest wf_1863 (rc_X8 (rfl : shR 0 = 1)) rfl ⟨Nat.le_of_ble_eq_true rfl, Nat.le_of_ble_eq_true rfl⟩ rfl (Nat.le_of_ble_eq_true rfl) dX8_routeLengthByRelaxation_3 ⟨Nat.le_of_ble_eq_true rfl, Nat.le_of_ble_eq_true rfl⟩ ?_
  obtain ⟨h1, h2⟩ := some_pair hX
  exact xv_eqi (W := cwR dA a) h1 h2 (hR _ _ _ _ (Nat.le_of_ble_eq_true rfl) (Nat.le_of_ble_eq_true rfl) dX8_routeLengthByRelaxation_6)
def sX8_border_L4 (x1 : Int32) : Nat → Int32 → Int32 → ZZ → Option (Int32 × ZZ)
  | 0, _, _, _ => none
  | n + 1, y2, y3, Z =>
  gd (vin 1 180 = true) <|
  if (gI Z 1 (1 : Int32).toNatClampNeg) ≤ y3 then (
    some (y2, Z)) else (
    bnd (sX8_isFree y3 (-1) Z) <| fun q_3 =>
    if q_3.1 = 0 then (
      nm (y2 + 0) <| fun y_5 =>
      nm (y3 + 1) <| fun y_6 =>
      sX8_border_L4 x1 n y_5 y_6 q_3.2) else (
      bnd (sX8_t y3 0 q_3.2) <| fun q_7 =>
      bnd (sX8_t y3 1 q_7.2) <| fun q_8 =>
      if ((x1 >>> (q_7.1 &&& 31)) &&& 1) = ((x1 >>> (q_8.1 &&& 31)) &&& 1) then (
        nm (y2 + 0) <| fun y_10 =>
        nm (y3 + 1) <| fun y_11 =>
        sX8_border_L4 x1 n y_10 y_11 q_8.2) else (
        nm (y2 + 1) <| fun y_12 =>
        nm (y3 + 1) <| fun y_13 =>
        sX8_border_L4 x1 n y_12 y_13 q_8.2)))
def sX8_border (x1 : Int32) (Z : ZZ) : Option (Int32 × ZZ) :=
  sX8_border_L4 x1 3000 0 0 Z
abbrev rmX8_border : Room := { frames := 4, cells := 0, slots := 0, locals := 90 }
set_option maxHeartbeats 4000000 in
set_option maxRecDepth 100000 in
theorem kX8_border {l : Launch} {D : va_G} {dA : Nat → ClassId} {sa : String → Nat → Nat} {a : Nat → Nat} (hl : l.stackTraces = false) {x1 : Int32} {Z Z' : ZZ} {v : Int32} (hX : sX8_border x1 Z = some (v, Z')) : CTi l D dA sa yX8_border (wz yX8_border cX8_border 4 (some .int)) rmX8_border [.ref (a 0), .int x1] (cwR dA a Z) v (cwR dA a Z') := by
  refine xm_i hl (by decide +kernel) (Nat.le_of_ble_eq_true rfl) rfl ?_
  intro p e s m args below meth c A Q hC hR
  unfold sX8_border at hX
  have v4 : ∀ (n : Nat) (y2 : Int32) (y3 : Int32) (Z : ZZ), sX8_border_L4 x1 n y2 y3 Z = some (v, Z') → xv p l e rmX8_border s m args below meth c D A 4 Q (cwR dA a Z) 0 0 4 [(0, .ref (a 0)), (1, .int x1), (2, .int y2), (3, .int y3)] [] := by
    intro n
    induction n with
    | zero =>
      intro y2 y3 Z hX
      exact absurd hX (by simp [sX8_border_L4])
    | succ n ih =>
      intro y2 y3 Z hX
      rw [sX8_border_L4] at hX
      refine xv_iload_n (pc := 4) hC dX8_border_4 3 rfl rfl ?_
      refine xv_aload_n (pc := 5) hC dX8_border_5 0 rfl rfl ?_
      refine xgX8 (v := .ref (a 1)) (pc := 6) hC dX8_border_6 (rfl : shR 0 = 1) 0 (by decide) wf_1553 rfl ?_
      refine xv_iconst (v := 1) (pc := 9) hC dX8_border_9 (by decide) ?_
      obtain ⟨h_1, hX⟩ := gd_some hX
      refine xl_R2 (pc := 10) hC dX8_border_10 (rfl : shR 1 = 2) h_1 ?_
      refine xv_icmp_ge (tgt := 60) (pc := 11) hC dX8_border_11 (by decide) (fun c_2 => ?_) (fun c_2 => ?_)
      · replace hX := if_t c_2 hX
        refine xv_iload_n (pc := 60) hC dX8_border_60 2 rfl rfl ?_
        obtain ⟨h1, h2⟩ := some_pair hX
        exact xv_eqi (W := cwR dA a) h1 h2 (hR _ _ _ _ (Nat.le_of_ble_eq_true rfl) (Nat.le_of_ble_eq_true rfl) dX8_border_61)
      · replace hX := if_f c_2 hX
        refine xv_iload_n (pc := 14) hC dX8_border_14 2 rfl rfl ?_
        refine xv_aload_n (pc := 15) hC dX8_border_15 0 rfl rfl ?_
        refine xv_iload_n (pc := 16) hC dX8_border_16 3 rfl rfl ?_
        refine xv_iconst (v := (-1)) (pc := 17) hC dX8_border_17 (by decide) ?_
        obtain ⟨q_3, hq_3, hX⟩ := bnd_some hX
        refine xv_callVi0 (As := [.int y3, .int (-1)]) (pc := 18) hC (kX8_isFree hl hq_3) fV_X8_isFree wf_1735 (rc_X8 (rfl : shR 0 = 1)) rfl ⟨Nat.le_of_ble_eq_true rfl, Nat.le_of_ble_eq_true rfl⟩ rfl (Nat.le_of_ble_eq_true rfl) dX8_border_18 ⟨Nat.le_of_ble_eq_true rfl, Nat.le_of_ble_eq_true rfl⟩ ?_
        refine xv_if_eq (tgt := 51) (pc := 21) hC dX8_border_21 (by decide) (fun c_4 => ?_) (fun c_4 => ?_)
        · replace hX := if_t c_4 hX
          refine xv_iconst (v := 0) (pc := 51) hC dX8_border_51 (by decide) ?_
          refine xv_iadd (pc := 52) hC dX8_border_52 ?_
          obtain ⟨y_5, hy_5, hX⟩ := nm_some hX
          refine xv_nmi hy_5 ?_
          refine xv_istore_n (pc := 53) (lv' := [(2, .int y_5), (0, .ref (a 0)), (1, .int x1), (3, .int y3)]) hC dX8_border_53 rfl (by decide) rfl ?_
          obtain ⟨y_6, hy_6, hX⟩ := nm_some hX
          refine xv_iinc (pc := 54) (v := y_6) (lv' := [(3, .int y_6), (2, .int y_5), (0, .ref (a 0)), (1, .int x1)]) hC dX8_border_54 3 rfl (by rw [hy_6]; rfl) (by decide) rfl ?_
          refine xv_goto (tgt := 4) (pc := 57) hC dX8_border_57 (by decide) ?_
          refine xv_sub (lv' := [(0, .ref (a 0)), (1, .int x1), (2, .int y_5), (3, .int y_6)]) [2, 3, 1, 0] rfl ?_
          exact ih y_5 y_6 q_3.2 hX
        · replace hX := if_f c_4 hX
          refine xv_iload_n (pc := 24) hC dX8_border_24 1 rfl rfl ?_
          refine xv_aload_n (pc := 25) hC dX8_border_25 0 rfl rfl ?_
          refine xv_iload_n (pc := 26) hC dX8_border_26 3 rfl rfl ?_
          refine xv_iconst (v := 0) (pc := 27) hC dX8_border_27 (by decide) ?_
          obtain ⟨q_7, hq_7, hX⟩ := bnd_some hX
          refine xv_callVi0 (As := [.int y3, .int 0]) (pc := 28) hC (kX8_t hl hq_7) fV_X8_t wf_1703 (rc_X8 (rfl : shR 0 = 1)) rfl ⟨Nat.le_of_ble_eq_true rfl, Nat.le_of_ble_eq_true rfl⟩ rfl (Nat.le_of_ble_eq_true rfl) dX8_border_28 ⟨Nat.le_of_ble_eq_true rfl, Nat.le_of_ble_eq_true rfl⟩ ?_
          refine xv_ishr (pc := 31) hC dX8_border_31 ?_
          refine xv_iconst (v := 1) (pc := 32) hC dX8_border_32 (by decide) ?_
          refine xv_iand (pc := 33) hC dX8_border_33 ?_
          refine xv_iload_n (pc := 34) hC dX8_border_34 1 rfl rfl ?_
          refine xv_aload_n (pc := 35) hC dX8_border_35 0 rfl rfl ?_
          refine xv_iload_n (pc := 36) hC dX8_border_36 3 rfl rfl ?_
          refine xv_iconst (v := 1) (pc := 37) hC dX8_border_37 (by decide) ?_
          obtain ⟨q_8, hq_8, hX⟩ := bnd_some hX
          refine xv_callVi0 (As := [.int y3, .int 1]) (pc := 38) hC (kX8_t hl hq_8) fV_X8_t wf_1703 (rc_X8 (rfl : shR 0 = 1)) rfl ⟨Nat.le_of_ble_eq_true rfl, Nat.le_of_ble_eq_true rfl⟩ rfl (Nat.le_of_ble_eq_true rfl) dX8_border_38 ⟨Nat.le_of_ble_eq_true rfl, Nat.le_of_ble_eq_true rfl⟩ ?_
          refine xv_ishr (pc := 41) hC dX8_border_41 ?_
          refine xv_iconst (v := 1) (pc := 42) hC dX8_border_42 (by decide) ?_
          refine xv_iand (pc := 43) hC dX8_border_43 ?_
          refine xv_icmp_eq (tgt := 51) (pc := 44) hC dX8_border_44 (by decide) (fun c_9 => ?_) (fun c_9 => ?_)
          · replace hX := if_t c_9 hX
            refine xv_iconst (v := 0) (pc := 51) hC dX8_border_51 (by decide) ?_
            refine xv_iadd (pc := 52) hC dX8_border_52 ?_
            obtain ⟨y_10, hy_10, hX⟩ := nm_some hX
            refine xv_nmi hy_10 ?_
            refine xv_istore_n (pc := 53) (lv' := [(2, .int y_10), (0, .ref (a 0)), (1, .int x1), (3, .int y3)]) hC dX8_border_53 rfl (by decide) rfl ?_
            obtain ⟨y_11, hy_11, hX⟩ := nm_some hX
            refine xv_iinc (pc := 54) (v := y_11) (lv' := [(3, .int y_11), (2, .int y_10), (0, .ref (a 0)), (1, .int x1)]) hC dX8_border_54 3 rfl (by rw [hy_11]; rfl) (by decide) rfl ?_
            refine xv_goto (tgt := 4) (pc := 57) hC dX8_border_57 (by decide) ?_
            refine xv_sub (lv' := [(0, .ref (a 0)), (1, .int x1), (2, .int y_10), (3, .int y_11)]) [2, 3, 1, 0] rfl ?_
            exact ih y_10 y_11 q_8.2 hX
          · replace hX := if_f c_9 hX
            refine xv_iconst (v := 1) (pc := 47) hC dX8_border_47 (by decide) ?_
            refine xv_goto (tgt := 52) (pc := 48) hC dX8_border_48 (by decide) ?_
            refine xv_iadd (pc := 52) hC dX8_border_52 ?_
            obtain ⟨y_12, hy_12, hX⟩ := nm_some hX
            refine xv_nmi hy_12 ?_
            refine xv_istore_n (pc := 53) (lv' := [(2, .int y_12), (0, .ref (a 0)), (1, .int x1), (3, .int y3)]) hC dX8_border_53 rfl (by decide) rfl ?_
            obtain ⟨y_13, hy_13, hX⟩ := nm_some hX
            refine xv_iinc (pc := 54) (v := y_13) (lv' := [(3, .int y_13), (2, .int y_12), (0, .ref (a 0)), (1, .int x1)]) hC dX8_border_54 3 rfl (by rw [hy_13]; rfl) (by decide) rfl ?_
            refine xv_goto (tgt := 4) (pc := 57) hC dX8_border_57 (by decide) ?_
            refine xv_sub (lv' := [(0, .ref (a 0)), (1, .int x1), (2, .int y_12), (3, .int y_13)]) [2, 3, 1, 0] rfl ?_
            exact ih y_12 y_13 q_8.2 hX
  show xv p l e rmX8_border s m args below meth c D A 4 Q (cwR dA a Z) 0 0 0 [(0, .ref (a 0)), (1, .int x1)] []
  refine xv_iconst (v := 0) (pc := 0) hC dX8_border_0 (by decide) ?_
  refine xv_istore_n (pc := 1) (lv' := [(2, .int 0), (0, .ref (a 0)), (1, .int x1)]) hC dX8_border_1 rfl (by decide) rfl ?_
  refine xv_iconst (v := 0) (pc := 2) hC dX8_border_2 (by decide) ?_
  refine xv_istore_n (pc := 3) (lv' := [(3, .int 0), (2, .int 0), (0, .ref (a 0)), (1, .int x1)]) hC dX8_border_3 rfl (by decide) rfl ?_
  refine xv_sub (lv' := [(0, .ref (a 0)), (1, .int x1), (2, .int 0), (3, .int 0)]) [2, 3, 1, 0] rfl ?_
  exact v4 3000 0 0 Z hX
def sX8_least_L49 (x1 : Int32) (x2 : Int32) : Nat → Int32 → Int32 → ZZ → Option (Int32 × ZZ)
  | 0, _, _, _ => none
  | n + 1, y3, y4, Z =>
  gd (vin 0 180 = true) <|
  if (1 <<< ((gI Z 1 (0 : Int32).toNatClampNeg) &&& 31)) ≤ y4 then (
    some (y3, Z)) else (
    if ((y4 >>> (x1 &&& 31)) &&& 1) = 0 then (
      nm (y4 + 1) <| fun y_4 =>
      sX8_least_L49 x1 x2 n y3 y_4 Z) else (
      if ((y4 >>> (x2 &&& 31)) &&& 1) = 1 then (
        nm (y4 + 1) <| fun y_11 =>
        sX8_least_L49 x1 x2 n y3 y_11 Z) else (
        bnd (sX8_border y4 Z) <| fun q_6 =>
        nm (q_6.1) <| fun y_7 =>
        if y3 ≤ y_7 then (
          nm (y4 + 1) <| fun y_9 =>
          sX8_least_L49 x1 x2 n y3 y_9 q_6.2) else (
          nm (y4 + 1) <| fun y_10 =>
          sX8_least_L49 x1 x2 n y_7 y_10 q_6.2))))
def sX8_least_B31 (x1 : Int32) (x2 : Int32) (u1 : Int32) (Z : ZZ) : Option (Int32 × ZZ) :=
  nm (pI Z 0 8 u1) <| fun Z_12 =>
  if (gI Z_12 0 8) ≤ 0 then (
    sX8_least_L49 x1 x2 3000 16 0 Z_12) else (
    some (0, Z_12))
def sX8_least_B17 (x1 : Int32) (x2 : Int32) (Z : ZZ) : Option (Int32 × ZZ) :=
  sX8_least_B31 x1 x2 1 Z
def sX8_least (x1 : Int32) (x2 : Int32) (Z : ZZ) : Option (Int32 × ZZ) :=
  bnd (sX8_isSwitch x1 Z) <| fun q_14 =>
  if q_14.1 = 0 then (
    sX8_least_B17 x1 x2 q_14.2) else (
    bnd (sX8_isSwitch x2 q_14.2) <| fun q_16 =>
    if q_16.1 = 0 then (
      sX8_least_B17 x1 x2 q_16.2) else (
      if x1 = x2 then (
        sX8_least_B31 x1 x2 2 q_16.2) else (
        sX8_least_B31 x1 x2 0 q_16.2)))
abbrev rmX8_least : Room := { frames := 5, cells := 0, slots := 0, locals := 113 }
set_option maxHeartbeats 4000000 in
set_option maxRecDepth 100000 in
theorem kX8_least {l : Launch} {D : va_G} {dA : Nat → ClassId} {sa : String → Nat → Nat} {a : Nat → Nat} (hl : l.stackTraces = false) {x1 : Int32} {x2 : Int32} {Z Z' : ZZ} {v : Int32} (hX : sX8_least x1 x2 Z = some (v, Z')) : CTi l D dA sa yX8_least (wz yX8_least cX8_least 6 (some .int)) rmX8_least [.ref (a 0), .int x1, .int x2] (cwR dA a Z) v (cwR dA a Z') := by
  refine xm_i hl (by decide +kernel) (Nat.le_of_ble_eq_true rfl) rfl ?_
  intro p e s m args below meth c A Q hC hR
  unfold sX8_least at hX
  have v49 : ∀ (n : Nat) (y3 : Int32) (y4 : Int32) (Z : ZZ), sX8_least_L49 x1 x2 n y3 y4 Z = some (v, Z') → xv p l e rmX8_least s m args below meth c D A 6 Q (cwR dA a Z) 0 0 49 [(0, .ref (a 0)), (1, .int x1), (2, .int x2), (3, .int y3), (4, .int y4)] [] := by
    intro n
    induction n with
    | zero =>
      intro y3 y4 Z hX
      exact absurd hX (by simp [sX8_least_L49])
    | succ n ih =>
      intro y3 y4 Z hX
      rw [sX8_least_L49] at hX
      refine xv_iload (pc := 49) hC dX8_least_49 4 rfl ?_
      refine xv_iconst (v := 1) (pc := 51) hC dX8_least_51 (by decide) ?_
      refine xv_aload_n (pc := 52) hC dX8_least_52 0 rfl rfl ?_
      refine xgX8 (v := .ref (a 1)) (pc := 53) hC dX8_least_53 (rfl : shR 0 = 1) 0 (by decide) wf_1553 rfl ?_
      refine xv_iconst (v := 0) (pc := 56) hC dX8_least_56 (by decide) ?_
      obtain ⟨h_1, hX⟩ := gd_some hX
      refine xl_R2 (pc := 57) hC dX8_least_57 (rfl : shR 1 = 2) h_1 ?_
      refine xv_ishl (pc := 58) hC dX8_least_58 ?_
      refine xv_icmp_ge (tgt := 111) (pc := 59) hC dX8_least_59 (by decide) (fun c_2 => ?_) (fun c_2 => ?_)
      · replace hX := if_t c_2 hX
        refine xv_iload_n (pc := 111) hC dX8_least_111 3 rfl rfl ?_
        obtain ⟨h1, h2⟩ := some_pair hX
        exact xv_eqi (W := cwR dA a) h1 h2 (hR _ _ _ _ (Nat.le_of_ble_eq_true rfl) (Nat.le_of_ble_eq_true rfl) dX8_least_112)
      · replace hX := if_f c_2 hX
        refine xv_iload (pc := 62) hC dX8_least_62 4 rfl ?_
        refine xv_iload_n (pc := 64) hC dX8_least_64 1 rfl rfl ?_
        refine xv_ishr (pc := 65) hC dX8_least_65 ?_
        refine xv_iconst (v := 1) (pc := 66) hC dX8_least_66 (by decide) ?_
        refine xv_iand (pc := 67) hC dX8_least_67 ?_
        refine xv_if_eq (tgt := 105) (pc := 68) hC dX8_least_68 (by decide) (fun c_3 => ?_) (fun c_3 => ?_)
        · replace hX := if_t c_3 hX
          obtain ⟨y_4, hy_4, hX⟩ := nm_some hX
          refine xv_iinc (pc := 105) (v := y_4) (lv' := [(4, .int y_4), (0, .ref (a 0)), (1, .int x1), (2, .int x2), (3, .int y3)]) hC dX8_least_105 4 rfl (by rw [hy_4]; rfl) (by decide) rfl ?_
          refine xv_goto (tgt := 49) (pc := 108) hC dX8_least_108 (by decide) ?_
          refine xv_sub (lv' := [(0, .ref (a 0)), (1, .int x1), (2, .int x2), (3, .int y3), (4, .int y_4)]) [1, 2, 3, 4, 0] rfl ?_
          exact ih y3 y_4 Z hX
        · replace hX := if_f c_3 hX
          refine xv_iload (pc := 71) hC dX8_least_71 4 rfl ?_
          refine xv_iload_n (pc := 73) hC dX8_least_73 2 rfl rfl ?_
          refine xv_ishr (pc := 74) hC dX8_least_74 ?_
          refine xv_iconst (v := 1) (pc := 75) hC dX8_least_75 (by decide) ?_
          refine xv_iand (pc := 76) hC dX8_least_76 ?_
          refine xv_iconst (v := 1) (pc := 77) hC dX8_least_77 (by decide) ?_
          refine xv_icmp_ne (tgt := 84) (pc := 78) hC dX8_least_78 (by decide) (fun c_5 => ?_) (fun c_5 => ?_)
          · replace hX := if_f c_5 hX
            refine xv_aload_n (pc := 84) hC dX8_least_84 0 rfl rfl ?_
            refine xv_iload (pc := 85) hC dX8_least_85 4 rfl ?_
            obtain ⟨q_6, hq_6, hX⟩ := bnd_some hX
            refine xv_callVi0 (As := [.int y4]) (pc := 87) hC (kX8_border hl hq_6) fV_X8_border wf_1879 (rc_X8 (rfl : shR 0 = 1)) rfl ⟨Nat.le_of_ble_eq_true rfl, Nat.le_of_ble_eq_true rfl⟩ rfl (Nat.le_of_ble_eq_true rfl) dX8_least_87 ⟨Nat.le_of_ble_eq_true rfl, Nat.le_of_ble_eq_true rfl⟩ ?_
            obtain ⟨y_7, hy_7, hX⟩ := nm_some hX
            refine xv_nmi hy_7 ?_
            refine xv_istore (pc := 90) (lv' := [(5, .int y_7), (0, .ref (a 0)), (1, .int x1), (2, .int x2), (3, .int y3), (4, .int y4)]) hC dX8_least_90 (by decide) rfl ?_
            refine xv_iload (pc := 92) hC dX8_least_92 0 rfl ?_
            refine xv_iload_n (pc := 94) hC dX8_least_94 4 rfl rfl ?_
            refine xv_icmp_ge (tgt := 103) (pc := 95) hC dX8_least_95 (by decide) (fun c_8 => ?_) (fun c_8 => ?_)
            · replace hX := if_t c_8 hX
              refine xv_iload_n (pc := 103) hC dX8_least_103 4 rfl rfl ?_
              refine xv_istore_n (pc := 104) (lv' := [(3, .int y3), (5, .int y_7), (0, .ref (a 0)), (1, .int x1), (2, .int x2), (4, .int y4)]) hC dX8_least_104 rfl (by decide) rfl ?_
              obtain ⟨y_9, hy_9, hX⟩ := nm_some hX
              refine xv_iinc (pc := 105) (v := y_9) (lv' := [(4, .int y_9), (3, .int y3), (5, .int y_7), (0, .ref (a 0)), (1, .int x1), (2, .int x2)]) hC dX8_least_105 5 rfl (by rw [hy_9]; rfl) (by decide) rfl ?_
              refine xv_goto (tgt := 49) (pc := 108) hC dX8_least_108 (by decide) ?_
              refine xv_sub (lv' := [(0, .ref (a 0)), (1, .int x1), (2, .int x2), (3, .int y3), (4, .int y_9)]) [3, 4, 5, 1, 0] rfl ?_
              exact ih y3 y_9 q_6.2 hX
            · replace hX := if_f c_8 hX
              refine xv_iload (pc := 98) hC dX8_least_98 0 rfl ?_
              refine xv_goto (tgt := 104) (pc := 100) hC dX8_least_100 (by decide) ?_
              refine xv_istore_n (pc := 104) (lv' := [(3, .int y_7), (5, .int y_7), (0, .ref (a 0)), (1, .int x1), (2, .int x2), (4, .int y4)]) hC dX8_least_104 rfl (by decide) rfl ?_
              obtain ⟨y_10, hy_10, hX⟩ := nm_some hX
              refine xv_iinc (pc := 105) (v := y_10) (lv' := [(4, .int y_10), (3, .int y_7), (5, .int y_7), (0, .ref (a 0)), (1, .int x1), (2, .int x2)]) hC dX8_least_105 5 rfl (by rw [hy_10]; rfl) (by decide) rfl ?_
              refine xv_goto (tgt := 49) (pc := 108) hC dX8_least_108 (by decide) ?_
              refine xv_sub (lv' := [(0, .ref (a 0)), (1, .int x1), (2, .int x2), (3, .int y_7), (4, .int y_10)]) [3, 4, 5, 1, 0] rfl ?_
              exact ih y_7 y_10 q_6.2 hX
          · replace hX := if_t c_5 hX
            refine xv_goto (tgt := 105) (pc := 81) hC dX8_least_81 (by decide) ?_
            obtain ⟨y_11, hy_11, hX⟩ := nm_some hX
            refine xv_iinc (pc := 105) (v := y_11) (lv' := [(4, .int y_11), (0, .ref (a 0)), (1, .int x1), (2, .int x2), (3, .int y3)]) hC dX8_least_105 4 rfl (by rw [hy_11]; rfl) (by decide) rfl ?_
            refine xv_goto (tgt := 49) (pc := 108) hC dX8_least_108 (by decide) ?_
            refine xv_sub (lv' := [(0, .ref (a 0)), (1, .int x1), (2, .int x2), (3, .int y3), (4, .int y_11)]) [1, 2, 3, 4, 0] rfl ?_
            exact ih y3 y_11 Z hX
  have v31 : ∀ (u1 : Int32) (Z : ZZ), sX8_least_B31 x1 x2 u1 Z = some (v, Z') → xv p l e rmX8_least s m args below meth c D A 6 Q (cwR dA a Z) 0 0 31 [(0, .ref (a 0)), (1, .int x1), (2, .int x2)] [.int u1, .ref (a 0)] := by
    intro u1 Z hX
    unfold sX8_least_B31 at hX
    obtain ⟨Z_12, hZ_12, hX⟩ := nm_some hX
    refine xpX8 (ty := .int) (pc := 31) hC dX8_least_31 (rfl : shR 0 = 1) 8 (by decide) wf_1561 rfl (by decide +kernel) rfl rfl rfl hZ_12 ?_
    refine xv_aload_n (pc := 34) hC dX8_least_34 0 rfl rfl ?_
    refine xgX8 (v := .int (gI Z_12 0 8)) (pc := 35) hC dX8_least_35 (rfl : shR 0 = 1) 8 (by decide) wf_1561 rfl ?_
    refine xv_if_le (tgt := 43) (pc := 38) hC dX8_least_38 (by decide) (fun c_13 => ?_) (fun c_13 => ?_)
    · replace hX := if_t c_13 hX
      refine xv_bipush (v := 16) (pc := 43) hC dX8_least_43 (by decide) ?_
      refine xv_istore_n (pc := 45) (lv' := [(3, .int 16), (0, .ref (a 0)), (1, .int x1), (2, .int x2)]) hC dX8_least_45 rfl (by decide) rfl ?_
      refine xv_iconst (v := 0) (pc := 46) hC dX8_least_46 (by decide) ?_
      refine xv_istore (pc := 47) (lv' := [(4, .int 0), (3, .int 16), (0, .ref (a 0)), (1, .int x1), (2, .int x2)]) hC dX8_least_47 (by decide) rfl ?_
      refine xv_sub (lv' := [(0, .ref (a 0)), (1, .int x1), (2, .int x2), (3, .int 16), (4, .int 0)]) [2, 3, 4, 1, 0] rfl ?_
      exact v49 3000 16 0 Z_12 hX
    · replace hX := if_f c_13 hX
      refine xv_iconst (v := 0) (pc := 41) hC dX8_least_41 (by decide) ?_
      obtain ⟨h1, h2⟩ := some_pair hX
      exact xv_eqi (W := cwR dA a) h1 h2 (hR _ _ _ _ (Nat.le_of_ble_eq_true rfl) (Nat.le_of_ble_eq_true rfl) dX8_least_42)
  have v17 : ∀ (Z : ZZ), sX8_least_B17 x1 x2 Z = some (v, Z') → xv p l e rmX8_least s m args below meth c D A 6 Q (cwR dA a Z) 0 0 17 [(0, .ref (a 0)), (1, .int x1), (2, .int x2)] [.ref (a 0)] := by
    intro Z hX
    unfold sX8_least_B17 at hX
    refine xv_iconst (v := 1) (pc := 17) hC dX8_least_17 (by decide) ?_
    refine xv_goto (tgt := 31) (pc := 18) hC dX8_least_18 (by decide) ?_
    exact v31 1 Z hX
  show xv p l e rmX8_least s m args below meth c D A 6 Q (cwR dA a Z) 0 0 0 [(0, .ref (a 0)), (1, .int x1), (2, .int x2)] []
  refine xv_aload_n (pc := 0) hC dX8_least_0 0 rfl rfl ?_
  refine xv_aload_n (pc := 1) hC dX8_least_1 0 rfl rfl ?_
  refine xv_iload_n (pc := 2) hC dX8_least_2 1 rfl rfl ?_
  obtain ⟨q_14, hq_14, hX⟩ := bnd_some hX
  refine xv_callVi0 (As := [.int x1]) (pc := 3) hC (kX8_isSwitch hl hq_14) fV_X8_isSwitch wf_1664 (rc_X8 (rfl : shR 0 = 1)) rfl ⟨Nat.le_of_ble_eq_true rfl, Nat.le_of_ble_eq_true rfl⟩ rfl (Nat.le_of_ble_eq_true rfl) dX8_least_3 ⟨Nat.le_of_ble_eq_true rfl, Nat.le_of_ble_eq_true rfl⟩ ?_
  refine xv_if_eq (tgt := 17) (pc := 6) hC dX8_least_6 (by decide) (fun c_15 => ?_) (fun c_15 => ?_)
  · replace hX := if_t c_15 hX
    exact v17 q_14.2 hX
  · replace hX := if_f c_15 hX
    refine xv_aload_n (pc := 9) hC dX8_least_9 0 rfl rfl ?_
    refine xv_iload_n (pc := 10) hC dX8_least_10 2 rfl rfl ?_
    obtain ⟨q_16, hq_16, hX⟩ := bnd_some hX
    refine xv_callVi0 (As := [.int x2]) (pc := 11) hC (kX8_isSwitch hl hq_16) fV_X8_isSwitch wf_1664 (rc_X8 (rfl : shR 0 = 1)) rfl ⟨Nat.le_of_ble_eq_true rfl, Nat.le_of_ble_eq_true rfl⟩ rfl (Nat.le_of_ble_eq_true rfl) dX8_least_11 ⟨Nat.le_of_ble_eq_true rfl, Nat.le_of_ble_eq_true rfl⟩ ?_
    refine xv_if_ne (tgt := 21) (pc := 14) hC dX8_least_14 (by decide) (fun c_17 => ?_) (fun c_17 => ?_)
    · replace hX := if_f c_17 hX
      refine xv_iload_n (pc := 21) hC dX8_least_21 1 rfl rfl ?_
      refine xv_iload_n (pc := 22) hC dX8_least_22 2 rfl rfl ?_
      refine xv_icmp_ne (tgt := 30) (pc := 23) hC dX8_least_23 (by decide) (fun c_18 => ?_) (fun c_18 => ?_)
      · replace hX := if_f c_18 hX
        refine xv_iconst (v := 0) (pc := 30) hC dX8_least_30 (by decide) ?_
        exact v31 0 q_16.2 hX
      · replace hX := if_t c_18 hX
        refine xv_iconst (v := 2) (pc := 26) hC dX8_least_26 (by decide) ?_
        refine xv_goto (tgt := 31) (pc := 27) hC dX8_least_27 (by decide) ?_
        exact v31 2 q_16.2 hX
    · replace hX := if_t c_17 hX
      exact v17 q_16.2 hX
def sX8_disjointRoutes (x1 : Int32) (x2 : Int32) (Z : ZZ) : Option (Int32 × ZZ) :=
  bnd (sX8_least x1 x2 Z) <| fun q_1 =>
  some (q_1.1, q_1.2)
abbrev rmX8_disjointRoutes : Room := { frames := 6, cells := 0, slots := 0, locals := 138 }
set_option maxHeartbeats 4000000 in
set_option maxRecDepth 100000 in
theorem kX8_disjointRoutes {l : Launch} {D : va_G} {dA : Nat → ClassId} {sa : String → Nat → Nat} {a : Nat → Nat} (hl : l.stackTraces = false) {x1 : Int32} {x2 : Int32} {Z Z' : ZZ} {v : Int32} (hX : sX8_disjointRoutes x1 x2 Z = some (v, Z')) : CTi l D dA sa yX8_disjointRoutes (wz yX8_disjointRoutes cX8_disjointRoutes 3 (some .int)) rmX8_disjointRoutes [.ref (a 0), .int x1, .int x2] (cwR dA a Z) v (cwR dA a Z') := by
  refine xm_i hl (by decide +kernel) (Nat.le_of_ble_eq_true rfl) rfl ?_
  intro p e s m args below meth c A Q hC hR
  unfold sX8_disjointRoutes at hX
  show xv p l e rmX8_disjointRoutes s m args below meth c D A 3 Q (cwR dA a Z) 0 0 0 [(0, .ref (a 0)), (1, .int x1), (2, .int x2)] []
  refine xv_aload_n (pc := 0) hC dX8_disjointRoutes_0 0 rfl rfl ?_
  refine xv_iload_n (pc := 1) hC dX8_disjointRoutes_1 1 rfl rfl ?_
  refine xv_iload_n (pc := 2) hC dX8_disjointRoutes_2 2 rfl rfl ?_
  obtain ⟨q_1, hq_1, hX⟩ := bnd_some hX
  refine xv_callVi0 (As := [.int x1, .int x2]) (pc := 3) hC (kX8_least hl hq_1) fV_X8_least wf_1875 (rc_X8 (rfl : shR 0 = 1)) rfl ⟨Nat.le_of_ble_eq_true rfl, Nat.le_of_ble_eq_true rfl⟩ rfl (Nat.le_of_ble_eq_true rfl) dX8_disjointRoutes_3 ⟨Nat.le_of_ble_eq_true rfl, Nat.le_of_ble_eq_true rfl⟩ ?_
  obtain ⟨h1, h2⟩ := some_pair hX
  exact xv_eqi (W := cwR dA a) h1 h2 (hR _ _ _ _ (Nat.le_of_ble_eq_true rfl) (Nat.le_of_ble_eq_true rfl) dX8_disjointRoutes_6)
def sX8_minimalCut (x1 : Int32) (x2 : Int32) (Z : ZZ) : Option (Int32 × ZZ) :=
  bnd (sX8_least x1 x2 Z) <| fun q_1 =>
  some (q_1.1, q_1.2)
abbrev rmX8_minimalCut : Room := { frames := 6, cells := 0, slots := 0, locals := 138 }
set_option maxHeartbeats 4000000 in
set_option maxRecDepth 100000 in
theorem kX8_minimalCut {l : Launch} {D : va_G} {dA : Nat → ClassId} {sa : String → Nat → Nat} {a : Nat → Nat} (hl : l.stackTraces = false) {x1 : Int32} {x2 : Int32} {Z Z' : ZZ} {v : Int32} (hX : sX8_minimalCut x1 x2 Z = some (v, Z')) : CTi l D dA sa yX8_minimalCut (wz yX8_minimalCut cX8_minimalCut 3 (some .int)) rmX8_minimalCut [.ref (a 0), .int x1, .int x2] (cwR dA a Z) v (cwR dA a Z') := by
  refine xm_i hl (by decide +kernel) (Nat.le_of_ble_eq_true rfl) rfl ?_
  intro p e s m args below meth c A Q hC hR
  unfold sX8_minimalCut at hX
  show xv p l e rmX8_minimalCut s m args below meth c D A 3 Q (cwR dA a Z) 0 0 0 [(0, .ref (a 0)), (1, .int x1), (2, .int x2)] []
  refine xv_aload_n (pc := 0) hC dX8_minimalCut_0 0 rfl rfl ?_
  refine xv_iload_n (pc := 1) hC dX8_minimalCut_1 1 rfl rfl ?_
  refine xv_iload_n (pc := 2) hC dX8_minimalCut_2 2 rfl rfl ?_
  obtain ⟨q_1, hq_1, hX⟩ := bnd_some hX
  refine xv_callVi0 (As := [.int x1, .int x2]) (pc := 3) hC (kX8_least hl hq_1) fV_X8_least wf_1875 (rc_X8 (rfl : shR 0 = 1)) rfl ⟨Nat.le_of_ble_eq_true rfl, Nat.le_of_ble_eq_true rfl⟩ rfl (Nat.le_of_ble_eq_true rfl) dX8_minimalCut_3 ⟨Nat.le_of_ble_eq_true rfl, Nat.le_of_ble_eq_true rfl⟩ ?_
  obtain ⟨h1, h2⟩ := some_pair hX
  exact xv_eqi (W := cwR dA a) h1 h2 (hR _ _ _ _ (Nat.le_of_ble_eq_true rfl) (Nat.le_of_ble_eq_true rfl) dX8_minimalCut_6)
def sX8_subscribers (Z : ZZ) : Option (Int32 × ZZ) :=
  gd (vin 2 180 = true) <|
  bnd (sX8_plain (gI Z 1 (2 : Int32).toNatClampNeg) Z) <| fun q_2 =>
  some (q_2.1, q_2.2)
abbrev rmX8_subscribers : Room := { frames := 1, cells := 0, slots := 0, locals := 21 }
set_option maxHeartbeats 4000000 in
set_option maxRecDepth 100000 in
theorem kX8_subscribers {l : Launch} {D : va_G} {dA : Nat → ClassId} {sa : String → Nat → Nat} {a : Nat → Nat} (hl : l.stackTraces = false) {Z Z' : ZZ} {v : Int32} (hX : sX8_subscribers Z = some (v, Z')) : CTi l D dA sa yX8_subscribers (wz yX8_subscribers cX8_subscribers 1 (some .int)) rmX8_subscribers [.ref (a 0)] (cwR dA a Z) v (cwR dA a Z') := by
  refine xm_i hl (by decide +kernel) (Nat.le_of_ble_eq_true rfl) rfl ?_
  intro p e s m args below meth c A Q hC hR
  unfold sX8_subscribers at hX
  show xv p l e rmX8_subscribers s m args below meth c D A 1 Q (cwR dA a Z) 0 0 0 [(0, .ref (a 0))] []
  refine xv_aload_n (pc := 0) hC dX8_subscribers_0 0 rfl rfl ?_
  refine xv_aload_n (pc := 1) hC dX8_subscribers_1 0 rfl rfl ?_
  refine xgX8 (v := .ref (a 1)) (pc := 2) hC dX8_subscribers_2 (rfl : shR 0 = 1) 0 (by decide) wf_1553 rfl ?_
  refine xv_iconst (v := 2) (pc := 5) hC dX8_subscribers_5 (by decide) ?_
  obtain ⟨h_1, hX⟩ := gd_some hX
  refine xl_R2 (pc := 6) hC dX8_subscribers_6 (rfl : shR 1 = 2) h_1 ?_
  obtain ⟨q_2, hq_2, hX⟩ := bnd_some hX
  refine xv_callVi0 (As := [.int (gI Z 1 (2 : Int32).toNatClampNeg)]) (pc := 7) hC (kX8_plain hl hq_2) fV_X8_plain wf_1827 (rc_X8 (rfl : shR 0 = 1)) rfl ⟨Nat.le_of_ble_eq_true rfl, Nat.le_of_ble_eq_true rfl⟩ rfl (Nat.le_of_ble_eq_true rfl) dX8_subscribers_7 ⟨Nat.le_of_ble_eq_true rfl, Nat.le_of_ble_eq_true rfl⟩ ?_
  obtain ⟨h1, h2⟩ := some_pair hX
  exact xv_eqi (W := cwR dA a) h1 h2 (hR _ _ _ _ (Nat.le_of_ble_eq_true rfl) (Nat.le_of_ble_eq_true rfl) dX8_subscribers_10)
def sX8_ofUser (x1 : Int32) (x2 : Int32) (Z : ZZ) : Option (Int32 × ZZ) :=
  bnd (sX8_isUser x1 Z) <| fun q_1 =>
  bnd (sX8_checked q_1.1 q_1.2) <| fun q_2 =>
  if q_2.1 ≤ 0 then (
    bnd (sX8_u x1 x2 q_2.2) <| fun q_4 =>
    some (q_4.1, q_4.2)) else (
    some (0, q_2.2))
abbrev rmX8_ofUser : Room := { frames := 2, cells := 0, slots := 0, locals := 43 }
set_option maxHeartbeats 4000000 in
set_option maxRecDepth 100000 in
theorem kX8_ofUser {l : Launch} {D : va_G} {dA : Nat → ClassId} {sa : String → Nat → Nat} {a : Nat → Nat} (hl : l.stackTraces = false) {x1 : Int32} {x2 : Int32} {Z Z' : ZZ} {v : Int32} (hX : sX8_ofUser x1 x2 Z = some (v, Z')) : CTi l D dA sa yX8_ofUser (wz yX8_ofUser cX8_ofUser 3 (some .int)) rmX8_ofUser [.ref (a 0), .int x1, .int x2] (cwR dA a Z) v (cwR dA a Z') := by
  refine xm_i hl (by decide +kernel) (Nat.le_of_ble_eq_true rfl) rfl ?_
  intro p e s m args below meth c A Q hC hR
  unfold sX8_ofUser at hX
  show xv p l e rmX8_ofUser s m args below meth c D A 3 Q (cwR dA a Z) 0 0 0 [(0, .ref (a 0)), (1, .int x1), (2, .int x2)] []
  refine xv_aload_n (pc := 0) hC dX8_ofUser_0 0 rfl rfl ?_
  refine xv_aload_n (pc := 1) hC dX8_ofUser_1 0 rfl rfl ?_
  refine xv_iload_n (pc := 2) hC dX8_ofUser_2 1 rfl rfl ?_
  obtain ⟨q_1, hq_1, hX⟩ := bnd_some hX
  refine xv_callVi0 (As := [.int x1]) (pc := 3) hC (kX8_isUser hl hq_1) fV_X8_isUser wf_1791 (rc_X8 (rfl : shR 0 = 1)) rfl ⟨Nat.le_of_ble_eq_true rfl, Nat.le_of_ble_eq_true rfl⟩ rfl (Nat.le_of_ble_eq_true rfl) dX8_ofUser_3 ⟨Nat.le_of_ble_eq_true rfl, Nat.le_of_ble_eq_true rfl⟩ ?_
  obtain ⟨q_2, hq_2, hX⟩ := bnd_some hX
  refine xv_callVi0 (As := [.int q_1.1]) (pc := 6) hC (kX8_checked hl hq_2) fV_X8_checked wf_1839 (rc_X8 (rfl : shR 0 = 1)) rfl ⟨Nat.le_of_ble_eq_true rfl, Nat.le_of_ble_eq_true rfl⟩ rfl (Nat.le_of_ble_eq_true rfl) dX8_ofUser_6 ⟨Nat.le_of_ble_eq_true rfl, Nat.le_of_ble_eq_true rfl⟩ ?_
  refine xv_if_le (tgt := 16) (pc := 9) hC dX8_ofUser_9 (by decide) (fun c_3 => ?_) (fun c_3 => ?_)
  · replace hX := if_t c_3 hX
    refine xv_aload_n (pc := 16) hC dX8_ofUser_16 0 rfl rfl ?_
    refine xv_iload_n (pc := 17) hC dX8_ofUser_17 1 rfl rfl ?_
    refine xv_iload_n (pc := 18) hC dX8_ofUser_18 2 rfl rfl ?_
    obtain ⟨q_4, hq_4, hX⟩ := bnd_some hX
    refine xv_callVi0 (As := [.int x1, .int x2]) (pc := 19) hC (kX8_u hl hq_4) fV_X8_u wf_1723 (rc_X8 (rfl : shR 0 = 1)) rfl ⟨Nat.le_of_ble_eq_true rfl, Nat.le_of_ble_eq_true rfl⟩ rfl (Nat.le_of_ble_eq_true rfl) dX8_ofUser_19 ⟨Nat.le_of_ble_eq_true rfl, Nat.le_of_ble_eq_true rfl⟩ ?_
    obtain ⟨h1, h2⟩ := some_pair hX
    exact xv_eqi (W := cwR dA a) h1 h2 (hR _ _ _ _ (Nat.le_of_ble_eq_true rfl) (Nat.le_of_ble_eq_true rfl) dX8_ofUser_22)
  · replace hX := if_f c_3 hX
    refine xv_iconst (v := 0) (pc := 12) hC dX8_ofUser_12 (by decide) ?_
    refine xv_goto (tgt := 22) (pc := 13) hC dX8_ofUser_13 (by decide) ?_
    obtain ⟨h1, h2⟩ := some_pair hX
    exact xv_eqi (W := cwR dA a) h1 h2 (hR _ _ _ _ (Nat.le_of_ble_eq_true rfl) (Nat.le_of_ble_eq_true rfl) dX8_ofUser_22)
def sX8_home (x1 : Int32) (Z : ZZ) : Option (Int32 × ZZ) :=
  bnd (sX8_ofUser x1 0 Z) <| fun q_1 =>
  some (q_1.1, q_1.2)
abbrev rmX8_home : Room := { frames := 3, cells := 0, slots := 0, locals := 65 }
set_option maxHeartbeats 4000000 in
set_option maxRecDepth 100000 in
theorem kX8_home {l : Launch} {D : va_G} {dA : Nat → ClassId} {sa : String → Nat → Nat} {a : Nat → Nat} (hl : l.stackTraces = false) {x1 : Int32} {Z Z' : ZZ} {v : Int32} (hX : sX8_home x1 Z = some (v, Z')) : CTi l D dA sa yX8_home (wz yX8_home cX8_home 2 (some .int)) rmX8_home [.ref (a 0), .int x1] (cwR dA a Z) v (cwR dA a Z') := by
  refine xm_i hl (by decide +kernel) (Nat.le_of_ble_eq_true rfl) rfl ?_
  intro p e s m args below meth c A Q hC hR
  unfold sX8_home at hX
  show xv p l e rmX8_home s m args below meth c D A 2 Q (cwR dA a Z) 0 0 0 [(0, .ref (a 0)), (1, .int x1)] []
  refine xv_aload_n (pc := 0) hC dX8_home_0 0 rfl rfl ?_
  refine xv_iload_n (pc := 1) hC dX8_home_1 1 rfl rfl ?_
  refine xv_iconst (v := 0) (pc := 2) hC dX8_home_2 (by decide) ?_
  obtain ⟨q_1, hq_1, hX⟩ := bnd_some hX
  refine xv_callVi0 (As := [.int x1, .int 0]) (pc := 3) hC (kX8_ofUser hl hq_1) fV_X8_ofUser wf_1895 (rc_X8 (rfl : shR 0 = 1)) rfl ⟨Nat.le_of_ble_eq_true rfl, Nat.le_of_ble_eq_true rfl⟩ rfl (Nat.le_of_ble_eq_true rfl) dX8_home_3 ⟨Nat.le_of_ble_eq_true rfl, Nat.le_of_ble_eq_true rfl⟩ ?_
  obtain ⟨h1, h2⟩ := some_pair hX
  exact xv_eqi (W := cwR dA a) h1 h2 (hR _ _ _ _ (Nat.le_of_ble_eq_true rfl) (Nat.le_of_ble_eq_true rfl) dX8_home_6)
def sX8_tariff (x1 : Int32) (Z : ZZ) : Option (Int32 × ZZ) :=
  bnd (sX8_ofUser x1 1 Z) <| fun q_1 =>
  some (q_1.1, q_1.2)
abbrev rmX8_tariff : Room := { frames := 3, cells := 0, slots := 0, locals := 65 }
set_option maxHeartbeats 4000000 in
set_option maxRecDepth 100000 in
theorem kX8_tariff {l : Launch} {D : va_G} {dA : Nat → ClassId} {sa : String → Nat → Nat} {a : Nat → Nat} (hl : l.stackTraces = false) {x1 : Int32} {Z Z' : ZZ} {v : Int32} (hX : sX8_tariff x1 Z = some (v, Z')) : CTi l D dA sa yX8_tariff (wz yX8_tariff cX8_tariff 2 (some .int)) rmX8_tariff [.ref (a 0), .int x1] (cwR dA a Z) v (cwR dA a Z') := by
  refine xm_i hl (by decide +kernel) (Nat.le_of_ble_eq_true rfl) rfl ?_
  intro p e s m args below meth c A Q hC hR
  unfold sX8_tariff at hX
  show xv p l e rmX8_tariff s m args below meth c D A 2 Q (cwR dA a Z) 0 0 0 [(0, .ref (a 0)), (1, .int x1)] []
  refine xv_aload_n (pc := 0) hC dX8_tariff_0 0 rfl rfl ?_
  refine xv_iload_n (pc := 1) hC dX8_tariff_1 1 rfl rfl ?_
  refine xv_iconst (v := 1) (pc := 2) hC dX8_tariff_2 (by decide) ?_
  obtain ⟨q_1, hq_1, hX⟩ := bnd_some hX
  refine xv_callVi0 (As := [.int x1, .int 1]) (pc := 3) hC (kX8_ofUser hl hq_1) fV_X8_ofUser wf_1895 (rc_X8 (rfl : shR 0 = 1)) rfl ⟨Nat.le_of_ble_eq_true rfl, Nat.le_of_ble_eq_true rfl⟩ rfl (Nat.le_of_ble_eq_true rfl) dX8_tariff_3 ⟨Nat.le_of_ble_eq_true rfl, Nat.le_of_ble_eq_true rfl⟩ ?_
  obtain ⟨h1, h2⟩ := some_pair hX
  exact xv_eqi (W := cwR dA a) h1 h2 (hR _ _ _ _ (Nat.le_of_ble_eq_true rfl) (Nat.le_of_ble_eq_true rfl) dX8_tariff_6)
def sX8_bill (x1 : Int32) (Z : ZZ) : Option (Int32 × ZZ) :=
  bnd (sX8_ofUser x1 2 Z) <| fun q_1 =>
  some (q_1.1, q_1.2)
abbrev rmX8_bill : Room := { frames := 3, cells := 0, slots := 0, locals := 65 }
set_option maxHeartbeats 4000000 in
set_option maxRecDepth 100000 in
theorem kX8_bill {l : Launch} {D : va_G} {dA : Nat → ClassId} {sa : String → Nat → Nat} {a : Nat → Nat} (hl : l.stackTraces = false) {x1 : Int32} {Z Z' : ZZ} {v : Int32} (hX : sX8_bill x1 Z = some (v, Z')) : CTi l D dA sa yX8_bill (wz yX8_bill cX8_bill 2 (some .int)) rmX8_bill [.ref (a 0), .int x1] (cwR dA a Z) v (cwR dA a Z') := by
  refine xm_i hl (by decide +kernel) (Nat.le_of_ble_eq_true rfl) rfl ?_
  intro p e s m args below meth c A Q hC hR
  unfold sX8_bill at hX
  show xv p l e rmX8_bill s m args below meth c D A 2 Q (cwR dA a Z) 0 0 0 [(0, .ref (a 0)), (1, .int x1)] []
  refine xv_aload_n (pc := 0) hC dX8_bill_0 0 rfl rfl ?_
  refine xv_iload_n (pc := 1) hC dX8_bill_1 1 rfl rfl ?_
  refine xv_iconst (v := 2) (pc := 2) hC dX8_bill_2 (by decide) ?_
  obtain ⟨q_1, hq_1, hX⟩ := bnd_some hX
  refine xv_callVi0 (As := [.int x1, .int 2]) (pc := 3) hC (kX8_ofUser hl hq_1) fV_X8_ofUser wf_1895 (rc_X8 (rfl : shR 0 = 1)) rfl ⟨Nat.le_of_ble_eq_true rfl, Nat.le_of_ble_eq_true rfl⟩ rfl (Nat.le_of_ble_eq_true rfl) dX8_bill_3 ⟨Nat.le_of_ble_eq_true rfl, Nat.le_of_ble_eq_true rfl⟩ ?_
  obtain ⟨h1, h2⟩ := some_pair hX
  exact xv_eqi (W := cwR dA a) h1 h2 (hR _ _ _ _ (Nat.le_of_ble_eq_true rfl) (Nat.le_of_ble_eq_true rfl) dX8_bill_6)
def sX8_isTalking (x1 : Int32) (Z : ZZ) : Option (Int32 × ZZ) :=
  bnd (sX8_isUser x1 Z) <| fun q_1 =>
  bnd (sX8_checked q_1.1 q_1.2) <| fun q_2 =>
  if q_2.1 = 0 then (
    bnd (sX8_callOf x1 q_2.2) <| fun q_4 =>
    if q_4.1 < 0 then (
      some (0, q_4.2)) else (
      some (1, q_4.2))) else (
    some (0, q_2.2))
abbrev rmX8_isTalking : Room := { frames := 2, cells := 0, slots := 0, locals := 44 }
set_option maxHeartbeats 4000000 in
set_option maxRecDepth 100000 in
theorem kX8_isTalking {l : Launch} {D : va_G} {dA : Nat → ClassId} {sa : String → Nat → Nat} {a : Nat → Nat} (hl : l.stackTraces = false) {x1 : Int32} {Z Z' : ZZ} {v : Int32} (hX : sX8_isTalking x1 Z = some (v, Z')) : CTi l D dA sa yX8_isTalking (wz yX8_isTalking cX8_isTalking 2 (some .boolean)) rmX8_isTalking [.ref (a 0), .int x1] (cwR dA a Z) v (cwR dA a Z') := by
  refine xm_z hl (by decide +kernel) (Nat.le_of_ble_eq_true rfl) rfl ?_
  intro p e s m args below meth c A Q hC hR
  unfold sX8_isTalking at hX
  show xv p l e rmX8_isTalking s m args below meth c D A 2 Q (cwR dA a Z) 0 0 0 [(0, .ref (a 0)), (1, .int x1)] []
  refine xv_aload_n (pc := 0) hC dX8_isTalking_0 0 rfl rfl ?_
  refine xv_aload_n (pc := 1) hC dX8_isTalking_1 0 rfl rfl ?_
  refine xv_iload_n (pc := 2) hC dX8_isTalking_2 1 rfl rfl ?_
  obtain ⟨q_1, hq_1, hX⟩ := bnd_some hX
  refine xv_callVi0 (As := [.int x1]) (pc := 3) hC (kX8_isUser hl hq_1) fV_X8_isUser wf_1791 (rc_X8 (rfl : shR 0 = 1)) rfl ⟨Nat.le_of_ble_eq_true rfl, Nat.le_of_ble_eq_true rfl⟩ rfl (Nat.le_of_ble_eq_true rfl) dX8_isTalking_3 ⟨Nat.le_of_ble_eq_true rfl, Nat.le_of_ble_eq_true rfl⟩ ?_
  obtain ⟨q_2, hq_2, hX⟩ := bnd_some hX
  refine xv_callVi0 (As := [.int q_1.1]) (pc := 6) hC (kX8_checked hl hq_2) fV_X8_checked wf_1839 (rc_X8 (rfl : shR 0 = 1)) rfl ⟨Nat.le_of_ble_eq_true rfl, Nat.le_of_ble_eq_true rfl⟩ rfl (Nat.le_of_ble_eq_true rfl) dX8_isTalking_6 ⟨Nat.le_of_ble_eq_true rfl, Nat.le_of_ble_eq_true rfl⟩ ?_
  refine xv_if_ne (tgt := 24) (pc := 9) hC dX8_isTalking_9 (by decide) (fun c_3 => ?_) (fun c_3 => ?_)
  · replace hX := if_f c_3 hX
    refine xv_iconst (v := 0) (pc := 24) hC dX8_isTalking_24 (by decide) ?_
    obtain ⟨h1, h2⟩ := some_pair hX
    exact xv_eqi (W := cwR dA a) h1 h2 (hR _ _ _ _ (by rw [← h1]; exact (by decide)) (Nat.le_of_ble_eq_true rfl) (Nat.le_of_ble_eq_true rfl) dX8_isTalking_25)
  · replace hX := if_t c_3 hX
    refine xv_aload_n (pc := 12) hC dX8_isTalking_12 0 rfl rfl ?_
    refine xv_iload_n (pc := 13) hC dX8_isTalking_13 1 rfl rfl ?_
    obtain ⟨q_4, hq_4, hX⟩ := bnd_some hX
    refine xv_callVi0 (As := [.int x1]) (pc := 14) hC (kX8_callOf hl hq_4) fV_X8_callOf wf_1795 (rc_X8 (rfl : shR 0 = 1)) rfl ⟨Nat.le_of_ble_eq_true rfl, Nat.le_of_ble_eq_true rfl⟩ rfl (Nat.le_of_ble_eq_true rfl) dX8_isTalking_14 ⟨Nat.le_of_ble_eq_true rfl, Nat.le_of_ble_eq_true rfl⟩ ?_
    refine xv_if_lt (tgt := 24) (pc := 17) hC dX8_isTalking_17 (by decide) (fun c_5 => ?_) (fun c_5 => ?_)
    · replace hX := if_t c_5 hX
      refine xv_iconst (v := 0) (pc := 24) hC dX8_isTalking_24 (by decide) ?_
      obtain ⟨h1, h2⟩ := some_pair hX
      exact xv_eqi (W := cwR dA a) h1 h2 (hR _ _ _ _ (by rw [← h1]; exact (by decide)) (Nat.le_of_ble_eq_true rfl) (Nat.le_of_ble_eq_true rfl) dX8_isTalking_25)
    · replace hX := if_f c_5 hX
      refine xv_iconst (v := 1) (pc := 20) hC dX8_isTalking_20 (by decide) ?_
      refine xv_goto (tgt := 25) (pc := 21) hC dX8_isTalking_21 (by decide) ?_
      obtain ⟨h1, h2⟩ := some_pair hX
      exact xv_eqi (W := cwR dA a) h1 h2 (hR _ _ _ _ (by rw [← h1]; exact (by decide)) (Nat.le_of_ble_eq_true rfl) (Nat.le_of_ble_eq_true rfl) dX8_isTalking_25)
def sX8_talks (x1 : Int32) (Z : ZZ) : Option (Int32 × ZZ) :=
  bnd (sX8_cannotHang x1 Z) <| fun q_1 =>
  nm (pI q_1.2 0 8 q_1.1) <| fun Z_2 =>
  if (gI Z_2 0 8) ≤ 0 then (
    bnd (sX8_callOf x1 Z_2) <| fun q_4 =>
    some (q_4.1, q_4.2)) else (
    some (0, Z_2))
abbrev rmX8_talks : Room := { frames := 3, cells := 0, slots := 0, locals := 65 }
set_option maxHeartbeats 4000000 in
set_option maxRecDepth 100000 in
theorem kX8_talks {l : Launch} {D : va_G} {dA : Nat → ClassId} {sa : String → Nat → Nat} {a : Nat → Nat} (hl : l.stackTraces = false) {x1 : Int32} {Z Z' : ZZ} {v : Int32} (hX : sX8_talks x1 Z = some (v, Z')) : CTi l D dA sa yX8_talks (wz yX8_talks cX8_talks 2 (some .int)) rmX8_talks [.ref (a 0), .int x1] (cwR dA a Z) v (cwR dA a Z') := by
  refine xm_i hl (by decide +kernel) (Nat.le_of_ble_eq_true rfl) rfl ?_
  intro p e s m args below meth c A Q hC hR
  unfold sX8_talks at hX
  show xv p l e rmX8_talks s m args below meth c D A 2 Q (cwR dA a Z) 0 0 0 [(0, .ref (a 0)), (1, .int x1)] []
  refine xv_aload_n (pc := 0) hC dX8_talks_0 0 rfl rfl ?_
  refine xv_aload_n (pc := 1) hC dX8_talks_1 0 rfl rfl ?_
  refine xv_iload_n (pc := 2) hC dX8_talks_2 1 rfl rfl ?_
  obtain ⟨q_1, hq_1, hX⟩ := bnd_some hX
  refine xv_callVi0 (As := [.int x1]) (pc := 3) hC (kX8_cannotHang hl hq_1) fV_X8_cannotHang wf_1811 (rc_X8 (rfl : shR 0 = 1)) rfl ⟨Nat.le_of_ble_eq_true rfl, Nat.le_of_ble_eq_true rfl⟩ rfl (Nat.le_of_ble_eq_true rfl) dX8_talks_3 ⟨Nat.le_of_ble_eq_true rfl, Nat.le_of_ble_eq_true rfl⟩ ?_
  obtain ⟨Z_2, hZ_2, hX⟩ := nm_some hX
  refine xpX8 (ty := .int) (pc := 6) hC dX8_talks_6 (rfl : shR 0 = 1) 8 (by decide) wf_1561 rfl (by decide +kernel) rfl rfl rfl hZ_2 ?_
  refine xv_aload_n (pc := 9) hC dX8_talks_9 0 rfl rfl ?_
  refine xgX8 (v := .int (gI Z_2 0 8)) (pc := 10) hC dX8_talks_10 (rfl : shR 0 = 1) 8 (by decide) wf_1561 rfl ?_
  refine xv_if_le (tgt := 20) (pc := 13) hC dX8_talks_13 (by decide) (fun c_3 => ?_) (fun c_3 => ?_)
  · replace hX := if_t c_3 hX
    refine xv_aload_n (pc := 20) hC dX8_talks_20 0 rfl rfl ?_
    refine xv_iload_n (pc := 21) hC dX8_talks_21 1 rfl rfl ?_
    obtain ⟨q_4, hq_4, hX⟩ := bnd_some hX
    refine xv_callVi0 (As := [.int x1]) (pc := 22) hC (kX8_callOf hl hq_4) fV_X8_callOf wf_1795 (rc_X8 (rfl : shR 0 = 1)) rfl ⟨Nat.le_of_ble_eq_true rfl, Nat.le_of_ble_eq_true rfl⟩ rfl (Nat.le_of_ble_eq_true rfl) dX8_talks_22 ⟨Nat.le_of_ble_eq_true rfl, Nat.le_of_ble_eq_true rfl⟩ ?_
    obtain ⟨h1, h2⟩ := some_pair hX
    exact xv_eqi (W := cwR dA a) h1 h2 (hR _ _ _ _ (Nat.le_of_ble_eq_true rfl) (Nat.le_of_ble_eq_true rfl) dX8_talks_25)
  · replace hX := if_f c_3 hX
    refine xv_iconst (v := 0) (pc := 16) hC dX8_talks_16 (by decide) ?_
    refine xv_goto (tgt := 25) (pc := 17) hC dX8_talks_17 (by decide) ?_
    obtain ⟨h1, h2⟩ := some_pair hX
    exact xv_eqi (W := cwR dA a) h1 h2 (hR _ _ _ _ (Nat.le_of_ble_eq_true rfl) (Nat.le_of_ble_eq_true rfl) dX8_talks_25)
def sX8_partner (x1 : Int32) (Z : ZZ) : Option (Int32 × ZZ) :=
  bnd (sX8_talks x1 Z) <| fun q_1 =>
  nm (q_1.1) <| fun y_2 =>
  if (gI q_1.2 0 8) ≤ 0 then (
    bnd (sX8_c y_2 0 q_1.2) <| fun q_4 =>
    bnd (sX8_c y_2 1 q_4.2) <| fun q_5 =>
    some ((q_4.1 + q_5.1) - x1, q_5.2)) else (
    some (0, q_1.2))
abbrev rmX8_partner : Room := { frames := 4, cells := 0, slots := 0, locals := 86 }
set_option maxHeartbeats 4000000 in
set_option maxRecDepth 100000 in
theorem kX8_partner {l : Launch} {D : va_G} {dA : Nat → ClassId} {sa : String → Nat → Nat} {a : Nat → Nat} (hl : l.stackTraces = false) {x1 : Int32} {Z Z' : ZZ} {v : Int32} (hX : sX8_partner x1 Z = some (v, Z')) : CTi l D dA sa yX8_partner (wz yX8_partner cX8_partner 3 (some .int)) rmX8_partner [.ref (a 0), .int x1] (cwR dA a Z) v (cwR dA a Z') := by
  refine xm_i hl (by decide +kernel) (Nat.le_of_ble_eq_true rfl) rfl ?_
  intro p e s m args below meth c A Q hC hR
  unfold sX8_partner at hX
  show xv p l e rmX8_partner s m args below meth c D A 3 Q (cwR dA a Z) 0 0 0 [(0, .ref (a 0)), (1, .int x1)] []
  refine xv_aload_n (pc := 0) hC dX8_partner_0 0 rfl rfl ?_
  refine xv_iload_n (pc := 1) hC dX8_partner_1 1 rfl rfl ?_
  obtain ⟨q_1, hq_1, hX⟩ := bnd_some hX
  refine xv_callVi0 (As := [.int x1]) (pc := 2) hC (kX8_talks hl hq_1) fV_X8_talks wf_1915 (rc_X8 (rfl : shR 0 = 1)) rfl ⟨Nat.le_of_ble_eq_true rfl, Nat.le_of_ble_eq_true rfl⟩ rfl (Nat.le_of_ble_eq_true rfl) dX8_partner_2 ⟨Nat.le_of_ble_eq_true rfl, Nat.le_of_ble_eq_true rfl⟩ ?_
  obtain ⟨y_2, hy_2, hX⟩ := nm_some hX
  refine xv_nmi hy_2 ?_
  refine xv_istore_n (pc := 5) (lv' := [(2, .int y_2), (0, .ref (a 0)), (1, .int x1)]) hC dX8_partner_5 rfl (by decide) rfl ?_
  refine xv_aload_n (pc := 6) hC dX8_partner_6 1 rfl rfl ?_
  refine xgX8 (v := .int (gI q_1.2 0 8)) (pc := 7) hC dX8_partner_7 (rfl : shR 0 = 1) 8 (by decide) wf_1561 rfl ?_
  refine xv_if_le (tgt := 17) (pc := 10) hC dX8_partner_10 (by decide) (fun c_3 => ?_) (fun c_3 => ?_)
  · replace hX := if_t c_3 hX
    refine xv_aload_n (pc := 17) hC dX8_partner_17 1 rfl rfl ?_
    refine xv_iload_n (pc := 18) hC dX8_partner_18 0 rfl rfl ?_
    refine xv_iconst (v := 0) (pc := 19) hC dX8_partner_19 (by decide) ?_
    obtain ⟨q_4, hq_4, hX⟩ := bnd_some hX
    refine xv_callVi0 (As := [.int y_2, .int 0]) (pc := 20) hC (kX8_c hl hq_4) fV_X8_c wf_1719 (rc_X8 (rfl : shR 0 = 1)) rfl ⟨Nat.le_of_ble_eq_true rfl, Nat.le_of_ble_eq_true rfl⟩ rfl (Nat.le_of_ble_eq_true rfl) dX8_partner_20 ⟨Nat.le_of_ble_eq_true rfl, Nat.le_of_ble_eq_true rfl⟩ ?_
    refine xv_aload_n (pc := 23) hC dX8_partner_23 1 rfl rfl ?_
    refine xv_iload_n (pc := 24) hC dX8_partner_24 0 rfl rfl ?_
    refine xv_iconst (v := 1) (pc := 25) hC dX8_partner_25 (by decide) ?_
    obtain ⟨q_5, hq_5, hX⟩ := bnd_some hX
    refine xv_callVi0 (As := [.int y_2, .int 1]) (pc := 26) hC (kX8_c hl hq_5) fV_X8_c wf_1719 (rc_X8 (rfl : shR 0 = 1)) rfl ⟨Nat.le_of_ble_eq_true rfl, Nat.le_of_ble_eq_true rfl⟩ rfl (Nat.le_of_ble_eq_true rfl) dX8_partner_26 ⟨Nat.le_of_ble_eq_true rfl, Nat.le_of_ble_eq_true rfl⟩ ?_
    refine xv_iadd (pc := 29) hC dX8_partner_29 ?_
    refine xv_iload_n (pc := 30) hC dX8_partner_30 2 rfl rfl ?_
    refine xv_isub (pc := 31) hC dX8_partner_31 ?_
    obtain ⟨h1, h2⟩ := some_pair hX
    exact xv_eqi (W := cwR dA a) h1 h2 (hR _ _ _ _ (Nat.le_of_ble_eq_true rfl) (Nat.le_of_ble_eq_true rfl) dX8_partner_32)
  · replace hX := if_f c_3 hX
    refine xv_iconst (v := 0) (pc := 13) hC dX8_partner_13 (by decide) ?_
    refine xv_goto (tgt := 32) (pc := 14) hC dX8_partner_14 (by decide) ?_
    obtain ⟨h1, h2⟩ := some_pair hX
    exact xv_eqi (W := cwR dA a) h1 h2 (hR _ _ _ _ (Nat.le_of_ble_eq_true rfl) (Nat.le_of_ble_eq_true rfl) dX8_partner_32)
def sX8_minutes (x1 : Int32) (Z : ZZ) : Option (Int32 × ZZ) :=
  bnd (sX8_talks x1 Z) <| fun q_1 =>
  nm (q_1.1) <| fun y_2 =>
  if (gI q_1.2 0 8) ≤ 0 then (
    bnd (sX8_c y_2 2 q_1.2) <| fun q_4 =>
    some (q_4.1, q_4.2)) else (
    some (0, q_1.2))
abbrev rmX8_minutes : Room := { frames := 4, cells := 0, slots := 0, locals := 86 }
set_option maxHeartbeats 4000000 in
set_option maxRecDepth 100000 in
theorem kX8_minutes {l : Launch} {D : va_G} {dA : Nat → ClassId} {sa : String → Nat → Nat} {a : Nat → Nat} (hl : l.stackTraces = false) {x1 : Int32} {Z Z' : ZZ} {v : Int32} (hX : sX8_minutes x1 Z = some (v, Z')) : CTi l D dA sa yX8_minutes (wz yX8_minutes cX8_minutes 3 (some .int)) rmX8_minutes [.ref (a 0), .int x1] (cwR dA a Z) v (cwR dA a Z') := by
  refine xm_i hl (by decide +kernel) (Nat.le_of_ble_eq_true rfl) rfl ?_
  intro p e s m args below meth c A Q hC hR
  unfold sX8_minutes at hX
  show xv p l e rmX8_minutes s m args below meth c D A 3 Q (cwR dA a Z) 0 0 0 [(0, .ref (a 0)), (1, .int x1)] []
  refine xv_aload_n (pc := 0) hC dX8_minutes_0 0 rfl rfl ?_
  refine xv_iload_n (pc := 1) hC dX8_minutes_1 1 rfl rfl ?_
  obtain ⟨q_1, hq_1, hX⟩ := bnd_some hX
  refine xv_callVi0 (As := [.int x1]) (pc := 2) hC (kX8_talks hl hq_1) fV_X8_talks wf_1915 (rc_X8 (rfl : shR 0 = 1)) rfl ⟨Nat.le_of_ble_eq_true rfl, Nat.le_of_ble_eq_true rfl⟩ rfl (Nat.le_of_ble_eq_true rfl) dX8_minutes_2 ⟨Nat.le_of_ble_eq_true rfl, Nat.le_of_ble_eq_true rfl⟩ ?_
  obtain ⟨y_2, hy_2, hX⟩ := nm_some hX
  refine xv_nmi hy_2 ?_
  refine xv_istore_n (pc := 5) (lv' := [(2, .int y_2), (0, .ref (a 0)), (1, .int x1)]) hC dX8_minutes_5 rfl (by decide) rfl ?_
  refine xv_aload_n (pc := 6) hC dX8_minutes_6 1 rfl rfl ?_
  refine xgX8 (v := .int (gI q_1.2 0 8)) (pc := 7) hC dX8_minutes_7 (rfl : shR 0 = 1) 8 (by decide) wf_1561 rfl ?_
  refine xv_if_le (tgt := 17) (pc := 10) hC dX8_minutes_10 (by decide) (fun c_3 => ?_) (fun c_3 => ?_)
  · replace hX := if_t c_3 hX
    refine xv_aload_n (pc := 17) hC dX8_minutes_17 1 rfl rfl ?_
    refine xv_iload_n (pc := 18) hC dX8_minutes_18 0 rfl rfl ?_
    refine xv_iconst (v := 2) (pc := 19) hC dX8_minutes_19 (by decide) ?_
    obtain ⟨q_4, hq_4, hX⟩ := bnd_some hX
    refine xv_callVi0 (As := [.int y_2, .int 2]) (pc := 20) hC (kX8_c hl hq_4) fV_X8_c wf_1719 (rc_X8 (rfl : shR 0 = 1)) rfl ⟨Nat.le_of_ble_eq_true rfl, Nat.le_of_ble_eq_true rfl⟩ rfl (Nat.le_of_ble_eq_true rfl) dX8_minutes_20 ⟨Nat.le_of_ble_eq_true rfl, Nat.le_of_ble_eq_true rfl⟩ ?_
    obtain ⟨h1, h2⟩ := some_pair hX
    exact xv_eqi (W := cwR dA a) h1 h2 (hR _ _ _ _ (Nat.le_of_ble_eq_true rfl) (Nat.le_of_ble_eq_true rfl) dX8_minutes_23)
  · replace hX := if_f c_3 hX
    refine xv_iconst (v := 0) (pc := 13) hC dX8_minutes_13 (by decide) ?_
    refine xv_goto (tgt := 23) (pc := 14) hC dX8_minutes_14 (by decide) ?_
    obtain ⟨h1, h2⟩ := some_pair hX
    exact xv_eqi (W := cwR dA a) h1 h2 (hR _ _ _ _ (Nat.le_of_ble_eq_true rfl) (Nat.le_of_ble_eq_true rfl) dX8_minutes_23)
def sX8_routeSize (x1 : Int32) (Z : ZZ) : Option (Int32 × ZZ) :=
  bnd (sX8_talks x1 Z) <| fun q_1 =>
  nm (q_1.1) <| fun y_2 =>
  if (gI q_1.2 0 8) ≤ 0 then (
    bnd (sX8_c y_2 3 q_1.2) <| fun q_4 =>
    some (q_4.1, q_4.2)) else (
    some (0, q_1.2))
abbrev rmX8_routeSize : Room := { frames := 4, cells := 0, slots := 0, locals := 86 }
set_option maxHeartbeats 4000000 in
set_option maxRecDepth 100000 in
theorem kX8_routeSize {l : Launch} {D : va_G} {dA : Nat → ClassId} {sa : String → Nat → Nat} {a : Nat → Nat} (hl : l.stackTraces = false) {x1 : Int32} {Z Z' : ZZ} {v : Int32} (hX : sX8_routeSize x1 Z = some (v, Z')) : CTi l D dA sa yX8_routeSize (wz yX8_routeSize cX8_routeSize 3 (some .int)) rmX8_routeSize [.ref (a 0), .int x1] (cwR dA a Z) v (cwR dA a Z') := by
  refine xm_i hl (by decide +kernel) (Nat.le_of_ble_eq_true rfl) rfl ?_
  intro p e s m args below meth c A Q hC hR
  unfold sX8_routeSize at hX
  show xv p l e rmX8_routeSize s m args below meth c D A 3 Q (cwR dA a Z) 0 0 0 [(0, .ref (a 0)), (1, .int x1)] []
  refine xv_aload_n (pc := 0) hC dX8_routeSize_0 0 rfl rfl ?_
  refine xv_iload_n (pc := 1) hC dX8_routeSize_1 1 rfl rfl ?_
  obtain ⟨q_1, hq_1, hX⟩ := bnd_some hX
  refine xv_callVi0 (As := [.int x1]) (pc := 2) hC (kX8_talks hl hq_1) fV_X8_talks wf_1915 (rc_X8 (rfl : shR 0 = 1)) rfl ⟨Nat.le_of_ble_eq_true rfl, Nat.le_of_ble_eq_true rfl⟩ rfl (Nat.le_of_ble_eq_true rfl) dX8_routeSize_2 ⟨Nat.le_of_ble_eq_true rfl, Nat.le_of_ble_eq_true rfl⟩ ?_
  obtain ⟨y_2, hy_2, hX⟩ := nm_some hX
  refine xv_nmi hy_2 ?_
  refine xv_istore_n (pc := 5) (lv' := [(2, .int y_2), (0, .ref (a 0)), (1, .int x1)]) hC dX8_routeSize_5 rfl (by decide) rfl ?_
  refine xv_aload_n (pc := 6) hC dX8_routeSize_6 1 rfl rfl ?_
  refine xgX8 (v := .int (gI q_1.2 0 8)) (pc := 7) hC dX8_routeSize_7 (rfl : shR 0 = 1) 8 (by decide) wf_1561 rfl ?_
  refine xv_if_le (tgt := 17) (pc := 10) hC dX8_routeSize_10 (by decide) (fun c_3 => ?_) (fun c_3 => ?_)
  · replace hX := if_t c_3 hX
    refine xv_aload_n (pc := 17) hC dX8_routeSize_17 1 rfl rfl ?_
    refine xv_iload_n (pc := 18) hC dX8_routeSize_18 0 rfl rfl ?_
    refine xv_iconst (v := 3) (pc := 19) hC dX8_routeSize_19 (by decide) ?_
    obtain ⟨q_4, hq_4, hX⟩ := bnd_some hX
    refine xv_callVi0 (As := [.int y_2, .int 3]) (pc := 20) hC (kX8_c hl hq_4) fV_X8_c wf_1719 (rc_X8 (rfl : shR 0 = 1)) rfl ⟨Nat.le_of_ble_eq_true rfl, Nat.le_of_ble_eq_true rfl⟩ rfl (Nat.le_of_ble_eq_true rfl) dX8_routeSize_20 ⟨Nat.le_of_ble_eq_true rfl, Nat.le_of_ble_eq_true rfl⟩ ?_
    obtain ⟨h1, h2⟩ := some_pair hX
    exact xv_eqi (W := cwR dA a) h1 h2 (hR _ _ _ _ (Nat.le_of_ble_eq_true rfl) (Nat.le_of_ble_eq_true rfl) dX8_routeSize_23)
  · replace hX := if_f c_3 hX
    refine xv_iconst (v := 0) (pc := 13) hC dX8_routeSize_13 (by decide) ?_
    refine xv_goto (tgt := 23) (pc := 14) hC dX8_routeSize_14 (by decide) ?_
    obtain ⟨h1, h2⟩ := some_pair hX
    exact xv_eqi (W := cwR dA a) h1 h2 (hR _ _ _ _ (Nat.le_of_ble_eq_true rfl) (Nat.le_of_ble_eq_true rfl) dX8_routeSize_23)
def sX8_routeTrunk (x1 : Int32) (x2 : Int32) (Z : ZZ) : Option (Int32 × ZZ) :=
  bnd (sX8_talks x1 Z) <| fun q_1 =>
  nm (q_1.1) <| fun y_2 =>
  if (gI q_1.2 0 8) ≤ 0 then (
    bnd (sX8_c y_2 3 q_1.2) <| fun q_4 =>
    bnd (sX8_in x2 0 (q_4.1 - 1) q_4.2) <| fun q_5 =>
    if q_5.1 = 0 then (
      bnd (sX8_fail 2 q_5.2) <| fun q_7 =>
      some (q_7.1, q_7.2)) else (
      bnd (sX8_c y_2 (4 + x2) q_5.2) <| fun q_8 =>
      some (q_8.1, q_8.2))) else (
    some (0, q_1.2))
abbrev rmX8_routeTrunk : Room := { frames := 4, cells := 0, slots := 0, locals := 86 }
set_option maxHeartbeats 4000000 in
set_option maxRecDepth 100000 in
theorem kX8_routeTrunk {l : Launch} {D : va_G} {dA : Nat → ClassId} {sa : String → Nat → Nat} {a : Nat → Nat} (hl : l.stackTraces = false) {x1 : Int32} {x2 : Int32} {Z Z' : ZZ} {v : Int32} (hX : sX8_routeTrunk x1 x2 Z = some (v, Z')) : CTi l D dA sa yX8_routeTrunk (wz yX8_routeTrunk cX8_routeTrunk 4 (some .int)) rmX8_routeTrunk [.ref (a 0), .int x1, .int x2] (cwR dA a Z) v (cwR dA a Z') := by
  refine xm_i hl (by decide +kernel) (Nat.le_of_ble_eq_true rfl) rfl ?_
  intro p e s m args below meth c A Q hC hR
  unfold sX8_routeTrunk at hX
  show xv p l e rmX8_routeTrunk s m args below meth c D A 4 Q (cwR dA a Z) 0 0 0 [(0, .ref (a 0)), (1, .int x1), (2, .int x2)] []
  refine xv_aload_n (pc := 0) hC dX8_routeTrunk_0 0 rfl rfl ?_
  refine xv_iload_n (pc := 1) hC dX8_routeTrunk_1 1 rfl rfl ?_
  obtain ⟨q_1, hq_1, hX⟩ := bnd_some hX
  refine xv_callVi0 (As := [.int x1]) (pc := 2) hC (kX8_talks hl hq_1) fV_X8_talks wf_1915 (rc_X8 (rfl : shR 0 = 1)) rfl ⟨Nat.le_of_ble_eq_true rfl, Nat.le_of_ble_eq_true rfl⟩ rfl (Nat.le_of_ble_eq_true rfl) dX8_routeTrunk_2 ⟨Nat.le_of_ble_eq_true rfl, Nat.le_of_ble_eq_true rfl⟩ ?_
  obtain ⟨y_2, hy_2, hX⟩ := nm_some hX
  refine xv_nmi hy_2 ?_
  refine xv_istore_n (pc := 5) (lv' := [(3, .int y_2), (0, .ref (a 0)), (1, .int x1), (2, .int x2)]) hC dX8_routeTrunk_5 rfl (by decide) rfl ?_
  refine xv_aload_n (pc := 6) hC dX8_routeTrunk_6 1 rfl rfl ?_
  refine xgX8 (v := .int (gI q_1.2 0 8)) (pc := 7) hC dX8_routeTrunk_7 (rfl : shR 0 = 1) 8 (by decide) wf_1561 rfl ?_
  refine xv_if_le (tgt := 15) (pc := 10) hC dX8_routeTrunk_10 (by decide) (fun c_3 => ?_) (fun c_3 => ?_)
  · replace hX := if_t c_3 hX
    refine xv_iload_n (pc := 15) hC dX8_routeTrunk_15 3 rfl rfl ?_
    refine xv_iconst (v := 0) (pc := 16) hC dX8_routeTrunk_16 (by decide) ?_
    refine xv_aload_n (pc := 17) hC dX8_routeTrunk_17 1 rfl rfl ?_
    refine xv_iload_n (pc := 18) hC dX8_routeTrunk_18 0 rfl rfl ?_
    refine xv_iconst (v := 3) (pc := 19) hC dX8_routeTrunk_19 (by decide) ?_
    obtain ⟨q_4, hq_4, hX⟩ := bnd_some hX
    refine xv_callVi0 (As := [.int y_2, .int 3]) (pc := 20) hC (kX8_c hl hq_4) fV_X8_c wf_1719 (rc_X8 (rfl : shR 0 = 1)) rfl ⟨Nat.le_of_ble_eq_true rfl, Nat.le_of_ble_eq_true rfl⟩ rfl (Nat.le_of_ble_eq_true rfl) dX8_routeTrunk_20 ⟨Nat.le_of_ble_eq_true rfl, Nat.le_of_ble_eq_true rfl⟩ ?_
    refine xv_iconst (v := 1) (pc := 23) hC dX8_routeTrunk_23 (by decide) ?_
    refine xv_isub (pc := 24) hC dX8_routeTrunk_24 ?_
    obtain ⟨q_5, hq_5, hX⟩ := bnd_some hX
    refine xv_callSi0 (As := [.int x2, .int 0, .int (q_4.1 - 1)]) (pc := 25) hC (kX8_in hl hq_5) fS_X8_in wf_1668 rfl ⟨Nat.le_of_ble_eq_true rfl, Nat.le_of_ble_eq_true rfl⟩ rfl (Nat.le_of_ble_eq_true rfl) dX8_routeTrunk_25 ⟨Nat.le_of_ble_eq_true rfl, Nat.le_of_ble_eq_true rfl⟩ ?_
    refine xv_if_eq (tgt := 42) (pc := 28) hC dX8_routeTrunk_28 (by decide) (fun c_6 => ?_) (fun c_6 => ?_)
    · replace hX := if_t c_6 hX
      refine xv_aload_n (pc := 42) hC dX8_routeTrunk_42 1 rfl rfl ?_
      refine xv_iconst (v := 2) (pc := 43) hC dX8_routeTrunk_43 (by decide) ?_
      obtain ⟨q_7, hq_7, hX⟩ := bnd_some hX
      refine xv_callVi0 (As := [.int 2]) (pc := 44) hC (kX8_fail hl hq_7) fV_X8_fail wf_1644 (rc_X8 (rfl : shR 0 = 1)) rfl ⟨Nat.le_of_ble_eq_true rfl, Nat.le_of_ble_eq_true rfl⟩ rfl (Nat.le_of_ble_eq_true rfl) dX8_routeTrunk_44 ⟨Nat.le_of_ble_eq_true rfl, Nat.le_of_ble_eq_true rfl⟩ ?_
      obtain ⟨h1, h2⟩ := some_pair hX
      exact xv_eqi (W := cwR dA a) h1 h2 (hR _ _ _ _ (Nat.le_of_ble_eq_true rfl) (Nat.le_of_ble_eq_true rfl) dX8_routeTrunk_47)
    · replace hX := if_f c_6 hX
      refine xv_aload_n (pc := 31) hC dX8_routeTrunk_31 1 rfl rfl ?_
      refine xv_iload_n (pc := 32) hC dX8_routeTrunk_32 0 rfl rfl ?_
      refine xv_iconst (v := 4) (pc := 33) hC dX8_routeTrunk_33 (by decide) ?_
      refine xv_iload_n (pc := 34) hC dX8_routeTrunk_34 3 rfl rfl ?_
      refine xv_iadd (pc := 35) hC dX8_routeTrunk_35 ?_
      obtain ⟨q_8, hq_8, hX⟩ := bnd_some hX
      refine xv_callVi0 (As := [.int y_2, .int (4 + x2)]) (pc := 36) hC (kX8_c hl hq_8) fV_X8_c wf_1719 (rc_X8 (rfl : shR 0 = 1)) rfl ⟨Nat.le_of_ble_eq_true rfl, Nat.le_of_ble_eq_true rfl⟩ rfl (Nat.le_of_ble_eq_true rfl) dX8_routeTrunk_36 ⟨Nat.le_of_ble_eq_true rfl, Nat.le_of_ble_eq_true rfl⟩ ?_
      refine xv_goto (tgt := 47) (pc := 39) hC dX8_routeTrunk_39 (by decide) ?_
      obtain ⟨h1, h2⟩ := some_pair hX
      exact xv_eqi (W := cwR dA a) h1 h2 (hR _ _ _ _ (Nat.le_of_ble_eq_true rfl) (Nat.le_of_ble_eq_true rfl) dX8_routeTrunk_47)
  · replace hX := if_f c_3 hX
    refine xv_iconst (v := 0) (pc := 13) hC dX8_routeTrunk_13 (by decide) ?_
    obtain ⟨h1, h2⟩ := some_pair hX
    exact xv_eqi (W := cwR dA a) h1 h2 (hR _ _ _ _ (Nat.le_of_ble_eq_true rfl) (Nat.le_of_ble_eq_true rfl) dX8_routeTrunk_14)
def sX8_chargeNow (x1 : Int32) (Z : ZZ) : Option (Int32 × ZZ) :=
  bnd (sX8_talks x1 Z) <| fun q_1 =>
  nm (q_1.1) <| fun y_2 =>
  if (gI q_1.2 0 8) ≤ 0 then (
    bnd (sX8_chargeOf y_2 q_1.2) <| fun q_4 =>
    some (q_4.1, q_4.2)) else (
    some (0, q_1.2))
abbrev rmX8_chargeNow : Room := { frames := 4, cells := 0, slots := 0, locals := 86 }
set_option maxHeartbeats 4000000 in
set_option maxRecDepth 100000 in
theorem kX8_chargeNow {l : Launch} {D : va_G} {dA : Nat → ClassId} {sa : String → Nat → Nat} {a : Nat → Nat} (hl : l.stackTraces = false) {x1 : Int32} {Z Z' : ZZ} {v : Int32} (hX : sX8_chargeNow x1 Z = some (v, Z')) : CTi l D dA sa yX8_chargeNow (wz yX8_chargeNow cX8_chargeNow 3 (some .int)) rmX8_chargeNow [.ref (a 0), .int x1] (cwR dA a Z) v (cwR dA a Z') := by
  refine xm_i hl (by decide +kernel) (Nat.le_of_ble_eq_true rfl) rfl ?_
  intro p e s m args below meth c A Q hC hR
  unfold sX8_chargeNow at hX
  show xv p l e rmX8_chargeNow s m args below meth c D A 3 Q (cwR dA a Z) 0 0 0 [(0, .ref (a 0)), (1, .int x1)] []
  refine xv_aload_n (pc := 0) hC dX8_chargeNow_0 0 rfl rfl ?_
  refine xv_iload_n (pc := 1) hC dX8_chargeNow_1 1 rfl rfl ?_
  obtain ⟨q_1, hq_1, hX⟩ := bnd_some hX
  refine xv_callVi0 (As := [.int x1]) (pc := 2) hC (kX8_talks hl hq_1) fV_X8_talks wf_1915 (rc_X8 (rfl : shR 0 = 1)) rfl ⟨Nat.le_of_ble_eq_true rfl, Nat.le_of_ble_eq_true rfl⟩ rfl (Nat.le_of_ble_eq_true rfl) dX8_chargeNow_2 ⟨Nat.le_of_ble_eq_true rfl, Nat.le_of_ble_eq_true rfl⟩ ?_
  obtain ⟨y_2, hy_2, hX⟩ := nm_some hX
  refine xv_nmi hy_2 ?_
  refine xv_istore_n (pc := 5) (lv' := [(2, .int y_2), (0, .ref (a 0)), (1, .int x1)]) hC dX8_chargeNow_5 rfl (by decide) rfl ?_
  refine xv_aload_n (pc := 6) hC dX8_chargeNow_6 1 rfl rfl ?_
  refine xgX8 (v := .int (gI q_1.2 0 8)) (pc := 7) hC dX8_chargeNow_7 (rfl : shR 0 = 1) 8 (by decide) wf_1561 rfl ?_
  refine xv_if_le (tgt := 17) (pc := 10) hC dX8_chargeNow_10 (by decide) (fun c_3 => ?_) (fun c_3 => ?_)
  · replace hX := if_t c_3 hX
    refine xv_aload_n (pc := 17) hC dX8_chargeNow_17 1 rfl rfl ?_
    refine xv_iload_n (pc := 18) hC dX8_chargeNow_18 0 rfl rfl ?_
    obtain ⟨q_4, hq_4, hX⟩ := bnd_some hX
    refine xv_callVi0 (As := [.int y_2]) (pc := 19) hC (kX8_chargeOf hl hq_4) fV_X8_chargeOf wf_1755 (rc_X8 (rfl : shR 0 = 1)) rfl ⟨Nat.le_of_ble_eq_true rfl, Nat.le_of_ble_eq_true rfl⟩ rfl (Nat.le_of_ble_eq_true rfl) dX8_chargeNow_19 ⟨Nat.le_of_ble_eq_true rfl, Nat.le_of_ble_eq_true rfl⟩ ?_
    obtain ⟨h1, h2⟩ := some_pair hX
    exact xv_eqi (W := cwR dA a) h1 h2 (hR _ _ _ _ (Nat.le_of_ble_eq_true rfl) (Nat.le_of_ble_eq_true rfl) dX8_chargeNow_22)
  · replace hX := if_f c_3 hX
    refine xv_iconst (v := 0) (pc := 13) hC dX8_chargeNow_13 (by decide) ?_
    refine xv_goto (tgt := 22) (pc := 14) hC dX8_chargeNow_14 (by decide) ?_
    obtain ⟨h1, h2⟩ := some_pair hX
    exact xv_eqi (W := cwR dA a) h1 h2 (hR _ _ _ _ (Nat.le_of_ble_eq_true rfl) (Nat.le_of_ble_eq_true rfl) dX8_chargeNow_22)
def sX8_calls (Z : ZZ) : Option (Int32 × ZZ) :=
  gd (vin 3 180 = true) <|
  bnd (sX8_plain (gI Z 1 (3 : Int32).toNatClampNeg) Z) <| fun q_2 =>
  some (q_2.1, q_2.2)
abbrev rmX8_calls : Room := { frames := 1, cells := 0, slots := 0, locals := 21 }
set_option maxHeartbeats 4000000 in
set_option maxRecDepth 100000 in
theorem kX8_calls {l : Launch} {D : va_G} {dA : Nat → ClassId} {sa : String → Nat → Nat} {a : Nat → Nat} (hl : l.stackTraces = false) {Z Z' : ZZ} {v : Int32} (hX : sX8_calls Z = some (v, Z')) : CTi l D dA sa yX8_calls (wz yX8_calls cX8_calls 1 (some .int)) rmX8_calls [.ref (a 0)] (cwR dA a Z) v (cwR dA a Z') := by
  refine xm_i hl (by decide +kernel) (Nat.le_of_ble_eq_true rfl) rfl ?_
  intro p e s m args below meth c A Q hC hR
  unfold sX8_calls at hX
  show xv p l e rmX8_calls s m args below meth c D A 1 Q (cwR dA a Z) 0 0 0 [(0, .ref (a 0))] []
  refine xv_aload_n (pc := 0) hC dX8_calls_0 0 rfl rfl ?_
  refine xv_aload_n (pc := 1) hC dX8_calls_1 0 rfl rfl ?_
  refine xgX8 (v := .ref (a 1)) (pc := 2) hC dX8_calls_2 (rfl : shR 0 = 1) 0 (by decide) wf_1553 rfl ?_
  refine xv_iconst (v := 3) (pc := 5) hC dX8_calls_5 (by decide) ?_
  obtain ⟨h_1, hX⟩ := gd_some hX
  refine xl_R2 (pc := 6) hC dX8_calls_6 (rfl : shR 1 = 2) h_1 ?_
  obtain ⟨q_2, hq_2, hX⟩ := bnd_some hX
  refine xv_callVi0 (As := [.int (gI Z 1 (3 : Int32).toNatClampNeg)]) (pc := 7) hC (kX8_plain hl hq_2) fV_X8_plain wf_1827 (rc_X8 (rfl : shR 0 = 1)) rfl ⟨Nat.le_of_ble_eq_true rfl, Nat.le_of_ble_eq_true rfl⟩ rfl (Nat.le_of_ble_eq_true rfl) dX8_calls_7 ⟨Nat.le_of_ble_eq_true rfl, Nat.le_of_ble_eq_true rfl⟩ ?_
  obtain ⟨h1, h2⟩ := some_pair hX
  exact xv_eqi (W := cwR dA a) h1 h2 (hR _ _ _ _ (Nat.le_of_ble_eq_true rfl) (Nat.le_of_ble_eq_true rfl) dX8_calls_10)
def sX8_blockedCalls (Z : ZZ) : Option (Int32 × ZZ) :=
  bnd (sX8_plain (gI Z 0 12) Z) <| fun q_1 =>
  some (q_1.1, q_1.2)
abbrev rmX8_blockedCalls : Room := { frames := 1, cells := 0, slots := 0, locals := 21 }
set_option maxHeartbeats 4000000 in
set_option maxRecDepth 100000 in
theorem kX8_blockedCalls {l : Launch} {D : va_G} {dA : Nat → ClassId} {sa : String → Nat → Nat} {a : Nat → Nat} (hl : l.stackTraces = false) {Z Z' : ZZ} {v : Int32} (hX : sX8_blockedCalls Z = some (v, Z')) : CTi l D dA sa yX8_blockedCalls (wz yX8_blockedCalls cX8_blockedCalls 1 (some .int)) rmX8_blockedCalls [.ref (a 0)] (cwR dA a Z) v (cwR dA a Z') := by
  refine xm_i hl (by decide +kernel) (Nat.le_of_ble_eq_true rfl) rfl ?_
  intro p e s m args below meth c A Q hC hR
  unfold sX8_blockedCalls at hX
  show xv p l e rmX8_blockedCalls s m args below meth c D A 1 Q (cwR dA a Z) 0 0 0 [(0, .ref (a 0))] []
  refine xv_aload_n (pc := 0) hC dX8_blockedCalls_0 0 rfl rfl ?_
  refine xv_aload_n (pc := 1) hC dX8_blockedCalls_1 0 rfl rfl ?_
  refine xgX8 (v := .int (gI Z 0 12)) (pc := 2) hC dX8_blockedCalls_2 (rfl : shR 0 = 1) 12 (by decide) wf_1565 rfl ?_
  obtain ⟨q_1, hq_1, hX⟩ := bnd_some hX
  refine xv_callVi0 (As := [.int (gI Z 0 12)]) (pc := 5) hC (kX8_plain hl hq_1) fV_X8_plain wf_1827 (rc_X8 (rfl : shR 0 = 1)) rfl ⟨Nat.le_of_ble_eq_true rfl, Nat.le_of_ble_eq_true rfl⟩ rfl (Nat.le_of_ble_eq_true rfl) dX8_blockedCalls_5 ⟨Nat.le_of_ble_eq_true rfl, Nat.le_of_ble_eq_true rfl⟩ ?_
  obtain ⟨h1, h2⟩ := some_pair hX
  exact xv_eqi (W := cwR dA a) h1 h2 (hR _ _ _ _ (Nat.le_of_ble_eq_true rfl) (Nat.le_of_ble_eq_true rfl) dX8_blockedCalls_8)
def sX8_ofBlocked (x1 : Int32) (x2 : Int32) (Z : ZZ) : Option (Int32 × ZZ) :=
  bnd (sX8_in x1 0 ((gI Z 0 12) - 1) Z) <| fun q_1 =>
  bnd (sX8_checked q_1.1 q_1.2) <| fun q_2 =>
  if q_2.1 ≤ 0 then (
    gd (vin ((3 * x1) + x2) 24 = true) <|
    some (gI q_2.2 5 ((3 * x1) + x2).toNatClampNeg, q_2.2)) else (
    some (0, q_2.2))
abbrev rmX8_ofBlocked : Room := { frames := 1, cells := 0, slots := 0, locals := 22 }
set_option maxHeartbeats 4000000 in
set_option maxRecDepth 100000 in
theorem kX8_ofBlocked {l : Launch} {D : va_G} {dA : Nat → ClassId} {sa : String → Nat → Nat} {a : Nat → Nat} (hl : l.stackTraces = false) {x1 : Int32} {x2 : Int32} {Z Z' : ZZ} {v : Int32} (hX : sX8_ofBlocked x1 x2 Z = some (v, Z')) : CTi l D dA sa yX8_ofBlocked (wz yX8_ofBlocked cX8_ofBlocked 3 (some .int)) rmX8_ofBlocked [.ref (a 0), .int x1, .int x2] (cwR dA a Z) v (cwR dA a Z') := by
  refine xm_i hl (by decide +kernel) (Nat.le_of_ble_eq_true rfl) rfl ?_
  intro p e s m args below meth c A Q hC hR
  unfold sX8_ofBlocked at hX
  show xv p l e rmX8_ofBlocked s m args below meth c D A 3 Q (cwR dA a Z) 0 0 0 [(0, .ref (a 0)), (1, .int x1), (2, .int x2)] []
  refine xv_aload_n (pc := 0) hC dX8_ofBlocked_0 0 rfl rfl ?_
  refine xv_iload_n (pc := 1) hC dX8_ofBlocked_1 1 rfl rfl ?_
  refine xv_iconst (v := 0) (pc := 2) hC dX8_ofBlocked_2 (by decide) ?_
  refine xv_aload_n (pc := 3) hC dX8_ofBlocked_3 0 rfl rfl ?_
  refine xgX8 (v := .int (gI Z 0 12)) (pc := 4) hC dX8_ofBlocked_4 (rfl : shR 0 = 1) 12 (by decide) wf_1565 rfl ?_
  refine xv_iconst (v := 1) (pc := 7) hC dX8_ofBlocked_7 (by decide) ?_
  refine xv_isub (pc := 8) hC dX8_ofBlocked_8 ?_
  obtain ⟨q_1, hq_1, hX⟩ := bnd_some hX
  refine xv_callSi0 (As := [.int x1, .int 0, .int ((gI Z 0 12) - 1)]) (pc := 9) hC (kX8_in hl hq_1) fS_X8_in wf_1668 rfl ⟨Nat.le_of_ble_eq_true rfl, Nat.le_of_ble_eq_true rfl⟩ rfl (Nat.le_of_ble_eq_true rfl) dX8_ofBlocked_9 ⟨Nat.le_of_ble_eq_true rfl, Nat.le_of_ble_eq_true rfl⟩ ?_
  obtain ⟨q_2, hq_2, hX⟩ := bnd_some hX
  refine xv_callVi0 (As := [.int q_1.1]) (pc := 12) hC (kX8_checked hl hq_2) fV_X8_checked wf_1839 (rc_X8 (rfl : shR 0 = 1)) rfl ⟨Nat.le_of_ble_eq_true rfl, Nat.le_of_ble_eq_true rfl⟩ rfl (Nat.le_of_ble_eq_true rfl) dX8_ofBlocked_12 ⟨Nat.le_of_ble_eq_true rfl, Nat.le_of_ble_eq_true rfl⟩ ?_
  refine xv_if_le (tgt := 22) (pc := 15) hC dX8_ofBlocked_15 (by decide) (fun c_3 => ?_) (fun c_3 => ?_)
  · replace hX := if_t c_3 hX
    refine xv_aload_n (pc := 22) hC dX8_ofBlocked_22 0 rfl rfl ?_
    refine xgX8 (v := .ref (a 5)) (pc := 23) hC dX8_ofBlocked_23 (rfl : shR 0 = 1) 4 (by decide) wf_1557 rfl ?_
    refine xv_iconst (v := 3) (pc := 26) hC dX8_ofBlocked_26 (by decide) ?_
    refine xv_iload_n (pc := 27) hC dX8_ofBlocked_27 1 rfl rfl ?_
    refine xv_imul (pc := 28) hC dX8_ofBlocked_28 ?_
    refine xv_iload_n (pc := 29) hC dX8_ofBlocked_29 2 rfl rfl ?_
    refine xv_iadd (pc := 30) hC dX8_ofBlocked_30 ?_
    obtain ⟨h_4, hX⟩ := gd_some hX
    refine xl_R4 (pc := 31) hC dX8_ofBlocked_31 (rfl : shR 5 = 4) h_4 ?_
    obtain ⟨h1, h2⟩ := some_pair hX
    exact xv_eqi (W := cwR dA a) h1 h2 (hR _ _ _ _ (Nat.le_of_ble_eq_true rfl) (Nat.le_of_ble_eq_true rfl) dX8_ofBlocked_32)
  · replace hX := if_f c_3 hX
    refine xv_iconst (v := 0) (pc := 18) hC dX8_ofBlocked_18 (by decide) ?_
    refine xv_goto (tgt := 32) (pc := 19) hC dX8_ofBlocked_19 (by decide) ?_
    obtain ⟨h1, h2⟩ := some_pair hX
    exact xv_eqi (W := cwR dA a) h1 h2 (hR _ _ _ _ (Nat.le_of_ble_eq_true rfl) (Nat.le_of_ble_eq_true rfl) dX8_ofBlocked_32)
def sX8_blockedCaller (x1 : Int32) (Z : ZZ) : Option (Int32 × ZZ) :=
  bnd (sX8_ofBlocked x1 0 Z) <| fun q_1 =>
  some (q_1.1, q_1.2)
abbrev rmX8_blockedCaller : Room := { frames := 2, cells := 0, slots := 0, locals := 44 }
set_option maxHeartbeats 4000000 in
set_option maxRecDepth 100000 in
theorem kX8_blockedCaller {l : Launch} {D : va_G} {dA : Nat → ClassId} {sa : String → Nat → Nat} {a : Nat → Nat} (hl : l.stackTraces = false) {x1 : Int32} {Z Z' : ZZ} {v : Int32} (hX : sX8_blockedCaller x1 Z = some (v, Z')) : CTi l D dA sa yX8_blockedCaller (wz yX8_blockedCaller cX8_blockedCaller 2 (some .int)) rmX8_blockedCaller [.ref (a 0), .int x1] (cwR dA a Z) v (cwR dA a Z') := by
  refine xm_i hl (by decide +kernel) (Nat.le_of_ble_eq_true rfl) rfl ?_
  intro p e s m args below meth c A Q hC hR
  unfold sX8_blockedCaller at hX
  show xv p l e rmX8_blockedCaller s m args below meth c D A 2 Q (cwR dA a Z) 0 0 0 [(0, .ref (a 0)), (1, .int x1)] []
  refine xv_aload_n (pc := 0) hC dX8_blockedCaller_0 0 rfl rfl ?_
  refine xv_iload_n (pc := 1) hC dX8_blockedCaller_1 1 rfl rfl ?_
  refine xv_iconst (v := 0) (pc := 2) hC dX8_blockedCaller_2 (by decide) ?_
  obtain ⟨q_1, hq_1, hX⟩ := bnd_some hX
  refine xv_callVi0 (As := [.int x1, .int 0]) (pc := 3) hC (kX8_ofBlocked hl hq_1) fV_X8_ofBlocked wf_1947 (rc_X8 (rfl : shR 0 = 1)) rfl ⟨Nat.le_of_ble_eq_true rfl, Nat.le_of_ble_eq_true rfl⟩ rfl (Nat.le_of_ble_eq_true rfl) dX8_blockedCaller_3 ⟨Nat.le_of_ble_eq_true rfl, Nat.le_of_ble_eq_true rfl⟩ ?_
  obtain ⟨h1, h2⟩ := some_pair hX
  exact xv_eqi (W := cwR dA a) h1 h2 (hR _ _ _ _ (Nat.le_of_ble_eq_true rfl) (Nat.le_of_ble_eq_true rfl) dX8_blockedCaller_6)
def sX8_blockedCallee (x1 : Int32) (Z : ZZ) : Option (Int32 × ZZ) :=
  bnd (sX8_ofBlocked x1 1 Z) <| fun q_1 =>
  some (q_1.1, q_1.2)
abbrev rmX8_blockedCallee : Room := { frames := 2, cells := 0, slots := 0, locals := 44 }
set_option maxHeartbeats 4000000 in
set_option maxRecDepth 100000 in
theorem kX8_blockedCallee {l : Launch} {D : va_G} {dA : Nat → ClassId} {sa : String → Nat → Nat} {a : Nat → Nat} (hl : l.stackTraces = false) {x1 : Int32} {Z Z' : ZZ} {v : Int32} (hX : sX8_blockedCallee x1 Z = some (v, Z')) : CTi l D dA sa yX8_blockedCallee (wz yX8_blockedCallee cX8_blockedCallee 2 (some .int)) rmX8_blockedCallee [.ref (a 0), .int x1] (cwR dA a Z) v (cwR dA a Z') := by
  refine xm_i hl (by decide +kernel) (Nat.le_of_ble_eq_true rfl) rfl ?_
  intro p e s m args below meth c A Q hC hR
  unfold sX8_blockedCallee at hX
  show xv p l e rmX8_blockedCallee s m args below meth c D A 2 Q (cwR dA a Z) 0 0 0 [(0, .ref (a 0)), (1, .int x1)] []
  refine xv_aload_n (pc := 0) hC dX8_blockedCallee_0 0 rfl rfl ?_
  refine xv_iload_n (pc := 1) hC dX8_blockedCallee_1 1 rfl rfl ?_
  refine xv_iconst (v := 1) (pc := 2) hC dX8_blockedCallee_2 (by decide) ?_
  obtain ⟨q_1, hq_1, hX⟩ := bnd_some hX
  refine xv_callVi0 (As := [.int x1, .int 1]) (pc := 3) hC (kX8_ofBlocked hl hq_1) fV_X8_ofBlocked wf_1947 (rc_X8 (rfl : shR 0 = 1)) rfl ⟨Nat.le_of_ble_eq_true rfl, Nat.le_of_ble_eq_true rfl⟩ rfl (Nat.le_of_ble_eq_true rfl) dX8_blockedCallee_3 ⟨Nat.le_of_ble_eq_true rfl, Nat.le_of_ble_eq_true rfl⟩ ?_
  obtain ⟨h1, h2⟩ := some_pair hX
  exact xv_eqi (W := cwR dA a) h1 h2 (hR _ _ _ _ (Nat.le_of_ble_eq_true rfl) (Nat.le_of_ble_eq_true rfl) dX8_blockedCallee_6)
def sX8_blockedReason (x1 : Int32) (Z : ZZ) : Option (Int32 × ZZ) :=
  bnd (sX8_ofBlocked x1 2 Z) <| fun q_1 =>
  nm (q_1.1) <| fun y_2 =>
  if (gI q_1.2 0 8) ≤ 0 then (
    gd (nch (ichar y_2) = true) <|
    some (ichar y_2, q_1.2)) else (
    gd (nch 32 = true) <|
    some (32, q_1.2))
abbrev rmX8_blockedReason : Room := { frames := 2, cells := 0, slots := 0, locals := 44 }
set_option maxHeartbeats 4000000 in
set_option maxRecDepth 100000 in
theorem kX8_blockedReason {l : Launch} {D : va_G} {dA : Nat → ClassId} {sa : String → Nat → Nat} {a : Nat → Nat} (hl : l.stackTraces = false) {x1 : Int32} {Z Z' : ZZ} {v : Int32} (hX : sX8_blockedReason x1 Z = some (v, Z')) : CTi l D dA sa yX8_blockedReason (wz yX8_blockedReason cX8_blockedReason 3 (some .char)) rmX8_blockedReason [.ref (a 0), .int x1] (cwR dA a Z) v (cwR dA a Z') := by
  refine xm_z hl (by decide +kernel) (Nat.le_of_ble_eq_true rfl) rfl ?_
  intro p e s m args below meth c A Q hC hR
  unfold sX8_blockedReason at hX
  show xv p l e rmX8_blockedReason s m args below meth c D A 3 Q (cwR dA a Z) 0 0 0 [(0, .ref (a 0)), (1, .int x1)] []
  refine xv_aload_n (pc := 0) hC dX8_blockedReason_0 0 rfl rfl ?_
  refine xv_iload_n (pc := 1) hC dX8_blockedReason_1 1 rfl rfl ?_
  refine xv_iconst (v := 2) (pc := 2) hC dX8_blockedReason_2 (by decide) ?_
  obtain ⟨q_1, hq_1, hX⟩ := bnd_some hX
  refine xv_callVi0 (As := [.int x1, .int 2]) (pc := 3) hC (kX8_ofBlocked hl hq_1) fV_X8_ofBlocked wf_1947 (rc_X8 (rfl : shR 0 = 1)) rfl ⟨Nat.le_of_ble_eq_true rfl, Nat.le_of_ble_eq_true rfl⟩ rfl (Nat.le_of_ble_eq_true rfl) dX8_blockedReason_3 ⟨Nat.le_of_ble_eq_true rfl, Nat.le_of_ble_eq_true rfl⟩ ?_
  obtain ⟨y_2, hy_2, hX⟩ := nm_some hX
  refine xv_nmi hy_2 ?_
  refine xv_istore_n (pc := 6) (lv' := [(2, .int y_2), (0, .ref (a 0)), (1, .int x1)]) hC dX8_blockedReason_6 rfl (by decide) rfl ?_
  refine xv_aload_n (pc := 7) hC dX8_blockedReason_7 1 rfl rfl ?_
  refine xgX8 (v := .int (gI q_1.2 0 8)) (pc := 8) hC dX8_blockedReason_8 (rfl : shR 0 = 1) 8 (by decide) wf_1561 rfl ?_
  refine xv_if_le (tgt := 19) (pc := 11) hC dX8_blockedReason_11 (by decide) (fun c_3 => ?_) (fun c_3 => ?_)
  · replace hX := if_t c_3 hX
    refine xv_iload_n (pc := 19) hC dX8_blockedReason_19 0 rfl rfl ?_
    refine xv_i2c (pc := 20) hC dX8_blockedReason_20 ?_
    obtain ⟨h_4, hX⟩ := gd_some hX
    obtain ⟨h1, h2⟩ := some_pair hX
    exact xv_eqi (W := cwR dA a) h1 h2 (hR _ _ _ _ (by rw [← h1]; exact (nch_n h_4)) (Nat.le_of_ble_eq_true rfl) (Nat.le_of_ble_eq_true rfl) dX8_blockedReason_21)
  · replace hX := if_f c_3 hX
    refine xv_bipush (v := 32) (pc := 14) hC dX8_blockedReason_14 (by decide) ?_
    refine xv_goto (tgt := 21) (pc := 16) hC dX8_blockedReason_16 (by decide) ?_
    obtain ⟨h_5, hX⟩ := gd_some hX
    obtain ⟨h1, h2⟩ := some_pair hX
    exact xv_eqi (W := cwR dA a) h1 h2 (hR _ _ _ _ (by rw [← h1]; exact (nch_n h_5)) (Nat.le_of_ble_eq_true rfl) (Nat.le_of_ble_eq_true rfl) dX8_blockedReason_21)
def sX8_totalBills (Z : ZZ) : Option (Int64 × ZZ) :=
  gd (vin 5 180 = true) <|
  bnd (sX8_plain (gI Z 1 (5 : Int32).toNatClampNeg) Z) <| fun q_2 =>
  some (q_2.1.toInt64, q_2.2)
abbrev rmX8_totalBills : Room := { frames := 1, cells := 0, slots := 0, locals := 21 }
set_option maxHeartbeats 4000000 in
set_option maxRecDepth 100000 in
theorem kX8_totalBills {l : Launch} {D : va_G} {dA : Nat → ClassId} {sa : String → Nat → Nat} {a : Nat → Nat} (hl : l.stackTraces = false) {Z Z' : ZZ} {v : Int64} (hX : sX8_totalBills Z = some (v, Z')) : CTl l D dA sa yX8_totalBills (wz yX8_totalBills cX8_totalBills 1 (some .long)) rmX8_totalBills [.ref (a 0)] (cwR dA a Z) v (cwR dA a Z') := by
  refine xm_l hl (by decide +kernel) (Nat.le_of_ble_eq_true rfl) rfl ?_
  intro p e s m args below meth c A Q hC hR
  unfold sX8_totalBills at hX
  show xv p l e rmX8_totalBills s m args below meth c D A 1 Q (cwR dA a Z) 0 0 0 [(0, .ref (a 0))] []
  refine xv_aload_n (pc := 0) hC dX8_totalBills_0 0 rfl rfl ?_
  refine xv_aload_n (pc := 1) hC dX8_totalBills_1 0 rfl rfl ?_
  refine xgX8 (v := .ref (a 1)) (pc := 2) hC dX8_totalBills_2 (rfl : shR 0 = 1) 0 (by decide) wf_1553 rfl ?_
  refine xv_iconst (v := 5) (pc := 5) hC dX8_totalBills_5 (by decide) ?_
  obtain ⟨h_1, hX⟩ := gd_some hX
  refine xl_R2 (pc := 6) hC dX8_totalBills_6 (rfl : shR 1 = 2) h_1 ?_
  obtain ⟨q_2, hq_2, hX⟩ := bnd_some hX
  refine xv_callVi0 (As := [.int (gI Z 1 (5 : Int32).toNatClampNeg)]) (pc := 7) hC (kX8_plain hl hq_2) fV_X8_plain wf_1827 (rc_X8 (rfl : shR 0 = 1)) rfl ⟨Nat.le_of_ble_eq_true rfl, Nat.le_of_ble_eq_true rfl⟩ rfl (Nat.le_of_ble_eq_true rfl) dX8_totalBills_7 ⟨Nat.le_of_ble_eq_true rfl, Nat.le_of_ble_eq_true rfl⟩ ?_
  refine xv_i2l (pc := 10) hC dX8_totalBills_10 ?_
  obtain ⟨h1, h2⟩ := some_pair hX
  exact xv_eql (W := cwR dA a) h1 h2 (hR _ _ _ _ (Nat.le_of_ble_eq_true rfl) (Nat.le_of_ble_eq_true rfl) dX8_totalBills_11)
def sX8_totalCharges (Z : ZZ) : Option (Int64 × ZZ) :=
  gd (vin 5 180 = true) <|
  bnd (sX8_plain (gI Z 1 (5 : Int32).toNatClampNeg) Z) <| fun q_2 =>
  some (q_2.1.toInt64, q_2.2)
abbrev rmX8_totalCharges : Room := { frames := 1, cells := 0, slots := 0, locals := 21 }
set_option maxHeartbeats 4000000 in
set_option maxRecDepth 100000 in
theorem kX8_totalCharges {l : Launch} {D : va_G} {dA : Nat → ClassId} {sa : String → Nat → Nat} {a : Nat → Nat} (hl : l.stackTraces = false) {Z Z' : ZZ} {v : Int64} (hX : sX8_totalCharges Z = some (v, Z')) : CTl l D dA sa yX8_totalCharges (wz yX8_totalCharges cX8_totalCharges 1 (some .long)) rmX8_totalCharges [.ref (a 0)] (cwR dA a Z) v (cwR dA a Z') := by
  refine xm_l hl (by decide +kernel) (Nat.le_of_ble_eq_true rfl) rfl ?_
  intro p e s m args below meth c A Q hC hR
  unfold sX8_totalCharges at hX
  show xv p l e rmX8_totalCharges s m args below meth c D A 1 Q (cwR dA a Z) 0 0 0 [(0, .ref (a 0))] []
  refine xv_aload_n (pc := 0) hC dX8_totalCharges_0 0 rfl rfl ?_
  refine xv_aload_n (pc := 1) hC dX8_totalCharges_1 0 rfl rfl ?_
  refine xgX8 (v := .ref (a 1)) (pc := 2) hC dX8_totalCharges_2 (rfl : shR 0 = 1) 0 (by decide) wf_1553 rfl ?_
  refine xv_iconst (v := 5) (pc := 5) hC dX8_totalCharges_5 (by decide) ?_
  obtain ⟨h_1, hX⟩ := gd_some hX
  refine xl_R2 (pc := 6) hC dX8_totalCharges_6 (rfl : shR 1 = 2) h_1 ?_
  obtain ⟨q_2, hq_2, hX⟩ := bnd_some hX
  refine xv_callVi0 (As := [.int (gI Z 1 (5 : Int32).toNatClampNeg)]) (pc := 7) hC (kX8_plain hl hq_2) fV_X8_plain wf_1827 (rc_X8 (rfl : shR 0 = 1)) rfl ⟨Nat.le_of_ble_eq_true rfl, Nat.le_of_ble_eq_true rfl⟩ rfl (Nat.le_of_ble_eq_true rfl) dX8_totalCharges_7 ⟨Nat.le_of_ble_eq_true rfl, Nat.le_of_ble_eq_true rfl⟩ ?_
  refine xv_i2l (pc := 10) hC dX8_totalCharges_10 ?_
  obtain ⟨h1, h2⟩ := some_pair hX
  exact xv_eql (W := cwR dA a) h1 h2 (hR _ _ _ _ (Nat.le_of_ble_eq_true rfl) (Nat.le_of_ble_eq_true rfl) dX8_totalCharges_11)
def sX8_subscriberByBill_B98 (x1 : Int32) (Z : ZZ) : Option (Int32 × ZZ) :=
  bnd (sX8_fail 1 Z) <| fun q_1 =>
  some (q_1.1, q_1.2)
def sX8_subscriberByBill_B85 (x1 : Int32) (k7 : Int32 → ZZ → Option (Int32 × ZZ)) (y2 : Int32) (y3 : Int32) (Z : ZZ) : Option (Int32 × ZZ) :=
  if y3 = x1 then (
    some (y2, Z)) else (
    nm (y2 + 1) <| fun y_3 =>
    k7 y_3 Z)
def sX8_subscriberByBill_L22 (x1 : Int32) (k7 : Int32 → ZZ → Option (Int32 × ZZ)) : Nat → Int32 → Int32 → Int32 → ZZ → Option (Int32 × ZZ)
  | 0, _, _, _, _ => none
  | n + 1, y2, y3, y4, Z =>
  gd (vin 2 180 = true) <|
  if (gI Z 1 (2 : Int32).toNatClampNeg) ≤ y4 then (
    sX8_subscriberByBill_B85 x1 k7 y2 y3 Z) else (
    bnd (sX8_u y4 2 Z) <| fun q_6 =>
    bnd (sX8_u y2 2 q_6.2) <| fun q_7 =>
    if q_7.1 < q_6.1 then (
      nm (y3 + 1) <| fun y_9 =>
      nm (y4 + 1) <| fun y_10 =>
      sX8_subscriberByBill_L22 x1 k7 n y2 y_9 y_10 q_7.2) else (
      bnd (sX8_u y4 2 q_7.2) <| fun q_11 =>
      bnd (sX8_u y2 2 q_11.2) <| fun q_12 =>
      if q_11.1 = q_12.1 then (
        if y2 ≤ y4 then (
          nm (y3 + 0) <| fun y_17 =>
          nm (y4 + 1) <| fun y_18 =>
          sX8_subscriberByBill_L22 x1 k7 n y2 y_17 y_18 q_12.2) else (
          nm (y3 + 1) <| fun y_19 =>
          nm (y4 + 1) <| fun y_20 =>
          sX8_subscriberByBill_L22 x1 k7 n y2 y_19 y_20 q_12.2)) else (
        nm (y3 + 0) <| fun y_14 =>
        nm (y4 + 1) <| fun y_15 =>
        sX8_subscriberByBill_L22 x1 k7 n y2 y_14 y_15 q_12.2)))
def sX8_subscriberByBill_L7 (x1 : Int32) : Nat → Int32 → ZZ → Option (Int32 × ZZ)
  | 0, _, _ => none
  | n + 1, y2, Z =>
  gd (vin 2 180 = true) <|
  if (gI Z 1 (2 : Int32).toNatClampNeg) ≤ y2 then (
    sX8_subscriberByBill_B98 x1 Z) else (
    sX8_subscriberByBill_L22 x1 (fun y2 Z => sX8_subscriberByBill_L7 x1 n y2 Z) 3000 y2 0 0 Z)
def sX8_subscriberByBill (x1 : Int32) (Z : ZZ) : Option (Int32 × ZZ) :=
  nm (pI Z 0 8 0) <| fun Z_23 =>
  sX8_subscriberByBill_L7 x1 3000 0 Z_23
abbrev rmX8_subscriberByBill : Room := { frames := 1, cells := 0, slots := 0, locals := 22 }
set_option maxHeartbeats 4000000 in
set_option maxRecDepth 100000 in
theorem kX8_subscriberByBill {l : Launch} {D : va_G} {dA : Nat → ClassId} {sa : String → Nat → Nat} {a : Nat → Nat} (hl : l.stackTraces = false) {x1 : Int32} {Z Z' : ZZ} {v : Int32} (hX : sX8_subscriberByBill x1 Z = some (v, Z')) : CTi l D dA sa yX8_subscriberByBill (wz yX8_subscriberByBill cX8_subscriberByBill 5 (some .int)) rmX8_subscriberByBill [.ref (a 0), .int x1] (cwR dA a Z) v (cwR dA a Z') := by
  refine xm_i hl (by decide +kernel) (Nat.le_of_ble_eq_true rfl) rfl ?_
  intro p e s m args below meth c A Q hC hR
  unfold sX8_subscriberByBill at hX
  have v98 : ∀ (Z : ZZ), sX8_subscriberByBill_B98 x1 Z = some (v, Z') → xv p l e rmX8_subscriberByBill s m args below meth c D A 5 Q (cwR dA a Z) 0 0 98 [(0, .ref (a 0)), (1, .int x1)] [] := by
    intro Z hX
    unfold sX8_subscriberByBill_B98 at hX
    refine xv_aload_n (pc := 98) hC dX8_subscriberByBill_98 0 rfl rfl ?_
    refine xv_iconst (v := 1) (pc := 99) hC dX8_subscriberByBill_99 (by decide) ?_
    obtain ⟨q_1, hq_1, hX⟩ := bnd_some hX
    refine xv_callVi0 (As := [.int 1]) (pc := 100) hC (kX8_fail hl hq_1) fV_X8_fail wf_1644 (rc_X8 (rfl : shR 0 = 1)) rfl ⟨Nat.le_of_ble_eq_true rfl, Nat.le_of_ble_eq_true rfl⟩ rfl (Nat.le_of_ble_eq_true rfl) dX8_subscriberByBill_100 ⟨Nat.le_of_ble_eq_true rfl, Nat.le_of_ble_eq_true rfl⟩ ?_
    obtain ⟨h1, h2⟩ := some_pair hX
    exact xv_eqi (W := cwR dA a) h1 h2 (hR _ _ _ _ (Nat.le_of_ble_eq_true rfl) (Nat.le_of_ble_eq_true rfl) dX8_subscriberByBill_103)
  have v85 : ∀ (k7 : Int32 → ZZ → Option (Int32 × ZZ)) (hk7 : ∀ (y2 : Int32) (Z : ZZ), k7 y2 Z = some (v, Z') → xv p l e rmX8_subscriberByBill s m args below meth c D A 5 Q (cwR dA a Z) 0 0 7 [(0, .ref (a 0)), (1, .int x1), (2, .int y2)] []) (y2 : Int32) (y3 : Int32) (Z : ZZ), sX8_subscriberByBill_B85 x1 k7 y2 y3 Z = some (v, Z') → xv p l e rmX8_subscriberByBill s m args below meth c D A 5 Q (cwR dA a Z) 0 0 85 [(0, .ref (a 0)), (1, .int x1), (2, .int y2), (3, .int y3)] [] := by
    intro k7 hk7 y2 y3 Z hX
    unfold sX8_subscriberByBill_B85 at hX
    refine xv_iload_n (pc := 85) hC dX8_subscriberByBill_85 3 rfl rfl ?_
    refine xv_iload_n (pc := 86) hC dX8_subscriberByBill_86 1 rfl rfl ?_
    refine xv_icmp_ne (tgt := 92) (pc := 87) hC dX8_subscriberByBill_87 (by decide) (fun c_2 => ?_) (fun c_2 => ?_)
    · replace hX := if_f c_2 hX
      obtain ⟨y_3, hy_3, hX⟩ := nm_some hX
      refine xv_iinc (pc := 92) (v := y_3) (lv' := [(2, .int y_3), (0, .ref (a 0)), (1, .int x1), (3, .int y3)]) hC dX8_subscriberByBill_92 2 rfl (by rw [hy_3]; rfl) (by decide) rfl ?_
      refine xv_goto (tgt := 7) (pc := 95) hC dX8_subscriberByBill_95 (by decide) ?_
      refine xv_sub (lv' := [(0, .ref (a 0)), (1, .int x1), (2, .int y_3)]) [1, 2, 0] rfl ?_
      exact hk7 y_3 Z hX
    · replace hX := if_t c_2 hX
      refine xv_iload_n (pc := 90) hC dX8_subscriberByBill_90 2 rfl rfl ?_
      obtain ⟨h1, h2⟩ := some_pair hX
      exact xv_eqi (W := cwR dA a) h1 h2 (hR _ _ _ _ (Nat.le_of_ble_eq_true rfl) (Nat.le_of_ble_eq_true rfl) dX8_subscriberByBill_91)
  have v22 : ∀ (k7 : Int32 → ZZ → Option (Int32 × ZZ)) (hk7 : ∀ (y2 : Int32) (Z : ZZ), k7 y2 Z = some (v, Z') → xv p l e rmX8_subscriberByBill s m args below meth c D A 5 Q (cwR dA a Z) 0 0 7 [(0, .ref (a 0)), (1, .int x1), (2, .int y2)] []) (n : Nat) (y2 : Int32) (y3 : Int32) (y4 : Int32) (Z : ZZ), sX8_subscriberByBill_L22 x1 k7 n y2 y3 y4 Z = some (v, Z') → xv p l e rmX8_subscriberByBill s m args below meth c D A 5 Q (cwR dA a Z) 0 0 22 [(0, .ref (a 0)), (1, .int x1), (2, .int y2), (3, .int y3), (4, .int y4)] [] := by
    intro k7 hk7 n
    induction n with
    | zero =>
      intro y2 y3 y4 Z hX
      exact absurd hX (by simp [sX8_subscriberByBill_L22])
    | succ n ih =>
      intro y2 y3 y4 Z hX
      rw [sX8_subscriberByBill_L22] at hX
      refine xv_iload (pc := 22) hC dX8_subscriberByBill_22 4 rfl ?_
      refine xv_aload_n (pc := 24) hC dX8_subscriberByBill_24 0 rfl rfl ?_
      refine xgX8 (v := .ref (a 1)) (pc := 25) hC dX8_subscriberByBill_25 (rfl : shR 0 = 1) 0 (by decide) wf_1553 rfl ?_
      refine xv_iconst (v := 2) (pc := 28) hC dX8_subscriberByBill_28 (by decide) ?_
      obtain ⟨h_4, hX⟩ := gd_some hX
      refine xl_R2 (pc := 29) hC dX8_subscriberByBill_29 (rfl : shR 1 = 2) h_4 ?_
      refine xv_icmp_ge (tgt := 85) (pc := 30) hC dX8_subscriberByBill_30 (by decide) (fun c_5 => ?_) (fun c_5 => ?_)
      · replace hX := if_t c_5 hX
        refine xv_sub (lv' := [(0, .ref (a 0)), (1, .int x1), (2, .int y2), (3, .int y3)]) [0, 1, 2, 3] rfl ?_
        exact v85 _ hk7 y2 y3 Z hX
      · replace hX := if_f c_5 hX
        refine xv_iload_n (pc := 33) hC dX8_subscriberByBill_33 3 rfl rfl ?_
        refine xv_aload_n (pc := 34) hC dX8_subscriberByBill_34 0 rfl rfl ?_
        refine xv_iload (pc := 35) hC dX8_subscriberByBill_35 4 rfl ?_
        refine xv_iconst (v := 2) (pc := 37) hC dX8_subscriberByBill_37 (by decide) ?_
        obtain ⟨q_6, hq_6, hX⟩ := bnd_some hX
        refine xv_callVi0 (As := [.int y4, .int 2]) (pc := 38) hC (kX8_u hl hq_6) fV_X8_u wf_1723 (rc_X8 (rfl : shR 0 = 1)) rfl ⟨Nat.le_of_ble_eq_true rfl, Nat.le_of_ble_eq_true rfl⟩ rfl (Nat.le_of_ble_eq_true rfl) dX8_subscriberByBill_38 ⟨Nat.le_of_ble_eq_true rfl, Nat.le_of_ble_eq_true rfl⟩ ?_
        refine xv_aload_n (pc := 41) hC dX8_subscriberByBill_41 0 rfl rfl ?_
        refine xv_iload_n (pc := 42) hC dX8_subscriberByBill_42 2 rfl rfl ?_
        refine xv_iconst (v := 2) (pc := 43) hC dX8_subscriberByBill_43 (by decide) ?_
        obtain ⟨q_7, hq_7, hX⟩ := bnd_some hX
        refine xv_callVi0 (As := [.int y2, .int 2]) (pc := 44) hC (kX8_u hl hq_7) fV_X8_u wf_1723 (rc_X8 (rfl : shR 0 = 1)) rfl ⟨Nat.le_of_ble_eq_true rfl, Nat.le_of_ble_eq_true rfl⟩ rfl (Nat.le_of_ble_eq_true rfl) dX8_subscriberByBill_44 ⟨Nat.le_of_ble_eq_true rfl, Nat.le_of_ble_eq_true rfl⟩ ?_
        refine xv_icmp_gt (tgt := 72) (pc := 47) hC dX8_subscriberByBill_47 (by decide) (fun c_8 => ?_) (fun c_8 => ?_)
        · replace hX := if_t c_8 hX
          refine xv_iconst (v := 1) (pc := 72) hC dX8_subscriberByBill_72 (by decide) ?_
          refine xv_goto (tgt := 77) (pc := 73) hC dX8_subscriberByBill_73 (by decide) ?_
          refine xv_iadd (pc := 77) hC dX8_subscriberByBill_77 ?_
          obtain ⟨y_9, hy_9, hX⟩ := nm_some hX
          refine xv_nmi hy_9 ?_
          refine xv_istore_n (pc := 78) (lv' := [(3, .int y_9), (0, .ref (a 0)), (1, .int x1), (2, .int y2), (4, .int y4)]) hC dX8_subscriberByBill_78 rfl (by decide) rfl ?_
          obtain ⟨y_10, hy_10, hX⟩ := nm_some hX
          refine xv_iinc (pc := 79) (v := y_10) (lv' := [(4, .int y_10), (3, .int y_9), (0, .ref (a 0)), (1, .int x1), (2, .int y2)]) hC dX8_subscriberByBill_79 4 rfl (by rw [hy_10]; rfl) (by decide) rfl ?_
          refine xv_goto (tgt := 22) (pc := 82) hC dX8_subscriberByBill_82 (by decide) ?_
          refine xv_sub (lv' := [(0, .ref (a 0)), (1, .int x1), (2, .int y2), (3, .int y_9), (4, .int y_10)]) [2, 3, 4, 1, 0] rfl ?_
          exact ih y2 y_9 y_10 q_7.2 hX
        · replace hX := if_f c_8 hX
          refine xv_aload_n (pc := 50) hC dX8_subscriberByBill_50 0 rfl rfl ?_
          refine xv_iload (pc := 51) hC dX8_subscriberByBill_51 4 rfl ?_
          refine xv_iconst (v := 2) (pc := 53) hC dX8_subscriberByBill_53 (by decide) ?_
          obtain ⟨q_11, hq_11, hX⟩ := bnd_some hX
          refine xv_callVi0 (As := [.int y4, .int 2]) (pc := 54) hC (kX8_u hl hq_11) fV_X8_u wf_1723 (rc_X8 (rfl : shR 0 = 1)) rfl ⟨Nat.le_of_ble_eq_true rfl, Nat.le_of_ble_eq_true rfl⟩ rfl (Nat.le_of_ble_eq_true rfl) dX8_subscriberByBill_54 ⟨Nat.le_of_ble_eq_true rfl, Nat.le_of_ble_eq_true rfl⟩ ?_
          refine xv_aload_n (pc := 57) hC dX8_subscriberByBill_57 0 rfl rfl ?_
          refine xv_iload_n (pc := 58) hC dX8_subscriberByBill_58 2 rfl rfl ?_
          refine xv_iconst (v := 2) (pc := 59) hC dX8_subscriberByBill_59 (by decide) ?_
          obtain ⟨q_12, hq_12, hX⟩ := bnd_some hX
          refine xv_callVi0 (As := [.int y2, .int 2]) (pc := 60) hC (kX8_u hl hq_12) fV_X8_u wf_1723 (rc_X8 (rfl : shR 0 = 1)) rfl ⟨Nat.le_of_ble_eq_true rfl, Nat.le_of_ble_eq_true rfl⟩ rfl (Nat.le_of_ble_eq_true rfl) dX8_subscriberByBill_60 ⟨Nat.le_of_ble_eq_true rfl, Nat.le_of_ble_eq_true rfl⟩ ?_
          refine xv_icmp_ne (tgt := 76) (pc := 63) hC dX8_subscriberByBill_63 (by decide) (fun c_13 => ?_) (fun c_13 => ?_)
          · replace hX := if_f c_13 hX
            refine xv_iconst (v := 0) (pc := 76) hC dX8_subscriberByBill_76 (by decide) ?_
            refine xv_iadd (pc := 77) hC dX8_subscriberByBill_77 ?_
            obtain ⟨y_14, hy_14, hX⟩ := nm_some hX
            refine xv_nmi hy_14 ?_
            refine xv_istore_n (pc := 78) (lv' := [(3, .int y_14), (0, .ref (a 0)), (1, .int x1), (2, .int y2), (4, .int y4)]) hC dX8_subscriberByBill_78 rfl (by decide) rfl ?_
            obtain ⟨y_15, hy_15, hX⟩ := nm_some hX
            refine xv_iinc (pc := 79) (v := y_15) (lv' := [(4, .int y_15), (3, .int y_14), (0, .ref (a 0)), (1, .int x1), (2, .int y2)]) hC dX8_subscriberByBill_79 4 rfl (by rw [hy_15]; rfl) (by decide) rfl ?_
            refine xv_goto (tgt := 22) (pc := 82) hC dX8_subscriberByBill_82 (by decide) ?_
            refine xv_sub (lv' := [(0, .ref (a 0)), (1, .int x1), (2, .int y2), (3, .int y_14), (4, .int y_15)]) [2, 3, 4, 1, 0] rfl ?_
            exact ih y2 y_14 y_15 q_12.2 hX
          · replace hX := if_t c_13 hX
            refine xv_iload (pc := 66) hC dX8_subscriberByBill_66 4 rfl ?_
            refine xv_iload_n (pc := 68) hC dX8_subscriberByBill_68 2 rfl rfl ?_
            refine xv_icmp_ge (tgt := 76) (pc := 69) hC dX8_subscriberByBill_69 (by decide) (fun c_16 => ?_) (fun c_16 => ?_)
            · replace hX := if_t c_16 hX
              refine xv_iconst (v := 0) (pc := 76) hC dX8_subscriberByBill_76 (by decide) ?_
              refine xv_iadd (pc := 77) hC dX8_subscriberByBill_77 ?_
              obtain ⟨y_17, hy_17, hX⟩ := nm_some hX
              refine xv_nmi hy_17 ?_
              refine xv_istore_n (pc := 78) (lv' := [(3, .int y_17), (0, .ref (a 0)), (1, .int x1), (2, .int y2), (4, .int y4)]) hC dX8_subscriberByBill_78 rfl (by decide) rfl ?_
              obtain ⟨y_18, hy_18, hX⟩ := nm_some hX
              refine xv_iinc (pc := 79) (v := y_18) (lv' := [(4, .int y_18), (3, .int y_17), (0, .ref (a 0)), (1, .int x1), (2, .int y2)]) hC dX8_subscriberByBill_79 4 rfl (by rw [hy_18]; rfl) (by decide) rfl ?_
              refine xv_goto (tgt := 22) (pc := 82) hC dX8_subscriberByBill_82 (by decide) ?_
              refine xv_sub (lv' := [(0, .ref (a 0)), (1, .int x1), (2, .int y2), (3, .int y_17), (4, .int y_18)]) [2, 3, 4, 1, 0] rfl ?_
              exact ih y2 y_17 y_18 q_12.2 hX
            · replace hX := if_f c_16 hX
              refine xv_iconst (v := 1) (pc := 72) hC dX8_subscriberByBill_72 (by decide) ?_
              refine xv_goto (tgt := 77) (pc := 73) hC dX8_subscriberByBill_73 (by decide) ?_
              refine xv_iadd (pc := 77) hC dX8_subscriberByBill_77 ?_
              obtain ⟨y_19, hy_19, hX⟩ := nm_some hX
              refine xv_nmi hy_19 ?_
              refine xv_istore_n (pc := 78) (lv' := [(3, .int y_19), (0, .ref (a 0)), (1, .int x1), (2, .int y2), (4, .int y4)]) hC dX8_subscriberByBill_78 rfl (by decide) rfl ?_
              obtain ⟨y_20, hy_20, hX⟩ := nm_some hX
              refine xv_iinc (pc := 79) (v := y_20) (lv' := [(4, .int y_20), (3, .int y_19), (0, .ref (a 0)), (1, .int x1), (2, .int y2)]) hC dX8_subscriberByBill_79 4 rfl (by rw [hy_20]; rfl) (by decide) rfl ?_
              refine xv_goto (tgt := 22) (pc := 82) hC dX8_subscriberByBill_82 (by decide) ?_
              refine xv_sub (lv' := [(0, .ref (a 0)), (1, .int x1), (2, .int y2), (3, .int y_19), (4, .int y_20)]) [2, 3, 4, 1, 0] rfl ?_
              exact ih y2 y_19 y_20 q_12.2 hX
  have v7 : ∀ (n : Nat) (y2 : Int32) (Z : ZZ), sX8_subscriberByBill_L7 x1 n y2 Z = some (v, Z') → xv p l e rmX8_subscriberByBill s m args below meth c D A 5 Q (cwR dA a Z) 0 0 7 [(0, .ref (a 0)), (1, .int x1), (2, .int y2)] [] := by
    intro n
    induction n with
    | zero =>
      intro y2 Z hX
      exact absurd hX (by simp [sX8_subscriberByBill_L7])
    | succ n ih =>
      intro y2 Z hX
      rw [sX8_subscriberByBill_L7] at hX
      refine xv_iload_n (pc := 7) hC dX8_subscriberByBill_7 2 rfl rfl ?_
      refine xv_aload_n (pc := 8) hC dX8_subscriberByBill_8 0 rfl rfl ?_
      refine xgX8 (v := .ref (a 1)) (pc := 9) hC dX8_subscriberByBill_9 (rfl : shR 0 = 1) 0 (by decide) wf_1553 rfl ?_
      refine xv_iconst (v := 2) (pc := 12) hC dX8_subscriberByBill_12 (by decide) ?_
      obtain ⟨h_21, hX⟩ := gd_some hX
      refine xl_R2 (pc := 13) hC dX8_subscriberByBill_13 (rfl : shR 1 = 2) h_21 ?_
      refine xv_icmp_ge (tgt := 98) (pc := 14) hC dX8_subscriberByBill_14 (by decide) (fun c_22 => ?_) (fun c_22 => ?_)
      · replace hX := if_t c_22 hX
        refine xv_sub (lv' := [(0, .ref (a 0)), (1, .int x1)]) [0, 1] rfl ?_
        exact v98 Z hX
      · replace hX := if_f c_22 hX
        refine xv_iconst (v := 0) (pc := 17) hC dX8_subscriberByBill_17 (by decide) ?_
        refine xv_istore_n (pc := 18) (lv' := [(3, .int 0), (0, .ref (a 0)), (1, .int x1), (2, .int y2)]) hC dX8_subscriberByBill_18 rfl (by decide) rfl ?_
        refine xv_iconst (v := 0) (pc := 19) hC dX8_subscriberByBill_19 (by decide) ?_
        refine xv_istore (pc := 20) (lv' := [(4, .int 0), (3, .int 0), (0, .ref (a 0)), (1, .int x1), (2, .int y2)]) hC dX8_subscriberByBill_20 (by decide) rfl ?_
        refine xv_sub (lv' := [(0, .ref (a 0)), (1, .int x1), (2, .int y2), (3, .int 0), (4, .int 0)]) [2, 3, 4, 1, 0] rfl ?_
        exact v22 _ ih 3000 y2 0 0 Z hX
  show xv p l e rmX8_subscriberByBill s m args below meth c D A 5 Q (cwR dA a Z) 0 0 0 [(0, .ref (a 0)), (1, .int x1)] []
  refine xv_aload_n (pc := 0) hC dX8_subscriberByBill_0 0 rfl rfl ?_
  refine xv_iconst (v := 0) (pc := 1) hC dX8_subscriberByBill_1 (by decide) ?_
  obtain ⟨Z_23, hZ_23, hX⟩ := nm_some hX
  refine xpX8 (ty := .int) (pc := 2) hC dX8_subscriberByBill_2 (rfl : shR 0 = 1) 8 (by decide) wf_1561 rfl (by decide +kernel) rfl rfl rfl hZ_23 ?_
  refine xv_iconst (v := 0) (pc := 5) hC dX8_subscriberByBill_5 (by decide) ?_
  refine xv_istore_n (pc := 6) (lv' := [(2, .int 0), (0, .ref (a 0)), (1, .int x1)]) hC dX8_subscriberByBill_6 rfl (by decide) rfl ?_
  refine xv_sub (lv' := [(0, .ref (a 0)), (1, .int x1), (2, .int 0)]) [1, 2, 0] rfl ?_
  exact v7 3000 0 Z_23 hX
