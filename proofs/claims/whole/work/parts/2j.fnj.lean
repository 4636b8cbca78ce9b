def sX8_run_B80 (Z : ZZ) : Option (Int32 × ZZ) :=
  bnd (sX8_commit (gI Z 0 23) Z) <| fun q_1 =>
  some (q_1.1, q_1.2)
def sX8_run_B50 (y1 : Int32) (Z : ZZ) : Option (Int32 × ZZ) :=
  bnd (sX8_copy_2_2 2 0 1 0 Z) <| fun q_2 =>
  nm (pI q_2 0 11 y1) <| fun Z_3 =>
  bnd (sX8_fail 2 Z_3) <| fun q_4 =>
  some (q_4.1, q_4.2)
def sX8_run_L31 : Nat → Int32 → ZZ → Option (Int32 × ZZ)
  | 0, _, _ => none
  | n + 1, y1, Z =>
  if (gI Z 0 23) ≤ y1 then (
    sX8_run_B80 Z) else (
    bnd (sX8_cannot y1 Z) <| fun q_6 =>
    if q_6.1 = 0 then (
      nm (y1 + 1) <| fun y_8 =>
      sX8_run_L31 n y_8 q_6.2) else (
      sX8_run_B50 y1 q_6.2))
def sX8_run (Z : ZZ) : Option (Int32 × ZZ) :=
  bnd (sX8_begin Z) <| fun q_9 =>
  bnd (sX8_parse q_9) <| fun q_10 =>
  if (gI q_10 0 24) = 0 then (
    sX8_run_L31 3000 0 q_10) else (
    nm (pI q_10 0 10 (gI q_10 0 22)) <| fun Z_12 =>
    bnd (sX8_fail 1 Z_12) <| fun q_13 =>
    some (q_13.1, q_13.2))
abbrev rmX8_run : Room := { frames := 8, cells := 0, slots := 0, locals := 187 }
set_option maxHeartbeats 4000000 in
set_option maxRecDepth 100000 in
theorem kX8_run {l : Launch} {D : va_G} {dA : Nat → ClassId} {sa : String → Nat → Nat} {a : Nat → Nat} (hl : l.stackTraces = false) {Z Z' : ZZ} {v : Int32} (hX : sX8_run Z = some (v, Z')) : CTi l D dA sa yX8_run (wz yX8_run cX8_run 2 (some .int)) rmX8_run [.ref (a 0)] (cwR dA a Z) v (cwR dA a Z') := by
  refine xm_i hl (by decide +kernel) (Nat.le_of_ble_eq_true rfl) rfl ?_
  intro p e s m args below meth c A Q hC hR
  unfold sX8_run at hX
  have v80 : ∀ (Z : ZZ), sX8_run_B80 Z = some (v, Z') → xv p l e rmX8_run s m args below meth c D A 2 Q (cwR dA a Z) 0 0 80 [(0, .ref (a 0))] [] := by
    intro Z hX
    unfold sX8_run_B80 at hX
    refine xv_aload_n (pc := 80) hC dX8_run_80 0 rfl rfl ?_
    refine xv_aload_n (pc := 81) hC dX8_run_81 0 rfl rfl ?_
    refine xgX8 (v := .int (gI Z 0 23)) (pc := 82) hC dX8_run_82 (rfl : shR 0 = 1) 23 (by decide) wf_1576 rfl ?_
    obtain ⟨q_1, hq_1, hX⟩ := bnd_some hX
    refine xv_callVi0 (As := [.int (gI Z 0 23)]) (pc := 85) hC (kX8_commit hl hq_1) fV_X8_commit wf_1652 (rc_X8 (rfl : shR 0 = 1)) rfl ⟨Nat.le_of_ble_eq_true rfl, Nat.le_of_ble_eq_true rfl⟩ rfl (Nat.le_of_ble_eq_true rfl) dX8_run_85 ⟨Nat.le_of_ble_eq_true rfl, Nat.le_of_ble_eq_true rfl⟩ ?_
    obtain ⟨h1, h2⟩ := some_pair hX
    exact xv_eqi (W := cwR dA a) h1 h2 (hR _ _ _ _ (Nat.le_of_ble_eq_true rfl) (Nat.le_of_ble_eq_true rfl) dX8_run_88)
  have v50 : ∀ (y1 : Int32) (Z : ZZ), sX8_run_B50 y1 Z = some (v, Z') → xv p l e rmX8_run s m args below meth c D A 2 Q (cwR dA a Z) 0 0 50 [(0, .ref (a 0)), (1, .int y1)] [] := by
    intro y1 Z hX
    unfold sX8_run_B50 at hX
    refine xv_aload_n (pc := 50) hC dX8_run_50 0 rfl rfl ?_
    refine xgX8 (v := .ref (a 2)) (pc := 51) hC dX8_run_51 (rfl : shR 0 = 1) 1 (by decide) wf_1554 rfl ?_
    refine xv_iconst (v := 0) (pc := 54) hC dX8_run_54 (by decide) ?_
    refine xv_aload_n (pc := 55) hC dX8_run_55 0 rfl rfl ?_
    refine xgX8 (v := .ref (a 1)) (pc := 56) hC dX8_run_56 (rfl : shR 0 = 1) 0 (by decide) wf_1553 rfl ?_
    refine xv_iconst (v := 0) (pc := 59) hC dX8_run_59 (by decide) ?_
    obtain ⟨q_2, hq_2, hX⟩ := bnd_some hX
    refine xv_callSv0 (As := [.ref (a 2), .int 0, .ref (a 1), .int 0]) (pc := 60) hC (kX8_copy_2_2 hl hq_2) fS_X8_copy wf_1641 rfl ⟨Nat.le_of_ble_eq_true rfl, Nat.le_of_ble_eq_true rfl⟩ rfl (Nat.le_of_ble_eq_true rfl) dX8_run_60 ⟨Nat.le_of_ble_eq_true rfl, Nat.le_of_ble_eq_true rfl⟩ ?_
    refine xv_aload_n (pc := 63) hC dX8_run_63 0 rfl rfl ?_
    refine xv_iload_n (pc := 64) hC dX8_run_64 1 rfl rfl ?_
    obtain ⟨Z_3, hZ_3, hX⟩ := nm_some hX
    refine xpX8 (ty := .int) (pc := 65) hC dX8_run_65 (rfl : shR 0 = 1) 11 (by decide) wf_1564 rfl (by decide +kernel) rfl rfl rfl hZ_3 ?_
    refine xv_aload_n (pc := 68) hC dX8_run_68 0 rfl rfl ?_
    refine xv_iconst (v := 2) (pc := 69) hC dX8_run_69 (by decide) ?_
    obtain ⟨q_4, hq_4, hX⟩ := bnd_some hX
    refine xv_callVi0 (As := [.int 2]) (pc := 70) hC (kX8_fail hl hq_4) fV_X8_fail wf_1644 (rc_X8 (rfl : shR 0 = 1)) rfl ⟨Nat.le_of_ble_eq_true rfl, Nat.le_of_ble_eq_true rfl⟩ rfl (Nat.le_of_ble_eq_true rfl) dX8_run_70 ⟨Nat.le_of_ble_eq_true rfl, Nat.le_of_ble_eq_true rfl⟩ ?_
    obtain ⟨h1, h2⟩ := some_pair hX
    exact xv_eqi (W := cwR dA a) h1 h2 (hR _ _ _ _ (Nat.le_of_ble_eq_true rfl) (Nat.le_of_ble_eq_true rfl) dX8_run_73)
  have v31 : ∀ (n : Nat) (y1 : Int32) (Z : ZZ), sX8_run_L31 n y1 Z = some (v, Z') → xv p l e rmX8_run s m args below meth c D A 2 Q (cwR dA a Z) 0 0 31 [(0, .ref (a 0)), (1, .int y1)] [] := by
    intro n
    induction n with
    | zero =>
      intro y1 Z hX
      exact absurd hX (by simp [sX8_run_L31])
    | succ n ih =>
      intro y1 Z hX
      rw [sX8_run_L31] at hX
      refine xv_iload_n (pc := 31) hC dX8_run_31 1 rfl rfl ?_
      refine xv_aload_n (pc := 32) hC dX8_run_32 0 rfl rfl ?_
      refine xgX8 (v := .int (gI Z 0 23)) (pc := 33) hC dX8_run_33 (rfl : shR 0 = 1) 23 (by decide) wf_1576 rfl ?_
      refine xv_icmp_ge (tgt := 80) (pc := 36) hC dX8_run_36 (by decide) (fun c_5 => ?_) (fun c_5 => ?_)
      · replace hX := if_t c_5 hX
        refine xv_sub (lv' := [(0, .ref (a 0))]) [0] rfl ?_
        exact v80 Z hX
      · replace hX := if_f c_5 hX
        refine xv_aload_n (pc := 39) hC dX8_run_39 0 rfl rfl ?_
        refine xv_iload_n (pc := 40) hC dX8_run_40 1 rfl rfl ?_
        obtain ⟨q_6, hq_6, hX⟩ := bnd_some hX
        refine xv_callVi0 (As := [.int y1]) (pc := 41) hC (kX8_cannot hl hq_6) fV_X8_cannot wf_2041 (rc_X8 (rfl : shR 0 = 1)) rfl ⟨Nat.le_of_ble_eq_true rfl, Nat.le_of_ble_eq_true rfl⟩ rfl (Nat.le_of_ble_eq_true rfl) dX8_run_41 ⟨Nat.le_of_ble_eq_true rfl, Nat.le_of_ble_eq_true rfl⟩ ?_
        refine xv_if_ne (tgt := 50) (pc := 44) hC dX8_run_44 (by decide) (fun c_7 => ?_) (fun c_7 => ?_)
        · replace hX := if_f c_7 hX
          exact v50 y1 q_6.2 hX
        · replace hX := if_t c_7 hX
          refine xv_goto (tgt := 74) (pc := 47) hC dX8_run_47 (by decide) ?_
          obtain ⟨y_8, hy_8, hX⟩ := nm_some hX
          refine xv_iinc (pc := 74) (v := y_8) (lv' := [(1, .int y_8), (0, .ref (a 0))]) hC dX8_run_74 1 rfl (by rw [hy_8]; rfl) (by decide) rfl ?_
          refine xv_goto (tgt := 31) (pc := 77) hC dX8_run_77 (by decide) ?_
          refine xv_sub (lv' := [(0, .ref (a 0)), (1, .int y_8)]) [1, 0] rfl ?_
          exact ih y_8 q_6.2 hX
  show xv p l e rmX8_run s m args below meth c D A 2 Q (cwR dA a Z) 0 0 0 [(0, .ref (a 0))] []
  refine xv_aload_n (pc := 0) hC dX8_run_0 0 rfl rfl ?_
  obtain ⟨q_9, hq_9, hX⟩ := bnd_some hX
  refine xv_callVv0 (As := []) (pc := 1) hC (kX8_begin hl hq_9) fV_X8_begin wf_1637 (rc_X8 (rfl : shR 0 = 1)) rfl ⟨Nat.le_of_ble_eq_true rfl, Nat.le_of_ble_eq_true rfl⟩ rfl (Nat.le_of_ble_eq_true rfl) dX8_run_1 ⟨Nat.le_of_ble_eq_true rfl, Nat.le_of_ble_eq_true rfl⟩ ?_
  refine xv_aload_n (pc := 4) hC dX8_run_4 0 rfl rfl ?_
  obtain ⟨q_10, hq_10, hX⟩ := bnd_some hX
  refine xv_callVv0 (As := []) (pc := 5) hC (kX8_parse hl hq_10) fV_X8_parse wf_2011 (rc_X8 (rfl : shR 0 = 1)) rfl ⟨Nat.le_of_ble_eq_true rfl, Nat.le_of_ble_eq_true rfl⟩ rfl (Nat.le_of_ble_eq_true rfl) dX8_run_5 ⟨Nat.le_of_ble_eq_true rfl, Nat.le_of_ble_eq_true rfl⟩ ?_
  refine xv_aload_n (pc := 8) hC dX8_run_8 0 rfl rfl ?_
  refine xgX8 (v := .int (gI q_10 0 24)) (pc := 9) hC dX8_run_9 (rfl : shR 0 = 1) 24 (by decide) wf_1577 rfl ?_
  refine xv_if_eq (tgt := 29) (pc := 12) hC dX8_run_12 (by decide) (fun c_11 => ?_) (fun c_11 => ?_)
  · replace hX := if_t c_11 hX
    refine xv_iconst (v := 0) (pc := 29) hC dX8_run_29 (by decide) ?_
    refine xv_istore_n (pc := 30) (lv' := [(1, .int 0), (0, .ref (a 0))]) hC dX8_run_30 rfl (by decide) rfl ?_
    refine xv_sub (lv' := [(0, .ref (a 0)), (1, .int 0)]) [1, 0] rfl ?_
    exact v31 3000 0 q_10 hX
  · replace hX := if_f c_11 hX
    refine xv_aload_n (pc := 15) hC dX8_run_15 0 rfl rfl ?_
    refine xv_aload_n (pc := 16) hC dX8_run_16 0 rfl rfl ?_
    refine xgX8 (v := .int (gI q_10 0 22)) (pc := 17) hC dX8_run_17 (rfl : shR 0 = 1) 22 (by decide) wf_1575 rfl ?_
    obtain ⟨Z_12, hZ_12, hX⟩ := nm_some hX
    refine xpX8 (ty := .int) (pc := 20) hC dX8_run_20 (rfl : shR 0 = 1) 10 (by decide) wf_1563 rfl (by decide +kernel) rfl rfl rfl hZ_12 ?_
    refine xv_aload_n (pc := 23) hC dX8_run_23 0 rfl rfl ?_
    refine xv_iconst (v := 1) (pc := 24) hC dX8_run_24 (by decide) ?_
    obtain ⟨q_13, hq_13, hX⟩ := bnd_some hX
    refine xv_callVi0 (As := [.int 1]) (pc := 25) hC (kX8_fail hl hq_13) fV_X8_fail wf_1644 (rc_X8 (rfl : shR 0 = 1)) rfl ⟨Nat.le_of_ble_eq_true rfl, Nat.le_of_ble_eq_true rfl⟩ rfl (Nat.le_of_ble_eq_true rfl) dX8_run_25 ⟨Nat.le_of_ble_eq_true rfl, Nat.le_of_ble_eq_true rfl⟩ ?_
    obtain ⟨h1, h2⟩ := some_pair hX
    exact xv_eqi (W := cwR dA a) h1 h2 (hR _ _ _ _ (Nat.le_of_ble_eq_true rfl) (Nat.le_of_ble_eq_true rfl) dX8_run_28)
def sX8_present (x1 : Int32) (Z : ZZ) : Option (Int32 × ZZ) :=
  if x1 < 0 then (
    bnd (sX8_checked 0 Z) <| fun q_2 =>
    if q_2.1 ≤ 0 then (
      some (x1, q_2.2)) else (
      some (0, q_2.2))) else (
    bnd (sX8_checked 1 Z) <| fun q_4 =>
    if q_4.1 ≤ 0 then (
      some (x1, q_4.2)) else (
      some (0, q_4.2)))
abbrev rmX8_present : Room := { frames := 1, cells := 0, slots := 0, locals := 21 }
set_option maxHeartbeats 4000000 in
set_option maxRecDepth 100000 in
theorem kX8_present {l : Launch} {D : va_G} {dA : Nat → ClassId} {sa : String → Nat → Nat} {a : Nat → Nat} (hl : l.stackTraces = false) {x1 : Int32} {Z Z' : ZZ} {v : Int32} (hX : sX8_present x1 Z = some (v, Z')) : CTi l D dA sa yX8_present (wz yX8_present cX8_present 2 (some .int)) rmX8_present [.ref (a 0), .int x1] (cwR dA a Z) v (cwR dA a Z') := by
  refine xm_i hl (by decide +kernel) (Nat.le_of_ble_eq_true rfl) rfl ?_
  intro p e s m args below meth c A Q hC hR
  unfold sX8_present at hX
  show xv p l e rmX8_present s m args below meth c D A 2 Q (cwR dA a Z) 0 0 0 [(0, .ref (a 0)), (1, .int x1)] []
  refine xv_aload_n (pc := 0) hC dX8_present_0 0 rfl rfl ?_
  refine xv_iload_n (pc := 1) hC dX8_present_1 1 rfl rfl ?_
  refine xv_if_lt (tgt := 9) (pc := 2) hC dX8_present_2 (by decide) (fun c_1 => ?_) (fun c_1 => ?_)
  · replace hX := if_t c_1 hX
    refine xv_iconst (v := 0) (pc := 9) hC dX8_present_9 (by decide) ?_
    obtain ⟨q_2, hq_2, hX⟩ := bnd_some hX
    refine xv_callVi0 (As := [.int 0]) (pc := 10) hC (kX8_checked hl hq_2) fV_X8_checked wf_1839 (rc_X8 (rfl : shR 0 = 1)) rfl ⟨Nat.le_of_ble_eq_true rfl, Nat.le_of_ble_eq_true rfl⟩ rfl (Nat.le_of_ble_eq_true rfl) dX8_present_10 ⟨Nat.le_of_ble_eq_true rfl, Nat.le_of_ble_eq_true rfl⟩ ?_
    refine xv_if_le (tgt := 20) (pc := 13) hC dX8_present_13 (by decide) (fun c_3 => ?_) (fun c_3 => ?_)
    · replace hX := if_t c_3 hX
      refine xv_iload_n (pc := 20) hC dX8_present_20 1 rfl rfl ?_
      obtain ⟨h1, h2⟩ := some_pair hX
      exact xv_eqi (W := cwR dA a) h1 h2 (hR _ _ _ _ (Nat.le_of_ble_eq_true rfl) (Nat.le_of_ble_eq_true rfl) dX8_present_21)
    · replace hX := if_f c_3 hX
      refine xv_iconst (v := 0) (pc := 16) hC dX8_present_16 (by decide) ?_
      refine xv_goto (tgt := 21) (pc := 17) hC dX8_present_17 (by decide) ?_
      obtain ⟨h1, h2⟩ := some_pair hX
      exact xv_eqi (W := cwR dA a) h1 h2 (hR _ _ _ _ (Nat.le_of_ble_eq_true rfl) (Nat.le_of_ble_eq_true rfl) dX8_present_21)
  · replace hX := if_f c_1 hX
    refine xv_iconst (v := 1) (pc := 5) hC dX8_present_5 (by decide) ?_
    refine xv_goto (tgt := 10) (pc := 6) hC dX8_present_6 (by decide) ?_
    obtain ⟨q_4, hq_4, hX⟩ := bnd_some hX
    refine xv_callVi0 (As := [.int 1]) (pc := 10) hC (kX8_checked hl hq_4) fV_X8_checked wf_1839 (rc_X8 (rfl : shR 0 = 1)) rfl ⟨Nat.le_of_ble_eq_true rfl, Nat.le_of_ble_eq_true rfl⟩ rfl (Nat.le_of_ble_eq_true rfl) dX8_present_10 ⟨Nat.le_of_ble_eq_true rfl, Nat.le_of_ble_eq_true rfl⟩ ?_
    refine xv_if_le (tgt := 20) (pc := 13) hC dX8_present_13 (by decide) (fun c_5 => ?_) (fun c_5 => ?_)
    · replace hX := if_t c_5 hX
      refine xv_iload_n (pc := 20) hC dX8_present_20 1 rfl rfl ?_
      obtain ⟨h1, h2⟩ := some_pair hX
      exact xv_eqi (W := cwR dA a) h1 h2 (hR _ _ _ _ (Nat.le_of_ble_eq_true rfl) (Nat.le_of_ble_eq_true rfl) dX8_present_21)
    · replace hX := if_f c_5 hX
      refine xv_iconst (v := 0) (pc := 16) hC dX8_present_16 (by decide) ?_
      refine xv_goto (tgt := 21) (pc := 17) hC dX8_present_17 (by decide) ?_
      obtain ⟨h1, h2⟩ := some_pair hX
      exact xv_eqi (W := cwR dA a) h1 h2 (hR _ _ _ _ (Nat.le_of_ble_eq_true rfl) (Nat.le_of_ble_eq_true rfl) dX8_present_21)
def sX8_errorPosition (Z : ZZ) : Option (Int32 × ZZ) :=
  bnd (sX8_present (gI Z 0 10) Z) <| fun q_1 =>
  some (q_1.1, q_1.2)
abbrev rmX8_errorPosition : Room := { frames := 2, cells := 0, slots := 0, locals := 42 }
set_option maxHeartbeats 4000000 in
set_option maxRecDepth 100000 in
theorem kX8_errorPosition {l : Launch} {D : va_G} {dA : Nat → ClassId} {sa : String → Nat → Nat} {a : Nat → Nat} (hl : l.stackTraces = false) {Z Z' : ZZ} {v : Int32} (hX : sX8_errorPosition Z = some (v, Z')) : CTi l D dA sa yX8_errorPosition (wz yX8_errorPosition cX8_errorPosition 1 (some .int)) rmX8_errorPosition [.ref (a 0)] (cwR dA a Z) v (cwR dA a Z') := by
  refine xm_i hl (by decide +kernel) (Nat.le_of_ble_eq_true rfl) rfl ?_
  intro p e s m args below meth c A Q hC hR
  unfold sX8_errorPosition at hX
  show xv p l e rmX8_errorPosition s m args below meth c D A 1 Q (cwR dA a Z) 0 0 0 [(0, .ref (a 0))] []
  refine xv_aload_n (pc := 0) hC dX8_errorPosition_0 0 rfl rfl ?_
  refine xv_aload_n (pc := 1) hC dX8_errorPosition_1 0 rfl rfl ?_
  refine xgX8 (v := .int (gI Z 0 10)) (pc := 2) hC dX8_errorPosition_2 (rfl : shR 0 = 1) 10 (by decide) wf_1563 rfl ?_
  obtain ⟨q_1, hq_1, hX⟩ := bnd_some hX
  refine xv_callVi0 (As := [.int (gI Z 0 10)]) (pc := 5) hC (kX8_present hl hq_1) fV_X8_present wf_2049 (rc_X8 (rfl : shR 0 = 1)) rfl ⟨Nat.le_of_ble_eq_true rfl, Nat.le_of_ble_eq_true rfl⟩ rfl (Nat.le_of_ble_eq_true rfl) dX8_errorPosition_5 ⟨Nat.le_of_ble_eq_true rfl, Nat.le_of_ble_eq_true rfl⟩ ?_
  obtain ⟨h1, h2⟩ := some_pair hX
  exact xv_eqi (W := cwR dA a) h1 h2 (hR _ _ _ _ (Nat.le_of_ble_eq_true rfl) (Nat.le_of_ble_eq_true rfl) dX8_errorPosition_8)
def sX8_failedCommand (Z : ZZ) : Option (Int32 × ZZ) :=
  bnd (sX8_present (gI Z 0 11) Z) <| fun q_1 =>
  some (q_1.1, q_1.2)
abbrev rmX8_failedCommand : Room := { frames := 2, cells := 0, slots := 0, locals := 42 }
set_option maxHeartbeats 4000000 in
set_option maxRecDepth 100000 in
theorem kX8_failedCommand {l : Launch} {D : va_G} {dA : Nat → ClassId} {sa : String → Nat → Nat} {a : Nat → Nat} (hl : l.stackTraces = false) {Z Z' : ZZ} {v : Int32} (hX : sX8_failedCommand Z = some (v, Z')) : CTi l D dA sa yX8_failedCommand (wz yX8_failedCommand cX8_failedCommand 1 (some .int)) rmX8_failedCommand [.ref (a 0)] (cwR dA a Z) v (cwR dA a Z') := by
  refine xm_i hl (by decide +kernel) (Nat.le_of_ble_eq_true rfl) rfl ?_
  intro p e s m args below meth c A Q hC hR
  unfold sX8_failedCommand at hX
  show xv p l e rmX8_failedCommand s m args below meth c D A 1 Q (cwR dA a Z) 0 0 0 [(0, .ref (a 0))] []
  refine xv_aload_n (pc := 0) hC dX8_failedCommand_0 0 rfl rfl ?_
  refine xv_aload_n (pc := 1) hC dX8_failedCommand_1 0 rfl rfl ?_
  refine xgX8 (v := .int (gI Z 0 11)) (pc := 2) hC dX8_failedCommand_2 (rfl : shR 0 = 1) 11 (by decide) wf_1564 rfl ?_
  obtain ⟨q_1, hq_1, hX⟩ := bnd_some hX
  refine xv_callVi0 (As := [.int (gI Z 0 11)]) (pc := 5) hC (kX8_present hl hq_1) fV_X8_present wf_2049 (rc_X8 (rfl : shR 0 = 1)) rfl ⟨Nat.le_of_ble_eq_true rfl, Nat.le_of_ble_eq_true rfl⟩ rfl (Nat.le_of_ble_eq_true rfl) dX8_failedCommand_5 ⟨Nat.le_of_ble_eq_true rfl, Nat.le_of_ble_eq_true rfl⟩ ?_
  obtain ⟨h1, h2⟩ := some_pair hX
  exact xv_eqi (W := cwR dA a) h1 h2 (hR _ _ _ _ (Nat.le_of_ble_eq_true rfl) (Nat.le_of_ble_eq_true rfl) dX8_failedCommand_8)
def sX8_copy_3_2_L3 (t0 : Nat) (x1 : Int32) (t2 : Nat) (x3 : Int32) : Nat → Int32 → ZZ → Option (ZZ)
  | 0, _, _ => none
  | n + 1, y4, Z =>
  if (180 : Int32) ≤ y4 then (
    some Z) else (
    gd (vin (x1 + y4) 1440 = true) <|
    gd (vin (x3 + y4) 180 = true) <|
    nm (pI Z t2 (x3 + y4).toNatClampNeg (gI Z t0 (x1 + y4).toNatClampNeg)) <| fun Z_4 =>
    nm (y4 + 1) <| fun y_5 =>
    sX8_copy_3_2_L3 t0 x1 t2 x3 n y_5 Z_4)
def sX8_copy_3_2 (t0 : Nat) (x1 : Int32) (t2 : Nat) (x3 : Int32) (Z : ZZ) : Option (ZZ) :=
  gd (shR t0 = 3) <|
  gd (shR t2 = 2) <|
  sX8_copy_3_2_L3 t0 x1 t2 x3 3000 0 Z
abbrev rmX8_copy_3_2 : Room := { frames := 0, cells := 0, slots := 0, locals := 0 }
set_option maxHeartbeats 4000000 in
set_option maxRecDepth 100000 in
theorem kX8_copy_3_2 {l : Launch} {D : va_G} {dA : Nat → ClassId} {sa : String → Nat → Nat} {a : Nat → Nat} (hl : l.stackTraces = false) {t0 : Nat} {x1 : Int32} {t2 : Nat} {x3 : Int32} {Z Z' : ZZ} (hX : sX8_copy_3_2 t0 x1 t2 x3 Z = some Z') : CTv l D dA sa yX8_copy (wz yX8_copy cX8_copy 5 none) rmX8_copy_3_2 [.ref (a t0), .int x1, .ref (a t2), .int x3] (cwR dA a Z) (cwR dA a Z') := by
  refine xm_v hl (by decide +kernel) (Nat.le_of_ble_eq_true rfl) rfl ?_
  intro p e s m args below meth c A Q hC hR
  unfold sX8_copy_3_2 at hX
  obtain ⟨g0, hX⟩ := gd_some hX
  obtain ⟨g2, hX⟩ := gd_some hX
  have v3 : ∀ (n : Nat) (y4 : Int32) (Z : ZZ), sX8_copy_3_2_L3 t0 x1 t2 x3 n y4 Z = some Z' → xv p l e rmX8_copy_3_2 s m args below meth c D A 5 Q (cwR dA a Z) 0 0 3 [(0, .ref (a t0)), (1, .int x1), (2, .ref (a t2)), (3, .int x3), (4, .int y4)] [] := by
    intro n
    induction n with
    | zero =>
      intro y4 Z hX
      exact absurd hX (by simp [sX8_copy_3_2_L3])
    | succ n ih =>
      intro y4 Z hX
      rw [sX8_copy_3_2_L3] at hX
      refine xv_iload (pc := 3) hC dX8_copy_3 4 rfl ?_
      refine xv_sipush (v := 180) (pc := 5) hC dX8_copy_5 (by decide) ?_
      refine xv_icmp_ge (tgt := 29) (pc := 8) hC dX8_copy_8 (by decide) (fun c_1 => ?_) (fun c_1 => ?_)
      · replace hX := if_t c_1 hX
        exact xv_eqw (W := cwR dA a) (Option.some.inj hX) (hR _ _ _ _ (Nat.le_of_ble_eq_true rfl) (Nat.le_of_ble_eq_true rfl) dX8_copy_29)
      · replace hX := if_f c_1 hX
        refine xv_aload_n (pc := 11) hC dX8_copy_11 2 rfl rfl ?_
        refine xv_iload_n (pc := 12) hC dX8_copy_12 3 rfl rfl ?_
        refine xv_iload (pc := 13) hC dX8_copy_13 4 rfl ?_
        refine xv_iadd (pc := 15) hC dX8_copy_15 ?_
        refine xv_aload_n (pc := 16) hC dX8_copy_16 0 rfl rfl ?_
        refine xv_iload_n (pc := 17) hC dX8_copy_17 1 rfl rfl ?_
        refine xv_iload (pc := 18) hC dX8_copy_18 4 rfl ?_
        refine xv_iadd (pc := 20) hC dX8_copy_20 ?_
        obtain ⟨h_2, hX⟩ := gd_some hX
        refine xl_R3 (pc := 21) hC dX8_copy_21 g0 h_2 ?_
        obtain ⟨h_3, hX⟩ := gd_some hX
        obtain ⟨Z_4, hZ_4, hX⟩ := nm_some hX
        refine xs_R2 (pc := 22) hC dX8_copy_22 g2 h_3 hZ_4 ?_
        obtain ⟨y_5, hy_5, hX⟩ := nm_some hX
        refine xv_iinc (pc := 23) (v := y_5) (lv' := [(4, .int y_5), (0, .ref (a t0)), (1, .int x1), (2, .ref (a t2)), (3, .int x3)]) hC dX8_copy_23 4 rfl (by rw [hy_5]; rfl) (by decide) rfl ?_
        refine xv_goto (tgt := 3) (pc := 26) hC dX8_copy_26 (by decide) ?_
        refine xv_sub (lv' := [(0, .ref (a t0)), (1, .int x1), (2, .ref (a t2)), (3, .int x3), (4, .int y_5)]) [1, 2, 3, 4, 0] rfl ?_
        exact ih y_5 Z_4 hX
  show xv p l e rmX8_copy_3_2 s m args below meth c D A 5 Q (cwR dA a Z) 0 0 0 [(0, .ref (a t0)), (1, .int x1), (2, .ref (a t2)), (3, .int x3)] []
  refine xv_iconst (v := 0) (pc := 0) hC dX8_copy_0 (by decide) ?_
  refine xv_istore (pc := 1) (lv' := [(4, .int 0), (0, .ref (a t0)), (1, .int x1), (2, .ref (a t2)), (3, .int x3)]) hC dX8_copy_1 (by decide) rfl ?_
  refine xv_sub (lv' := [(0, .ref (a t0)), (1, .int x1), (2, .ref (a t2)), (3, .int x3), (4, .int 0)]) [1, 2, 3, 4, 0] rfl ?_
  exact v3 3000 0 Z hX
def sX8_undo_B13 (u1 : Int32) (Z : ZZ) : Option (Int32 × ZZ) :=
  bnd (sX8_checked u1 Z) <| fun q_1 =>
  if q_1.1 ≤ 0 then (
    nm (pI q_1.2 0 9 ((gI q_1.2 0 9) - 1)) <| fun Z_3 =>
    bnd (sX8_copy_3_2 4 (180 * (gI Z_3 0 9)) 1 0 Z_3) <| fun q_4 =>
    some (gI q_4 0 9, q_4)) else (
    some (0, q_1.2))
def sX8_undo (Z : ZZ) : Option (Int32 × ZZ) :=
  if (gI Z 0 9) ≤ 0 then (
    sX8_undo_B13 0 Z) else (
    sX8_undo_B13 1 Z)
abbrev rmX8_undo : Room := { frames := 1, cells := 0, slots := 0, locals := 24 }
set_option maxHeartbeats 4000000 in
set_option maxRecDepth 100000 in
theorem kX8_undo {l : Launch} {D : va_G} {dA : Nat → ClassId} {sa : String → Nat → Nat} {a : Nat → Nat} (hl : l.stackTraces = false) {Z Z' : ZZ} {v : Int32} (hX : sX8_undo Z = some (v, Z')) : CTi l D dA sa yX8_undo (wz yX8_undo cX8_undo 1 (some .int)) rmX8_undo [.ref (a 0)] (cwR dA a Z) v (cwR dA a Z') := by
  refine xm_i hl (by decide +kernel) (Nat.le_of_ble_eq_true rfl) rfl ?_
  intro p e s m args below meth c A Q hC hR
  unfold sX8_undo at hX
  have v13 : ∀ (u1 : Int32) (Z : ZZ), sX8_undo_B13 u1 Z = some (v, Z') → xv p l e rmX8_undo s m args below meth c D A 1 Q (cwR dA a Z) 0 0 13 [(0, .ref (a 0))] [.int u1, .ref (a 0)] := by
    intro u1 Z hX
    unfold sX8_undo_B13 at hX
    obtain ⟨q_1, hq_1, hX⟩ := bnd_some hX
    refine xv_callVi0 (As := [.int u1]) (pc := 13) hC (kX8_checked hl hq_1) fV_X8_checked wf_1839 (rc_X8 (rfl : shR 0 = 1)) rfl ⟨Nat.le_of_ble_eq_true rfl, Nat.le_of_ble_eq_true rfl⟩ rfl (Nat.le_of_ble_eq_true rfl) dX8_undo_13 ⟨Nat.le_of_ble_eq_true rfl, Nat.le_of_ble_eq_true rfl⟩ ?_
    refine xv_if_le (tgt := 21) (pc := 16) hC dX8_undo_16 (by decide) (fun c_2 => ?_) (fun c_2 => ?_)
    · replace hX := if_t c_2 hX
      refine xv_aload_n (pc := 21) hC dX8_undo_21 0 rfl rfl ?_
      refine xv_dup (pc := 22) hC dX8_undo_22 rfl ?_
      refine xgX8 (v := .int (gI q_1.2 0 9)) (pc := 23) hC dX8_undo_23 (rfl : shR 0 = 1) 9 (by decide) wf_1562 rfl ?_
      refine xv_iconst (v := 1) (pc := 26) hC dX8_undo_26 (by decide) ?_
      refine xv_isub (pc := 27) hC dX8_undo_27 ?_
      obtain ⟨Z_3, hZ_3, hX⟩ := nm_some hX
      refine xpX8 (ty := .int) (pc := 28) hC dX8_undo_28 (rfl : shR 0 = 1) 9 (by decide) wf_1562 rfl (by decide +kernel) rfl rfl rfl hZ_3 ?_
      refine xv_aload_n (pc := 31) hC dX8_undo_31 0 rfl rfl ?_
      refine xgX8 (v := .ref (a 4)) (pc := 32) hC dX8_undo_32 (rfl : shR 0 = 1) 3 (by decide) wf_1556 rfl ?_
      refine xv_sipush (v := 180) (pc := 35) hC dX8_undo_35 (by decide) ?_
      refine xv_aload_n (pc := 38) hC dX8_undo_38 0 rfl rfl ?_
      refine xgX8 (v := .int (gI Z_3 0 9)) (pc := 39) hC dX8_undo_39 (rfl : shR 0 = 1) 9 (by decide) wf_1562 rfl ?_
      refine xv_imul (pc := 42) hC dX8_undo_42 ?_
      refine xv_aload_n (pc := 43) hC dX8_undo_43 0 rfl rfl ?_
      refine xgX8 (v := .ref (a 1)) (pc := 44) hC dX8_undo_44 (rfl : shR 0 = 1) 0 (by decide) wf_1553 rfl ?_
      refine xv_iconst (v := 0) (pc := 47) hC dX8_undo_47 (by decide) ?_
      obtain ⟨q_4, hq_4, hX⟩ := bnd_some hX
      refine xv_callSv0 (As := [.ref (a 4), .int (180 * (gI Z_3 0 9)), .ref (a 1), .int 0]) (pc := 48) hC (kX8_copy_3_2 hl hq_4) fS_X8_copy wf_1641 rfl ⟨Nat.le_of_ble_eq_true rfl, Nat.le_of_ble_eq_true rfl⟩ rfl (Nat.le_of_ble_eq_true rfl) dX8_undo_48 ⟨Nat.le_of_ble_eq_true rfl, Nat.le_of_ble_eq_true rfl⟩ ?_
      refine xv_aload_n (pc := 51) hC dX8_undo_51 0 rfl rfl ?_
      refine xgX8 (v := .int (gI q_4 0 9)) (pc := 52) hC dX8_undo_52 (rfl : shR 0 = 1) 9 (by decide) wf_1562 rfl ?_
      obtain ⟨h1, h2⟩ := some_pair hX
      exact xv_eqi (W := cwR dA a) h1 h2 (hR _ _ _ _ (Nat.le_of_ble_eq_true rfl) (Nat.le_of_ble_eq_true rfl) dX8_undo_55)
    · replace hX := if_f c_2 hX
      refine xv_iconst (v := 0) (pc := 19) hC dX8_undo_19 (by decide) ?_
      obtain ⟨h1, h2⟩ := some_pair hX
      exact xv_eqi (W := cwR dA a) h1 h2 (hR _ _ _ _ (Nat.le_of_ble_eq_true rfl) (Nat.le_of_ble_eq_true rfl) dX8_undo_20)
  show xv p l e rmX8_undo s m args below meth c D A 1 Q (cwR dA a Z) 0 0 0 [(0, .ref (a 0))] []
  refine xv_aload_n (pc := 0) hC dX8_undo_0 0 rfl rfl ?_
  refine xv_aload_n (pc := 1) hC dX8_undo_1 0 rfl rfl ?_
  refine xgX8 (v := .int (gI Z 0 9)) (pc := 2) hC dX8_undo_2 (rfl : shR 0 = 1) 9 (by decide) wf_1562 rfl ?_
  refine xv_if_le (tgt := 12) (pc := 5) hC dX8_undo_5 (by decide) (fun c_5 => ?_) (fun c_5 => ?_)
  · replace hX := if_t c_5 hX
    refine xv_iconst (v := 0) (pc := 12) hC dX8_undo_12 (by decide) ?_
    exact v13 0 Z hX
  · replace hX := if_f c_5 hX
    refine xv_iconst (v := 1) (pc := 8) hC dX8_undo_8 (by decide) ?_
    refine xv_goto (tgt := 13) (pc := 9) hC dX8_undo_9 (by decide) ?_
    exact v13 1 Z hX
def sX8_save (Z : ZZ) : Option (Int32 × ZZ) :=
  nm (pI Z 0 8 0) <| fun Z_1 =>
  bnd (sX8_copy_2_2 1 0 3 0 Z_1) <| fun q_2 =>
  nm (pI q_2 0 14 1) <| fun Z_3 =>
  gd (vin 2 180 = true) <|
  some (gI Z_3 1 (2 : Int32).toNatClampNeg, Z_3)
abbrev rmX8_save : Room := { frames := 1, cells := 0, slots := 0, locals := 24 }
set_option maxHeartbeats 4000000 in
set_option maxRecDepth 100000 in
theorem kX8_save {l : Launch} {D : va_G} {dA : Nat → ClassId} {sa : String → Nat → Nat} {a : Nat → Nat} (hl : l.stackTraces = false) {Z Z' : ZZ} {v : Int32} (hX : sX8_save Z = some (v, Z')) : CTi l D dA sa yX8_save (wz yX8_save cX8_save 1 (some .int)) rmX8_save [.ref (a 0)] (cwR dA a Z) v (cwR dA a Z') := by
  refine xm_i hl (by decide +kernel) (Nat.le_of_ble_eq_true rfl) rfl ?_
  intro p e s m args below meth c A Q hC hR
  unfold sX8_save at hX
  show xv p l e rmX8_save s m args below meth c D A 1 Q (cwR dA a Z) 0 0 0 [(0, .ref (a 0))] []
  refine xv_aload_n (pc := 0) hC dX8_save_0 0 rfl rfl ?_
  refine xv_iconst (v := 0) (pc := 1) hC dX8_save_1 (by decide) ?_
  obtain ⟨Z_1, hZ_1, hX⟩ := nm_some hX
  refine xpX8 (ty := .int) (pc := 2) hC dX8_save_2 (rfl : shR 0 = 1) 8 (by decide) wf_1561 rfl (by decide +kernel) rfl rfl rfl hZ_1 ?_
  refine xv_aload_n (pc := 5) hC dX8_save_5 0 rfl rfl ?_
  refine xgX8 (v := .ref (a 1)) (pc := 6) hC dX8_save_6 (rfl : shR 0 = 1) 0 (by decide) wf_1553 rfl ?_
  refine xv_iconst (v := 0) (pc := 9) hC dX8_save_9 (by decide) ?_
  refine xv_aload_n (pc := 10) hC dX8_save_10 0 rfl rfl ?_
  refine xgX8 (v := .ref (a 3)) (pc := 11) hC dX8_save_11 (rfl : shR 0 = 1) 2 (by decide) wf_1555 rfl ?_
  refine xv_iconst (v := 0) (pc := 14) hC dX8_save_14 (by decide) ?_
  obtain ⟨q_2, hq_2, hX⟩ := bnd_some hX
  refine xv_callSv0 (As := [.ref (a 1), .int 0, .ref (a 3), .int 0]) (pc := 15) hC (kX8_copy_2_2 hl hq_2) fS_X8_copy wf_1641 rfl ⟨Nat.le_of_ble_eq_true rfl, Nat.le_of_ble_eq_true rfl⟩ rfl (Nat.le_of_ble_eq_true rfl) dX8_save_15 ⟨Nat.le_of_ble_eq_true rfl, Nat.le_of_ble_eq_true rfl⟩ ?_
  refine xv_aload_n (pc := 18) hC dX8_save_18 0 rfl rfl ?_
  refine xv_iconst (v := 1) (pc := 19) hC dX8_save_19 (by decide) ?_
  obtain ⟨Z_3, hZ_3, hX⟩ := nm_some hX
  refine xpX8 (ty := .boolean) (pc := 20) hC dX8_save_20 (rfl : shR 0 = 1) 14 (by decide) wf_1567 rfl (by decide +kernel) (by decide) (by decide) rfl hZ_3 ?_
  refine xv_aload_n (pc := 23) hC dX8_save_23 0 rfl rfl ?_
  refine xgX8 (v := .ref (a 1)) (pc := 24) hC dX8_save_24 (rfl : shR 0 = 1) 0 (by decide) wf_1553 rfl ?_
  refine xv_iconst (v := 2) (pc := 27) hC dX8_save_27 (by decide) ?_
  obtain ⟨h_4, hX⟩ := gd_some hX
  refine xl_R2 (pc := 28) hC dX8_save_28 (rfl : shR 1 = 2) h_4 ?_
  obtain ⟨h1, h2⟩ := some_pair hX
  exact xv_eqi (W := cwR dA a) h1 h2 (hR _ _ _ _ (Nat.le_of_ble_eq_true rfl) (Nat.le_of_ble_eq_true rfl) dX8_save_29)
def sX8_restore (Z : ZZ) : Option (Int32 × ZZ) :=
  bnd (sX8_checked (gI Z 0 14) Z) <| fun q_1 =>
  if q_1.1 ≤ 0 then (
    bnd (sX8_copy_2_2 3 0 1 0 q_1.2) <| fun q_3 =>
    nm (pI q_3 0 9 0) <| fun Z_4 =>
    gd (vin 2 180 = true) <|
    some (gI Z_4 1 (2 : Int32).toNatClampNeg, Z_4)) else (
    some (0, q_1.2))
abbrev rmX8_restore : Room := { frames := 1, cells := 0, slots := 0, locals := 24 }
set_option maxHeartbeats 4000000 in
set_option maxRecDepth 100000 in
theorem kX8_restore {l : Launch} {D : va_G} {dA : Nat → ClassId} {sa : String → Nat → Nat} {a : Nat → Nat} (hl : l.stackTraces = false) {Z Z' : ZZ} {v : Int32} (hX : sX8_restore Z = some (v, Z')) : CTi l D dA sa yX8_restore (wz yX8_restore cX8_restore 1 (some .int)) rmX8_restore [.ref (a 0)] (cwR dA a Z) v (cwR dA a Z') := by
  refine xm_i hl (by decide +kernel) (Nat.le_of_ble_eq_true rfl) rfl ?_
  intro p e s m args below meth c A Q hC hR
  unfold sX8_restore at hX
  show xv p l e rmX8_restore s m args below meth c D A 1 Q (cwR dA a Z) 0 0 0 [(0, .ref (a 0))] []
  refine xv_aload_n (pc := 0) hC dX8_restore_0 0 rfl rfl ?_
  refine xv_aload_n (pc := 1) hC dX8_restore_1 0 rfl rfl ?_
  refine xgX8 (v := .int (gI Z 0 14)) (pc := 2) hC dX8_restore_2 (rfl : shR 0 = 1) 14 (by decide) wf_1567 rfl ?_
  obtain ⟨q_1, hq_1, hX⟩ := bnd_some hX
  refine xv_callVi0 (As := [.int (gI Z 0 14)]) (pc := 5) hC (kX8_checked hl hq_1) fV_X8_checked wf_1839 (rc_X8 (rfl : shR 0 = 1)) rfl ⟨Nat.le_of_ble_eq_true rfl, Nat.le_of_ble_eq_true rfl⟩ rfl (Nat.le_of_ble_eq_true rfl) dX8_restore_5 ⟨Nat.le_of_ble_eq_true rfl, Nat.le_of_ble_eq_true rfl⟩ ?_
  refine xv_if_le (tgt := 13) (pc := 8) hC dX8_restore_8 (by decide) (fun c_2 => ?_) (fun c_2 => ?_)
  · replace hX := if_t c_2 hX
    refine xv_aload_n (pc := 13) hC dX8_restore_13 0 rfl rfl ?_
    refine xgX8 (v := .ref (a 3)) (pc := 14) hC dX8_restore_14 (rfl : shR 0 = 1) 2 (by decide) wf_1555 rfl ?_
    refine xv_iconst (v := 0) (pc := 17) hC dX8_restore_17 (by decide) ?_
    refine xv_aload_n (pc := 18) hC dX8_restore_18 0 rfl rfl ?_
    refine xgX8 (v := .ref (a 1)) (pc := 19) hC dX8_restore_19 (rfl : shR 0 = 1) 0 (by decide) wf_1553 rfl ?_
    refine xv_iconst (v := 0) (pc := 22) hC dX8_restore_22 (by decide) ?_
    obtain ⟨q_3, hq_3, hX⟩ := bnd_some hX
    refine xv_callSv0 (As := [.ref (a 3), .int 0, .ref (a 1), .int 0]) (pc := 23) hC (kX8_copy_2_2 hl hq_3) fS_X8_copy wf_1641 rfl ⟨Nat.le_of_ble_eq_true rfl, Nat.le_of_ble_eq_true rfl⟩ rfl (Nat.le_of_ble_eq_true rfl) dX8_restore_23 ⟨Nat.le_of_ble_eq_true rfl, Nat.le_of_ble_eq_true rfl⟩ ?_
    refine xv_aload_n (pc := 26) hC dX8_restore_26 0 rfl rfl ?_
    refine xv_iconst (v := 0) (pc := 27) hC dX8_restore_27 (by decide) ?_
    obtain ⟨Z_4, hZ_4, hX⟩ := nm_some hX
    refine xpX8 (ty := .int) (pc := 28) hC dX8_restore_28 (rfl : shR 0 = 1) 9 (by decide) wf_1562 rfl (by decide +kernel) rfl rfl rfl hZ_4 ?_
    refine xv_aload_n (pc := 31) hC dX8_restore_31 0 rfl rfl ?_
    refine xgX8 (v := .ref (a 1)) (pc := 32) hC dX8_restore_32 (rfl : shR 0 = 1) 0 (by decide) wf_1553 rfl ?_
    refine xv_iconst (v := 2) (pc := 35) hC dX8_restore_35 (by decide) ?_
    obtain ⟨h_5, hX⟩ := gd_some hX
    refine xl_R2 (pc := 36) hC dX8_restore_36 (rfl : shR 1 = 2) h_5 ?_
    obtain ⟨h1, h2⟩ := some_pair hX
    exact xv_eqi (W := cwR dA a) h1 h2 (hR _ _ _ _ (Nat.le_of_ble_eq_true rfl) (Nat.le_of_ble_eq_true rfl) dX8_restore_37)
  · replace hX := if_f c_2 hX
    refine xv_iconst (v := 0) (pc := 11) hC dX8_restore_11 (by decide) ?_
    obtain ⟨h1, h2⟩ := some_pair hX
    exact xv_eqi (W := cwR dA a) h1 h2 (hR _ _ _ _ (Nat.le_of_ble_eq_true rfl) (Nat.le_of_ble_eq_true rfl) dX8_restore_12)
