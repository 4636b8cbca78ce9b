def sX6_endCall_L87 (t0 : Nat) (x1 : Int32) : Nat → Int32 → Int32 → ZZ → Option (Int32 × ZZ)
  | 0, _, _, _ => none
  | n + 1, y2, y4, Z =>
  if (gI Z t0 5) ≤ y4 then (
    some (y2, Z)) else (
    gd (vin y4 5 = true) <|
    gd (vin (y4 + 1) 5 = true) <|
    bnd (sX1_copyFrom (elC (t0 + 9) y4) (elC (t0 + 9) (y4 + 1)) Z) <| fun q_4 =>
    nm (y4 + 1) <| fun y_5 =>
    sX6_endCall_L87 t0 x1 n y2 y_5 q_4)
def sX6_endCall_B53 (t0 : Nat) (x1 : Int32) (y2 : Int32) (Z : ZZ) : Option (Int32 × ZZ) :=
  nm (pL Z t0 ((gL Z t0) + y2.toInt64)) <| fun Z_6 =>
  nm (pI Z_6 t0 8 ((gI Z_6 t0 8) + 1)) <| fun Z_7 =>
  nm (pI Z_7 t0 5 ((gI Z_7 t0 5) - 1)) <| fun Z_8 =>
  sX6_endCall_L87 t0 x1 3000 y2 x1 Z_8
def sX6_endCall (t0 : Nat) (x1 : Int32) (Z : ZZ) : Option (Int32 × ZZ) :=
  gd (shC t0 = 13) <|
  if x1 < 0 then (
    some (0, Z)) else (
    if x1 < (gI Z t0 5) then (
      gd (vin x1 5 = true) <|
      bnd (sX6_chargeOf t0 (elC (t0 + 9) x1) Z) <| fun q_12 =>
      nm (q_12.1) <| fun y_13 =>
      gd (vin x1 5 = true) <|
      nm (gI q_12.2 (elC (t0 + 9) x1) 0) <| fun y_15 =>
      bnd (sX6_hasSubscriber t0 y_15 q_12.2) <| fun q_16 =>
      if q_16.1 = 0 then (
        sX6_endCall_B53 t0 x1 y_13 q_16.2) else (
        gd (vin y_15 10 = true) <|
        gd (vin y_15 10 = true) <|
        nm (pI q_16.2 (t0 + 8) y_15.toNatClampNeg ((gI q_16.2 (t0 + 8) y_15.toNatClampNeg) + y_13)) <| fun Z_20 =>
        sX6_endCall_B53 t0 x1 y_13 Z_20)) else (
      some (0, Z)))
abbrev rmX6_endCall : Room := { frames := 3, cells := 0, slots := 0, locals := 102 }
set_option maxHeartbeats 4000000 in
set_option maxRecDepth 100000 in
theorem kX6_endCall {l : Launch} {D : va_G} {dA : Nat → ClassId} {sa : String → Nat → Nat} {a : Nat → Nat} (hl : l.stackTraces = false) {t0 : Nat} {x1 : Int32} {Z Z' : ZZ} {v : Int32} (hX : sX6_endCall t0 x1 Z = some (v, Z')) : CTi l D dA sa yX6_endCall (wz yX6_endCall cX6_endCall 5 (some .int)) rmX6_endCall [.ref (a t0), .int x1] (cwC dA a Z) v (cwC dA a Z') := by
  refine xm_i hl (by decide +kernel) (Nat.le_of_ble_eq_true rfl) rfl ?_
  intro p e s m args below meth c A Q hC hR
  unfold sX6_endCall at hX
  obtain ⟨g0, hX⟩ := gd_some hX
  have v87 : ∀ (n : Nat) (y2 : Int32) (y4 : Int32) (Z : ZZ), sX6_endCall_L87 t0 x1 n y2 y4 Z = some (v, Z') → xv p l e rmX6_endCall s m args below meth c D A 5 Q (cwC dA a Z) 0 0 87 [(0, .ref (a t0)), (1, .int x1), (2, .int y2), (4, .int y4)] [] := by
    intro n
    induction n with
    | zero =>
      intro y2 y4 Z hX
      exact absurd hX (by simp [sX6_endCall_L87])
    | succ n ih =>
      intro y2 y4 Z hX
      rw [sX6_endCall_L87] at hX
      refine xv_iload (pc := 87) hC dX6_endCall_87 3 rfl ?_
      refine xv_aload_n (pc := 89) hC dX6_endCall_89 0 rfl rfl ?_
      refine xgX6 (v := .int (gI Z t0 5)) (pc := 90) hC dX6_endCall_90 g0 5 (by decide) wf_135 rfl ?_
      refine xv_icmp_ge (tgt := 121) (pc := 93) hC dX6_endCall_93 (by decide) (fun c_1 => ?_) (fun c_1 => ?_)
      · replace hX := if_t c_1 hX
        refine xv_iload_n (pc := 121) hC dX6_endCall_121 2 rfl rfl ?_
        obtain ⟨h1, h2⟩ := some_pair hX
        exact xv_eqi (W := cwC dA a) h1 h2 (hR _ _ _ _ (Nat.le_of_ble_eq_true rfl) (Nat.le_of_ble_eq_true rfl) dX6_endCall_122)
      · replace hX := if_f c_1 hX
        refine xv_aload_n (pc := 96) hC dX6_endCall_96 0 rfl rfl ?_
        refine xgX6 (v := .ref (a (t0 + 9))) (pc := 97) hC dX6_endCall_97 g0 6 (by decide) wf_137 rfl ?_
        refine xv_iload (pc := 100) hC dX6_endCall_100 3 rfl ?_
        obtain ⟨h_2, hX⟩ := gd_some hX
        refine xa_16 (pc := 102) hC dX6_endCall_102 (sh_X6_calls g0) h_2 ?_
        refine xv_aload_n (pc := 103) hC dX6_endCall_103 0 rfl rfl ?_
        refine xgX6 (v := .ref (a (t0 + 9))) (pc := 104) hC dX6_endCall_104 g0 6 (by decide) wf_137 rfl ?_
        refine xv_iload (pc := 107) hC dX6_endCall_107 3 rfl ?_
        refine xv_iconst (v := 1) (pc := 109) hC dX6_endCall_109 (by decide) ?_
        refine xv_iadd (pc := 110) hC dX6_endCall_110 ?_
        obtain ⟨h_3, hX⟩ := gd_some hX
        refine xa_16 (pc := 111) hC dX6_endCall_111 (sh_X6_calls g0) h_3 ?_
        obtain ⟨q_4, hq_4, hX⟩ := bnd_some hX
        refine xv_callVv0 (As := [.ref (a (elC (t0 + 9) (y4 + 1)))]) (pc := 112) hC (kX1_copyFrom hl hq_4) fV_X1_copyFrom wf_872 (rc_X1 (sh_elC (sh_X6_calls g0) h_2)) rfl ⟨Nat.le_of_ble_eq_true rfl, Nat.le_of_ble_eq_true rfl⟩ rfl (Nat.le_of_ble_eq_true rfl) dX6_endCall_112 ⟨Nat.le_of_ble_eq_true rfl, Nat.le_of_ble_eq_true rfl⟩ ?_
        obtain ⟨y_5, hy_5, hX⟩ := nm_some hX
        refine xv_iinc (pc := 115) (v := y_5) (lv' := [(4, .int y_5), (0, .ref (a t0)), (1, .int x1), (2, .int y2)]) hC dX6_endCall_115 3 rfl (by rw [hy_5]; rfl) (by decide) rfl ?_
        refine xv_goto (tgt := 87) (pc := 118) hC dX6_endCall_118 (by decide) ?_
        refine xv_sub (lv' := [(0, .ref (a t0)), (1, .int x1), (2, .int y2), (4, .int y_5)]) [1, 2, 3, 0] rfl ?_
        exact ih y2 y_5 q_4 hX
  have v53 : ∀ (y2 : Int32) (Z : ZZ), sX6_endCall_B53 t0 x1 y2 Z = some (v, Z') → xv p l e rmX6_endCall s m args below meth c D A 5 Q (cwC dA a Z) 0 0 53 [(0, .ref (a t0)), (1, .int x1), (2, .int y2)] [] := by
    intro y2 Z hX
    unfold sX6_endCall_B53 at hX
    refine xv_aload_n (pc := 53) hC dX6_endCall_53 0 rfl rfl ?_
    refine xv_dup (pc := 54) hC dX6_endCall_54 rfl ?_
    refine xgX6 (v := .long (gL Z t0)) (pc := 55) hC dX6_endCall_55 g0 7 (by decide) wf_139 rfl ?_
    refine xv_iload_n (pc := 58) hC dX6_endCall_58 2 rfl rfl ?_
    refine xv_i2l (pc := 59) hC dX6_endCall_59 ?_
    refine xv_ladd (pc := 60) hC dX6_endCall_60 ?_
    obtain ⟨Z_6, hZ_6, hX⟩ := nm_some hX
    refine xplX6 (pc := 61) hC dX6_endCall_61 g0 7 (by decide) wf_139 rfl (by decide +kernel) rfl hZ_6 ?_
    refine xv_aload_n (pc := 64) hC dX6_endCall_64 0 rfl rfl ?_
    refine xv_dup (pc := 65) hC dX6_endCall_65 rfl ?_
    refine xgX6 (v := .int (gI Z_6 t0 8)) (pc := 66) hC dX6_endCall_66 g0 8 (by decide) wf_141 rfl ?_
    refine xv_iconst (v := 1) (pc := 69) hC dX6_endCall_69 (by decide) ?_
    refine xv_iadd (pc := 70) hC dX6_endCall_70 ?_
    obtain ⟨Z_7, hZ_7, hX⟩ := nm_some hX
    refine xpX6 (ty := .int) (pc := 71) hC dX6_endCall_71 g0 8 (by decide) wf_141 rfl (by decide +kernel) rfl rfl rfl hZ_7 ?_
    refine xv_aload_n (pc := 74) hC dX6_endCall_74 0 rfl rfl ?_
    refine xv_dup (pc := 75) hC dX6_endCall_75 rfl ?_
    refine xgX6 (v := .int (gI Z_7 t0 5)) (pc := 76) hC dX6_endCall_76 g0 5 (by decide) wf_135 rfl ?_
    refine xv_iconst (v := 1) (pc := 79) hC dX6_endCall_79 (by decide) ?_
    refine xv_isub (pc := 80) hC dX6_endCall_80 ?_
    obtain ⟨Z_8, hZ_8, hX⟩ := nm_some hX
    refine xpX6 (ty := .int) (pc := 81) hC dX6_endCall_81 g0 5 (by decide) wf_135 rfl (by decide +kernel) rfl rfl rfl hZ_8 ?_
    refine xv_iload_n (pc := 84) hC dX6_endCall_84 1 rfl rfl ?_
    refine xv_istore (pc := 85) (lv' := [(4, .int x1), (0, .ref (a t0)), (1, .int x1), (2, .int y2)]) hC dX6_endCall_85 (by decide) rfl ?_
    refine xv_sub (lv' := [(0, .ref (a t0)), (1, .int x1), (2, .int y2), (4, .int x1)]) [1, 2, 3, 0] rfl ?_
    exact v87 3000 y2 x1 Z_8 hX
  show xv p l e rmX6_endCall s m args below meth c D A 5 Q (cwC dA a Z) 0 0 0 [(0, .ref (a t0)), (1, .int x1)] []
  refine xv_iload_n (pc := 0) hC dX6_endCall_0 1 rfl rfl ?_
  refine xv_if_lt (tgt := 12) (pc := 1) hC dX6_endCall_1 (by decide) (fun c_9 => ?_) (fun c_9 => ?_)
  · replace hX := if_t c_9 hX
    refine xv_iconst (v := 0) (pc := 12) hC dX6_endCall_12 (by decide) ?_
    obtain ⟨h1, h2⟩ := some_pair hX
    exact xv_eqi (W := cwC dA a) h1 h2 (hR _ _ _ _ (Nat.le_of_ble_eq_true rfl) (Nat.le_of_ble_eq_true rfl) dX6_endCall_13)
  · replace hX := if_f c_9 hX
    refine xv_iload_n (pc := 4) hC dX6_endCall_4 1 rfl rfl ?_
    refine xv_aload_n (pc := 5) hC dX6_endCall_5 0 rfl rfl ?_
    refine xgX6 (v := .int (gI Z t0 5)) (pc := 6) hC dX6_endCall_6 g0 5 (by decide) wf_135 rfl ?_
    refine xv_icmp_lt (tgt := 14) (pc := 9) hC dX6_endCall_9 (by decide) (fun c_10 => ?_) (fun c_10 => ?_)
    · replace hX := if_t c_10 hX
      refine xv_aload_n (pc := 14) hC dX6_endCall_14 0 rfl rfl ?_
      refine xv_aload_n (pc := 15) hC dX6_endCall_15 0 rfl rfl ?_
      refine xgX6 (v := .ref (a (t0 + 9))) (pc := 16) hC dX6_endCall_16 g0 6 (by decide) wf_137 rfl ?_
      refine xv_iload_n (pc := 19) hC dX6_endCall_19 1 rfl rfl ?_
      obtain ⟨h_11, hX⟩ := gd_some hX
      refine xa_16 (pc := 20) hC dX6_endCall_20 (sh_X6_calls g0) h_11 ?_
      obtain ⟨q_12, hq_12, hX⟩ := bnd_some hX
      refine xv_callVi0 (As := [.ref (a (elC (t0 + 9) x1))]) (pc := 21) hC (kX6_chargeOf hl hq_12) fV_X6_chargeOf wf_1044 (rc_X6 g0) rfl ⟨Nat.le_of_ble_eq_true rfl, Nat.le_of_ble_eq_true rfl⟩ rfl (Nat.le_of_ble_eq_true rfl) dX6_endCall_21 ⟨Nat.le_of_ble_eq_true rfl, Nat.le_of_ble_eq_true rfl⟩ ?_
      obtain ⟨y_13, hy_13, hX⟩ := nm_some hX
      refine xv_nmi hy_13 ?_
      refine xv_istore_n (pc := 24) (lv' := [(2, .int y_13), (0, .ref (a t0)), (1, .int x1)]) hC dX6_endCall_24 rfl (by decide) rfl ?_
      refine xv_aload_n (pc := 25) hC dX6_endCall_25 1 rfl rfl ?_
      refine xgX6 (v := .ref (a (t0 + 9))) (pc := 26) hC dX6_endCall_26 g0 6 (by decide) wf_137 rfl ?_
      refine xv_iload_n (pc := 29) hC dX6_endCall_29 2 rfl rfl ?_
      obtain ⟨h_14, hX⟩ := gd_some hX
      refine xa_16 (pc := 30) hC dX6_endCall_30 (sh_X6_calls g0) h_14 ?_
      refine xgX1 (v := .int (gI q_12.2 (elC (t0 + 9) x1) 0)) (pc := 31) hC dX6_endCall_31 (sh_elC (sh_X6_calls g0) h_14) 0 (by decide) wf_97 rfl ?_
      obtain ⟨y_15, hy_15, hX⟩ := nm_some hX
      refine xv_nmi hy_15 ?_
      refine xv_istore_n (pc := 34) (lv' := [(3, .int y_15), (2, .int y_13), (0, .ref (a t0)), (1, .int x1)]) hC dX6_endCall_34 rfl (by decide) rfl ?_
      refine xv_aload_n (pc := 35) hC dX6_endCall_35 2 rfl rfl ?_
      refine xv_iload_n (pc := 36) hC dX6_endCall_36 0 rfl rfl ?_
      obtain ⟨q_16, hq_16, hX⟩ := bnd_some hX
      refine xv_callVi0 (As := [.int y_15]) (pc := 37) hC (kX6_hasSubscriber hl hq_16) fV_X6_hasSubscriber wf_935 (rc_X6 g0) rfl ⟨Nat.le_of_ble_eq_true rfl, Nat.le_of_ble_eq_true rfl⟩ rfl (Nat.le_of_ble_eq_true rfl) dX6_endCall_37 ⟨Nat.le_of_ble_eq_true rfl, Nat.le_of_ble_eq_true rfl⟩ ?_
      refine xv_if_eq (tgt := 53) (pc := 40) hC dX6_endCall_40 (by decide) (fun c_17 => ?_) (fun c_17 => ?_)
      · replace hX := if_t c_17 hX
        refine xv_sub (lv' := [(0, .ref (a t0)), (1, .int x1), (2, .int y_13)]) [2, 3, 1] rfl ?_
        exact v53 y_13 q_16.2 hX
      · replace hX := if_f c_17 hX
        refine xv_aload_n (pc := 43) hC dX6_endCall_43 2 rfl rfl ?_
        refine xgX6 (v := .ref (a (t0 + 8))) (pc := 44) hC dX6_endCall_44 g0 4 (by decide) wf_133 rfl ?_
        refine xv_iload_n (pc := 47) hC dX6_endCall_47 0 rfl rfl ?_
        refine xv_dup2 (pc := 48) hC dX6_endCall_48 rfl rfl ?_
        obtain ⟨h_18, hX⟩ := gd_some hX
        refine xl_C15 (pc := 49) hC dX6_endCall_49 (sh_X6_bills g0) h_18 ?_
        refine xv_iload_n (pc := 50) hC dX6_endCall_50 1 rfl rfl ?_
        refine xv_iadd (pc := 51) hC dX6_endCall_51 ?_
        obtain ⟨h_19, hX⟩ := gd_some hX
        obtain ⟨Z_20, hZ_20, hX⟩ := nm_some hX
        refine xs_C15 (pc := 52) hC dX6_endCall_52 (sh_X6_bills g0) h_19 hZ_20 ?_
        refine xv_sub (lv' := [(0, .ref (a t0)), (1, .int x1), (2, .int y_13)]) [2, 3, 1] rfl ?_
        exact v53 y_13 Z_20 hX
    · replace hX := if_f c_10 hX
      refine xv_iconst (v := 0) (pc := 12) hC dX6_endCall_12 (by decide) ?_
      obtain ⟨h1, h2⟩ := some_pair hX
      exact xv_eqi (W := cwC dA a) h1 h2 (hR _ _ _ _ (Nat.le_of_ble_eq_true rfl) (Nat.le_of_ble_eq_true rfl) dX6_endCall_13)
def sX6_addMinutes_L30 (t0 : Nat) (x1 : Int32) (k2 : Int32 → ZZ → Option (Int32 × ZZ)) : Nat → Int32 → Nat → Int32 → ZZ → Option (Int32 × ZZ)
  | 0, _, _, _, _ => none
  | n + 1, y2, r3, y4, Z =>
  gd (shC r3 = 17) <|
  if (gI Z r3 3) ≤ y4 then (
    nm (y2 + 1) <| fun y_2 =>
    k2 y_2 Z) else (
    gd (vin y4 7 = true) <|
    bnd (sX3_countMinutes (t0 + 1) (gI Z (r3 + 1) y4.toNatClampNeg) x1 Z) <| fun q_4 =>
    nm (y4 + 1) <| fun y_5 =>
    sX6_addMinutes_L30 t0 x1 k2 n y2 r3 y_5 q_4)
def sX6_addMinutes_L2 (t0 : Nat) (x1 : Int32) : Nat → Int32 → ZZ → Option (Int32 × ZZ)
  | 0, _, _ => none
  | n + 1, y2, Z =>
  if (gI Z t0 5) ≤ y2 then (
    some (gI Z t0 5, Z)) else (
    gd (vin y2 5 = true) <|
    nm (pI Z (elC (t0 + 9) y2) 2 ((gI Z (elC (t0 + 9) y2) 2) + x1)) <| fun Z_8 =>
    sX6_addMinutes_L30 t0 x1 (fun y2 Z => sX6_addMinutes_L2 t0 x1 n y2 Z) 3000 y2 (elC (t0 + 9) y2) 0 Z_8)
def sX6_addMinutes (t0 : Nat) (x1 : Int32) (Z : ZZ) : Option (Int32 × ZZ) :=
  gd (shC t0 = 13) <|
  sX6_addMinutes_L2 t0 x1 3000 0 Z
abbrev rmX6_addMinutes : Room := { frames := 2, cells := 0, slots := 0, locals := 43 }
set_option maxHeartbeats 4000000 in
set_option maxRecDepth 100000 in
theorem kX6_addMinutes {l : Launch} {D : va_G} {dA : Nat → ClassId} {sa : String → Nat → Nat} {a : Nat → Nat} (hl : l.stackTraces = false) {t0 : Nat} {x1 : Int32} {Z Z' : ZZ} {v : Int32} (hX : sX6_addMinutes t0 x1 Z = some (v, Z')) : CTi l D dA sa yX6_addMinutes (wz yX6_addMinutes cX6_addMinutes 5 (some .int)) rmX6_addMinutes [.ref (a t0), .int x1] (cwC dA a Z) v (cwC dA a Z') := by
  refine xm_i hl (by decide +kernel) (Nat.le_of_ble_eq_true rfl) rfl ?_
  intro p e s m args below meth c A Q hC hR
  unfold sX6_addMinutes at hX
  obtain ⟨g0, hX⟩ := gd_some hX
  have v30 : ∀ (k2 : Int32 → ZZ → Option (Int32 × ZZ)) (hk2 : ∀ (y2 : Int32) (Z : ZZ), k2 y2 Z = some (v, Z') → xv p l e rmX6_addMinutes s m args below meth c D A 5 Q (cwC dA a Z) 0 0 2 [(0, .ref (a t0)), (1, .int x1), (2, .int y2)] []) (n : Nat) (y2 : Int32) (r3 : Nat) (y4 : Int32) (Z : ZZ), sX6_addMinutes_L30 t0 x1 k2 n y2 r3 y4 Z = some (v, Z') → xv p l e rmX6_addMinutes s m args below meth c D A 5 Q (cwC dA a Z) 0 0 30 [(0, .ref (a t0)), (1, .int x1), (2, .int y2), (3, .ref (a r3)), (4, .int y4)] [] := by
    intro k2 hk2 n
    induction n with
    | zero =>
      intro y2 r3 y4 Z hX
      exact absurd hX (by simp [sX6_addMinutes_L30])
    | succ n ih =>
      intro y2 r3 y4 Z hX
      rw [sX6_addMinutes_L30] at hX
      obtain ⟨hr3, hX⟩ := gd_some hX
      refine xv_iload (pc := 30) hC dX6_addMinutes_30 4 rfl ?_
      refine xv_aload_n (pc := 32) hC dX6_addMinutes_32 3 rfl rfl ?_
      refine xgX1 (v := .int (gI Z r3 3)) (pc := 33) hC dX6_addMinutes_33 hr3 3 (by decide) wf_106 rfl ?_
      refine xv_icmp_ge (tgt := 60) (pc := 36) hC dX6_addMinutes_36 (by decide) (fun c_1 => ?_) (fun c_1 => ?_)
      · replace hX := if_t c_1 hX
        obtain ⟨y_2, hy_2, hX⟩ := nm_some hX
        refine xv_iinc (pc := 60) (v := y_2) (lv' := [(2, .int y_2), (0, .ref (a t0)), (1, .int x1), (3, .ref (a r3)), (4, .int y4)]) hC dX6_addMinutes_60 2 rfl (by rw [hy_2]; rfl) (by decide) rfl ?_
        refine xv_goto (tgt := 2) (pc := 63) hC dX6_addMinutes_63 (by decide) ?_
        refine xv_sub (lv' := [(0, .ref (a t0)), (1, .int x1), (2, .int y_2)]) [1, 2, 0] rfl ?_
        exact hk2 y_2 Z hX
      · replace hX := if_f c_1 hX
        refine xv_aload_n (pc := 39) hC dX6_addMinutes_39 0 rfl rfl ?_
        refine xgX6 (v := .ref (a (t0 + 1))) (pc := 40) hC dX6_addMinutes_40 g0 0 (by decide) wf_126 rfl ?_
        refine xv_aload_n (pc := 43) hC dX6_addMinutes_43 3 rfl rfl ?_
        refine xgX1 (v := .ref (a (r3 + 1))) (pc := 44) hC dX6_addMinutes_44 hr3 5 (by decide) wf_111 rfl ?_
        refine xv_iload (pc := 47) hC dX6_addMinutes_47 4 rfl ?_
        obtain ⟨h_3, hX⟩ := gd_some hX
        refine xl_C11 (pc := 49) hC dX6_addMinutes_49 (sh_X1_route hr3) h_3 ?_
        refine xv_iload_n (pc := 50) hC dX6_addMinutes_50 1 rfl rfl ?_
        obtain ⟨q_4, hq_4, hX⟩ := bnd_some hX
        refine xv_callVv0 (As := [.int (gI Z (r3 + 1) y4.toNatClampNeg), .int x1]) (pc := 51) hC (kX3_countMinutes hl hq_4) fV_X3_countMinutes wf_1074 (rc_X3 (sh_X6_network g0)) rfl ⟨Nat.le_of_ble_eq_true rfl, Nat.le_of_ble_eq_true rfl⟩ rfl (Nat.le_of_ble_eq_true rfl) dX6_addMinutes_51 ⟨Nat.le_of_ble_eq_true rfl, Nat.le_of_ble_eq_true rfl⟩ ?_
        obtain ⟨y_5, hy_5, hX⟩ := nm_some hX
        refine xv_iinc (pc := 54) (v := y_5) (lv' := [(4, .int y_5), (0, .ref (a t0)), (1, .int x1), (2, .int y2), (3, .ref (a r3))]) hC dX6_addMinutes_54 4 rfl (by rw [hy_5]; rfl) (by decide) rfl ?_
        refine xv_goto (tgt := 30) (pc := 57) hC dX6_addMinutes_57 (by decide) ?_
        refine xv_sub (lv' := [(0, .ref (a t0)), (1, .int x1), (2, .int y2), (3, .ref (a r3)), (4, .int y_5)]) [1, 2, 3, 4, 0] rfl ?_
        exact ih y2 r3 y_5 q_4 hX
  have v2 : ∀ (n : Nat) (y2 : Int32) (Z : ZZ), sX6_addMinutes_L2 t0 x1 n y2 Z = some (v, Z') → xv p l e rmX6_addMinutes s m args below meth c D A 5 Q (cwC dA a Z) 0 0 2 [(0, .ref (a t0)), (1, .int x1), (2, .int y2)] [] := by
    intro n
    induction n with
    | zero =>
      intro y2 Z hX
      exact absurd hX (by simp [sX6_addMinutes_L2])
    | succ n ih =>
      intro y2 Z hX
      rw [sX6_addMinutes_L2] at hX
      refine xv_iload_n (pc := 2) hC dX6_addMinutes_2 2 rfl rfl ?_
      refine xv_aload_n (pc := 3) hC dX6_addMinutes_3 0 rfl rfl ?_
      refine xgX6 (v := .int (gI Z t0 5)) (pc := 4) hC dX6_addMinutes_4 g0 5 (by decide) wf_135 rfl ?_
      refine xv_icmp_ge (tgt := 66) (pc := 7) hC dX6_addMinutes_7 (by decide) (fun c_6 => ?_) (fun c_6 => ?_)
      · replace hX := if_t c_6 hX
        refine xv_aload_n (pc := 66) hC dX6_addMinutes_66 0 rfl rfl ?_
        refine xgX6 (v := .int (gI Z t0 5)) (pc := 67) hC dX6_addMinutes_67 g0 5 (by decide) wf_135 rfl ?_
        obtain ⟨h1, h2⟩ := some_pair hX
        exact xv_eqi (W := cwC dA a) h1 h2 (hR _ _ _ _ (Nat.le_of_ble_eq_true rfl) (Nat.le_of_ble_eq_true rfl) dX6_addMinutes_70)
      · replace hX := if_f c_6 hX
        refine xv_aload_n (pc := 10) hC dX6_addMinutes_10 0 rfl rfl ?_
        refine xgX6 (v := .ref (a (t0 + 9))) (pc := 11) hC dX6_addMinutes_11 g0 6 (by decide) wf_137 rfl ?_
        refine xv_iload_n (pc := 14) hC dX6_addMinutes_14 2 rfl rfl ?_
        obtain ⟨h_7, hX⟩ := gd_some hX
        refine xa_16 (pc := 15) hC dX6_addMinutes_15 (sh_X6_calls g0) h_7 ?_
        refine xv_astore_n (pc := 16) (lv' := [(3, .ref (a (elC (t0 + 9) y2))), (0, .ref (a t0)), (1, .int x1), (2, .int y2)]) hC dX6_addMinutes_16 rfl (by decide) rfl ?_
        refine xv_aload_n (pc := 17) hC dX6_addMinutes_17 0 rfl rfl ?_
        refine xv_dup (pc := 18) hC dX6_addMinutes_18 rfl ?_
        refine xgX1 (v := .int (gI Z (elC (t0 + 9) y2) 2)) (pc := 19) hC dX6_addMinutes_19 (sh_elC (sh_X6_calls g0) h_7) 2 (by decide) wf_103 rfl ?_
        refine xv_iload_n (pc := 22) hC dX6_addMinutes_22 2 rfl rfl ?_
        refine xv_iadd (pc := 23) hC dX6_addMinutes_23 ?_
        obtain ⟨Z_8, hZ_8, hX⟩ := nm_some hX
        refine xpX1 (ty := .int) (pc := 24) hC dX6_addMinutes_24 (sh_elC (sh_X6_calls g0) h_7) 2 (by decide) wf_103 rfl (by decide +kernel) rfl rfl rfl hZ_8 ?_
        refine xv_iconst (v := 0) (pc := 27) hC dX6_addMinutes_27 (by decide) ?_
        refine xv_istore (pc := 28) (lv' := [(4, .int 0), (3, .ref (a (elC (t0 + 9) y2))), (0, .ref (a t0)), (1, .int x1), (2, .int y2)]) hC dX6_addMinutes_28 (by decide) rfl ?_
        refine xv_sub (lv' := [(0, .ref (a t0)), (1, .int x1), (2, .int y2), (3, .ref (a (elC (t0 + 9) y2))), (4, .int 0)]) [2, 3, 4, 1, 0] rfl ?_
        exact v30 _ ih 3000 y2 (elC (t0 + 9) y2) 0 Z_8 hX
  show xv p l e rmX6_addMinutes s m args below meth c D A 5 Q (cwC dA a Z) 0 0 0 [(0, .ref (a t0)), (1, .int x1)] []
  refine xv_iconst (v := 0) (pc := 0) hC dX6_addMinutes_0 (by decide) ?_
  refine xv_istore_n (pc := 1) (lv' := [(2, .int 0), (0, .ref (a t0)), (1, .int x1)]) hC dX6_addMinutes_1 rfl (by decide) rfl ?_
  refine xv_sub (lv' := [(0, .ref (a t0)), (1, .int x1), (2, .int 0)]) [1, 2, 0] rfl ?_
  exact v2 3000 0 Z hX
def sX6_sumOfBills_L4 (t0 : Nat) : Nat → Int64 → Int32 → ZZ → Option (Int64 × ZZ)
  | 0, _, _, _ => none
  | n + 1, y1, y3, Z =>
  if (gI Z t0 1) ≤ y3 then (
    some (y1, Z)) else (
    gd (vin y3 10 = true) <|
    nm (y3 + 1) <| fun y_3 =>
    sX6_sumOfBills_L4 t0 n (y1 + ((gI Z (t0 + 8) y3.toNatClampNeg).toInt64)) y_3 Z)
def sX6_sumOfBills (t0 : Nat) (Z : ZZ) : Option (Int64 × ZZ) :=
  gd (shC t0 = 13) <|
  sX6_sumOfBills_L4 t0 3000 0 0 Z
abbrev rmX6_sumOfBills : Room := { frames := 0, cells := 0, slots := 0, locals := 0 }
set_option maxHeartbeats 4000000 in
set_option maxRecDepth 100000 in
theorem kX6_sumOfBills {l : Launch} {D : va_G} {dA : Nat → ClassId} {sa : String → Nat → Nat} {a : Nat → Nat} (hl : l.stackTraces = false) {t0 : Nat} {Z Z' : ZZ} {v : Int64} (hX : sX6_sumOfBills t0 Z = some (v, Z')) : CTl l D dA sa yX6_sumOfBills (wz yX6_sumOfBills cX6_sumOfBills 4 (some .long)) rmX6_sumOfBills [.ref (a t0)] (cwC dA a Z) v (cwC dA a Z') := by
  refine xm_l hl (by decide +kernel) (Nat.le_of_ble_eq_true rfl) rfl ?_
  intro p e s m args below meth c A Q hC hR
  unfold sX6_sumOfBills at hX
  obtain ⟨g0, hX⟩ := gd_some hX
  have v4 : ∀ (n : Nat) (y1 : Int64) (y3 : Int32) (Z : ZZ), sX6_sumOfBills_L4 t0 n y1 y3 Z = some (v, Z') → xv p l e rmX6_sumOfBills s m args below meth c D A 4 Q (cwC dA a Z) 0 0 4 [(0, .ref (a t0)), (1, .long y1), (3, .int y3)] [] := by
    intro n
    induction n with
    | zero =>
      intro y1 y3 Z hX
      exact absurd hX (by simp [sX6_sumOfBills_L4])
    | succ n ih =>
      intro y1 y3 Z hX
      rw [sX6_sumOfBills_L4] at hX
      refine xv_iload_n (pc := 4) hC dX6_sumOfBills_4 2 rfl rfl ?_
      refine xv_aload_n (pc := 5) hC dX6_sumOfBills_5 0 rfl rfl ?_
      refine xgX6 (v := .int (gI Z t0 1)) (pc := 6) hC dX6_sumOfBills_6 g0 1 (by decide) wf_128 rfl ?_
      refine xv_icmp_ge (tgt := 28) (pc := 9) hC dX6_sumOfBills_9 (by decide) (fun c_1 => ?_) (fun c_1 => ?_)
      · replace hX := if_t c_1 hX
        refine xv_lload_n (pc := 28) hC dX6_sumOfBills_28 1 rfl rfl ?_
        obtain ⟨h1, h2⟩ := some_pair hX
        exact xv_eql (W := cwC dA a) h1 h2 (hR _ _ _ _ (Nat.le_of_ble_eq_true rfl) (Nat.le_of_ble_eq_true rfl) dX6_sumOfBills_29)
      · replace hX := if_f c_1 hX
        refine xv_lload_n (pc := 12) hC dX6_sumOfBills_12 1 rfl rfl ?_
        refine xv_aload_n (pc := 13) hC dX6_sumOfBills_13 0 rfl rfl ?_
        refine xgX6 (v := .ref (a (t0 + 8))) (pc := 14) hC dX6_sumOfBills_14 g0 4 (by decide) wf_133 rfl ?_
        refine xv_iload_n (pc := 17) hC dX6_sumOfBills_17 2 rfl rfl ?_
        obtain ⟨h_2, hX⟩ := gd_some hX
        refine xl_C15 (pc := 18) hC dX6_sumOfBills_18 (sh_X6_bills g0) h_2 ?_
        refine xv_i2l (pc := 19) hC dX6_sumOfBills_19 ?_
        refine xv_ladd (pc := 20) hC dX6_sumOfBills_20 ?_
        refine xv_lstore_n (pc := 21) (lv' := [(1, .long (y1 + ((gI Z (t0 + 8) y3.toNatClampNeg).toInt64))), (0, .ref (a t0)), (3, .int y3)]) hC dX6_sumOfBills_21 rfl (by decide) rfl ?_
        obtain ⟨y_3, hy_3, hX⟩ := nm_some hX
        refine xv_iinc (pc := 22) (v := y_3) (lv' := [(3, .int y_3), (1, .long (y1 + ((gI Z (t0 + 8) y3.toNatClampNeg).toInt64))), (0, .ref (a t0))]) hC dX6_sumOfBills_22 2 rfl (by rw [hy_3]; rfl) (by decide) rfl ?_
        refine xv_goto (tgt := 4) (pc := 25) hC dX6_sumOfBills_25 (by decide) ?_
        refine xv_sub (lv' := [(0, .ref (a t0)), (1, .long (y1 + ((gI Z (t0 + 8) y3.toNatClampNeg).toInt64))), (3, .int y_3)]) [2, 1, 0] rfl ?_
        exact ih (y1 + ((gI Z (t0 + 8) y3.toNatClampNeg).toInt64)) y_3 Z hX
  show xv p l e rmX6_sumOfBills s m args below meth c D A 4 Q (cwC dA a Z) 0 0 0 [(0, .ref (a t0))] []
  refine xv_lconst (v := 0) (pc := 0) hC dX6_sumOfBills_0 (by decide) ?_
  refine xv_lstore_n (pc := 1) (lv' := [(1, .long 0), (0, .ref (a t0))]) hC dX6_sumOfBills_1 rfl (by decide) rfl ?_
  refine xv_iconst (v := 0) (pc := 2) hC dX6_sumOfBills_2 (by decide) ?_
  refine xv_istore_n (pc := 3) (lv' := [(3, .int 0), (1, .long 0), (0, .ref (a t0))]) hC dX6_sumOfBills_3 rfl (by decide) rfl ?_
  refine xv_sub (lv' := [(0, .ref (a t0)), (1, .long 0), (3, .int 0)]) [2, 1, 0] rfl ?_
  exact v4 3000 0 0 Z hX
def sX6_rankOf_B42 (t0 : Nat) (x1 : Int32) (k14 : Int32 → Int32 → ZZ → Option (Int32 × ZZ)) (y2 : Int32) (y3 : Int32) (u0 : Int32) (Z : ZZ) : Option (Int32 × ZZ) :=
  gd (vin y3 10 = true) <|
  gd (vin x1 10 = true) <|
  if (gI Z (t0 + 8) x1.toNatClampNeg) < (gI Z (t0 + 8) y3.toNatClampNeg) then (
    nm (y2 + 1) <| fun y_4 =>
    nm (y3 + 1) <| fun y_5 =>
    k14 y_4 y_5 Z) else (
    if u0 = 0 then (
      nm (y3 + 1) <| fun y_7 =>
      k14 y2 y_7 Z) else (
      if x1 ≤ y3 then (
        nm (y3 + 1) <| fun y_9 =>
        k14 y2 y_9 Z) else (
        nm (y2 + 1) <| fun y_10 =>
        nm (y3 + 1) <| fun y_11 =>
        k14 y_10 y_11 Z)))
def sX6_rankOf_L14 (t0 : Nat) (x1 : Int32) : Nat → Int32 → Int32 → ZZ → Option (Int32 × ZZ)
  | 0, _, _, _ => none
  | n + 1, y2, y3, Z =>
  if (gI Z t0 1) ≤ y3 then (
    some (y2, Z)) else (
    gd (vin y3 10 = true) <|
    gd (vin x1 10 = true) <|
    if (gI Z (t0 + 8) y3.toNatClampNeg) = (gI Z (t0 + 8) x1.toNatClampNeg) then (
      sX6_rankOf_B42 t0 x1 (fun y2 y3 Z => sX6_rankOf_L14 t0 x1 n y2 y3 Z) y2 y3 1 Z) else (
      sX6_rankOf_B42 t0 x1 (fun y2 y3 Z => sX6_rankOf_L14 t0 x1 n y2 y3 Z) y2 y3 0 Z))
def sX6_rankOf (t0 : Nat) (x1 : Int32) (Z : ZZ) : Option (Int32 × ZZ) :=
  gd (shC t0 = 13) <|
  bnd (sX6_hasSubscriber t0 x1 Z) <| fun q_16 =>
  if q_16.1 = 0 then (
    some ((-1), q_16.2)) else (
    sX6_rankOf_L14 t0 x1 3000 0 0 q_16.2)
abbrev rmX6_rankOf : Room := { frames := 1, cells := 0, slots := 0, locals := 21 }
set_option maxHeartbeats 4000000 in
set_option maxRecDepth 100000 in
theorem kX6_rankOf {l : Launch} {D : va_G} {dA : Nat → ClassId} {sa : String → Nat → Nat} {a : Nat → Nat} (hl : l.stackTraces = false) {t0 : Nat} {x1 : Int32} {Z Z' : ZZ} {v : Int32} (hX : sX6_rankOf t0 x1 Z = some (v, Z')) : CTi l D dA sa yX6_rankOf (wz yX6_rankOf cX6_rankOf 5 (some .int)) rmX6_rankOf [.ref (a t0), .int x1] (cwC dA a Z) v (cwC dA a Z') := by
  refine xm_i hl (by decide +kernel) (Nat.le_of_ble_eq_true rfl) rfl ?_
  intro p e s m args below meth c A Q hC hR
  unfold sX6_rankOf at hX
  obtain ⟨g0, hX⟩ := gd_some hX
  have v42 : ∀ (k14 : Int32 → Int32 → ZZ → Option (Int32 × ZZ)) (hk14 : ∀ (y2 : Int32) (y3 : Int32) (Z : ZZ), k14 y2 y3 Z = some (v, Z') → xv p l e rmX6_rankOf s m args below meth c D A 5 Q (cwC dA a Z) 0 0 14 [(0, .ref (a t0)), (1, .int x1), (2, .int y2), (3, .int y3)] []) (y2 : Int32) (y3 : Int32) (u0 : Int32) (Z : ZZ), sX6_rankOf_B42 t0 x1 k14 y2 y3 u0 Z = some (v, Z') → xv p l e rmX6_rankOf s m args below meth c D A 5 Q (cwC dA a Z) 0 0 42 [(0, .ref (a t0)), (1, .int x1), (2, .int y2), (3, .int y3)] [.int u0] := by
    intro k14 hk14 y2 y3 u0 Z hX
    unfold sX6_rankOf_B42 at hX
    refine xv_istore (pc := 42) (lv' := [(4, .int u0), (0, .ref (a t0)), (1, .int x1), (2, .int y2), (3, .int y3)]) hC dX6_rankOf_42 (by decide) rfl ?_
    refine xv_aload_n (pc := 44) hC dX6_rankOf_44 1 rfl rfl ?_
    refine xgX6 (v := .ref (a (t0 + 8))) (pc := 45) hC dX6_rankOf_45 g0 4 (by decide) wf_133 rfl ?_
    refine xv_iload_n (pc := 48) hC dX6_rankOf_48 4 rfl rfl ?_
    obtain ⟨h_1, hX⟩ := gd_some hX
    refine xl_C15 (pc := 49) hC dX6_rankOf_49 (sh_X6_bills g0) h_1 ?_
    refine xv_aload_n (pc := 50) hC dX6_rankOf_50 1 rfl rfl ?_
    refine xgX6 (v := .ref (a (t0 + 8))) (pc := 51) hC dX6_rankOf_51 g0 4 (by decide) wf_133 rfl ?_
    refine xv_iload_n (pc := 54) hC dX6_rankOf_54 2 rfl rfl ?_
    obtain ⟨h_2, hX⟩ := gd_some hX
    refine xl_C15 (pc := 55) hC dX6_rankOf_55 (sh_X6_bills g0) h_2 ?_
    refine xv_icmp_gt (tgt := 69) (pc := 56) hC dX6_rankOf_56 (by decide) (fun c_3 => ?_) (fun c_3 => ?_)
    · replace hX := if_t c_3 hX
      obtain ⟨y_4, hy_4, hX⟩ := nm_some hX
      refine xv_iinc (pc := 69) (v := y_4) (lv' := [(2, .int y_4), (4, .int u0), (0, .ref (a t0)), (1, .int x1), (3, .int y3)]) hC dX6_rankOf_69 3 rfl (by rw [hy_4]; rfl) (by decide) rfl ?_
      obtain ⟨y_5, hy_5, hX⟩ := nm_some hX
      refine xv_iinc (pc := 72) (v := y_5) (lv' := [(3, .int y_5), (2, .int y_4), (4, .int u0), (0, .ref (a t0)), (1, .int x1)]) hC dX6_rankOf_72 4 rfl (by rw [hy_5]; rfl) (by decide) rfl ?_
      refine xv_goto (tgt := 14) (pc := 75) hC dX6_rankOf_75 (by decide) ?_
      refine xv_sub (lv' := [(0, .ref (a t0)), (1, .int x1), (2, .int y_4), (3, .int y_5)]) [3, 4, 1, 0] rfl ?_
      exact hk14 y_4 y_5 Z hX
    · replace hX := if_f c_3 hX
      refine xv_iload (pc := 59) hC dX6_rankOf_59 0 rfl ?_
      refine xv_if_eq (tgt := 72) (pc := 61) hC dX6_rankOf_61 (by decide) (fun c_6 => ?_) (fun c_6 => ?_)
      · replace hX := if_t c_6 hX
        obtain ⟨y_7, hy_7, hX⟩ := nm_some hX
        refine xv_iinc (pc := 72) (v := y_7) (lv' := [(3, .int y_7), (4, .int u0), (0, .ref (a t0)), (1, .int x1), (2, .int y2)]) hC dX6_rankOf_72 4 rfl (by rw [hy_7]; rfl) (by decide) rfl ?_
        refine xv_goto (tgt := 14) (pc := 75) hC dX6_rankOf_75 (by decide) ?_
        refine xv_sub (lv' := [(0, .ref (a t0)), (1, .int x1), (2, .int y2), (3, .int y_7)]) [2, 3, 4, 0] rfl ?_
        exact hk14 y2 y_7 Z hX
      · replace hX := if_f c_6 hX
        refine xv_iload_n (pc := 64) hC dX6_rankOf_64 4 rfl rfl ?_
        refine xv_iload_n (pc := 65) hC dX6_rankOf_65 2 rfl rfl ?_
        refine xv_icmp_ge (tgt := 72) (pc := 66) hC dX6_rankOf_66 (by decide) (fun c_8 => ?_) (fun c_8 => ?_)
        · replace hX := if_t c_8 hX
          obtain ⟨y_9, hy_9, hX⟩ := nm_some hX
          refine xv_iinc (pc := 72) (v := y_9) (lv' := [(3, .int y_9), (4, .int u0), (0, .ref (a t0)), (1, .int x1), (2, .int y2)]) hC dX6_rankOf_72 4 rfl (by rw [hy_9]; rfl) (by decide) rfl ?_
          refine xv_goto (tgt := 14) (pc := 75) hC dX6_rankOf_75 (by decide) ?_
          refine xv_sub (lv' := [(0, .ref (a t0)), (1, .int x1), (2, .int y2), (3, .int y_9)]) [2, 3, 4, 0] rfl ?_
          exact hk14 y2 y_9 Z hX
        · replace hX := if_f c_8 hX
          obtain ⟨y_10, hy_10, hX⟩ := nm_some hX
          refine xv_iinc (pc := 69) (v := y_10) (lv' := [(2, .int y_10), (4, .int u0), (0, .ref (a t0)), (1, .int x1), (3, .int y3)]) hC dX6_rankOf_69 3 rfl (by rw [hy_10]; rfl) (by decide) rfl ?_
          obtain ⟨y_11, hy_11, hX⟩ := nm_some hX
          refine xv_iinc (pc := 72) (v := y_11) (lv' := [(3, .int y_11), (2, .int y_10), (4, .int u0), (0, .ref (a t0)), (1, .int x1)]) hC dX6_rankOf_72 4 rfl (by rw [hy_11]; rfl) (by decide) rfl ?_
          refine xv_goto (tgt := 14) (pc := 75) hC dX6_rankOf_75 (by decide) ?_
          refine xv_sub (lv' := [(0, .ref (a t0)), (1, .int x1), (2, .int y_10), (3, .int y_11)]) [3, 4, 1, 0] rfl ?_
          exact hk14 y_10 y_11 Z hX
  have v14 : ∀ (n : Nat) (y2 : Int32) (y3 : Int32) (Z : ZZ), sX6_rankOf_L14 t0 x1 n y2 y3 Z = some (v, Z') → xv p l e rmX6_rankOf s m args below meth c D A 5 Q (cwC dA a Z) 0 0 14 [(0, .ref (a t0)), (1, .int x1), (2, .int y2), (3, .int y3)] [] := by
    intro n
    induction n with
    | zero =>
      intro y2 y3 Z hX
      exact absurd hX (by simp [sX6_rankOf_L14])
    | succ n ih =>
      intro y2 y3 Z hX
      rw [sX6_rankOf_L14] at hX
      refine xv_iload_n (pc := 14) hC dX6_rankOf_14 3 rfl rfl ?_
      refine xv_aload_n (pc := 15) hC dX6_rankOf_15 0 rfl rfl ?_
      refine xgX6 (v := .int (gI Z t0 1)) (pc := 16) hC dX6_rankOf_16 g0 1 (by decide) wf_128 rfl ?_
      refine xv_icmp_ge (tgt := 78) (pc := 19) hC dX6_rankOf_19 (by decide) (fun c_12 => ?_) (fun c_12 => ?_)
      · replace hX := if_t c_12 hX
        refine xv_iload_n (pc := 78) hC dX6_rankOf_78 2 rfl rfl ?_
        obtain ⟨h1, h2⟩ := some_pair hX
        exact xv_eqi (W := cwC dA a) h1 h2 (hR _ _ _ _ (Nat.le_of_ble_eq_true rfl) (Nat.le_of_ble_eq_true rfl) dX6_rankOf_79)
      · replace hX := if_f c_12 hX
        refine xv_aload_n (pc := 22) hC dX6_rankOf_22 0 rfl rfl ?_
        refine xgX6 (v := .ref (a (t0 + 8))) (pc := 23) hC dX6_rankOf_23 g0 4 (by decide) wf_133 rfl ?_
        refine xv_iload_n (pc := 26) hC dX6_rankOf_26 3 rfl rfl ?_
        obtain ⟨h_13, hX⟩ := gd_some hX
        refine xl_C15 (pc := 27) hC dX6_rankOf_27 (sh_X6_bills g0) h_13 ?_
        refine xv_aload_n (pc := 28) hC dX6_rankOf_28 0 rfl rfl ?_
        refine xgX6 (v := .ref (a (t0 + 8))) (pc := 29) hC dX6_rankOf_29 g0 4 (by decide) wf_133 rfl ?_
        refine xv_iload_n (pc := 32) hC dX6_rankOf_32 1 rfl rfl ?_
        obtain ⟨h_14, hX⟩ := gd_some hX
        refine xl_C15 (pc := 33) hC dX6_rankOf_33 (sh_X6_bills g0) h_14 ?_
        refine xv_icmp_ne (tgt := 41) (pc := 34) hC dX6_rankOf_34 (by decide) (fun c_15 => ?_) (fun c_15 => ?_)
        · replace hX := if_f c_15 hX
          refine xv_iconst (v := 0) (pc := 41) hC dX6_rankOf_41 (by decide) ?_
          exact v42 _ ih y2 y3 0 Z hX
        · replace hX := if_t c_15 hX
          refine xv_iconst (v := 1) (pc := 37) hC dX6_rankOf_37 (by decide) ?_
          refine xv_goto (tgt := 42) (pc := 38) hC dX6_rankOf_38 (by decide) ?_
          exact v42 _ ih y2 y3 1 Z hX
  show xv p l e rmX6_rankOf s m args below meth c D A 5 Q (cwC dA a Z) 0 0 0 [(0, .ref (a t0)), (1, .int x1)] []
  refine xv_aload_n (pc := 0) hC dX6_rankOf_0 0 rfl rfl ?_
  refine xv_iload_n (pc := 1) hC dX6_rankOf_1 1 rfl rfl ?_
  obtain ⟨q_16, hq_16, hX⟩ := bnd_some hX
  refine xv_callVi0 (As := [.int x1]) (pc := 2) hC (kX6_hasSubscriber hl hq_16) fV_X6_hasSubscriber wf_935 (rc_X6 g0) rfl ⟨Nat.le_of_ble_eq_true rfl, Nat.le_of_ble_eq_true rfl⟩ rfl (Nat.le_of_ble_eq_true rfl) dX6_rankOf_2 ⟨Nat.le_of_ble_eq_true rfl, Nat.le_of_ble_eq_true rfl⟩ ?_
  refine xv_if_ne (tgt := 10) (pc := 5) hC dX6_rankOf_5 (by decide) (fun c_17 => ?_) (fun c_17 => ?_)
  · replace hX := if_f c_17 hX
    refine xv_iconst (v := 0) (pc := 10) hC dX6_rankOf_10 (by decide) ?_
    refine xv_istore_n (pc := 11) (lv' := [(2, .int 0), (0, .ref (a t0)), (1, .int x1)]) hC dX6_rankOf_11 rfl (by decide) rfl ?_
    refine xv_iconst (v := 0) (pc := 12) hC dX6_rankOf_12 (by decide) ?_
    refine xv_istore_n (pc := 13) (lv' := [(3, .int 0), (2, .int 0), (0, .ref (a t0)), (1, .int x1)]) hC dX6_rankOf_13 rfl (by decide) rfl ?_
    refine xv_sub (lv' := [(0, .ref (a t0)), (1, .int x1), (2, .int 0), (3, .int 0)]) [2, 3, 1, 0] rfl ?_
    exact v14 3000 0 0 q_16.2 hX
  · replace hX := if_t c_17 hX
    refine xv_iconst (v := (-1)) (pc := 8) hC dX6_rankOf_8 (by decide) ?_
    obtain ⟨h1, h2⟩ := some_pair hX
    exact xv_eqi (W := cwC dA a) h1 h2 (hR _ _ _ _ (Nat.le_of_ble_eq_true rfl) (Nat.le_of_ble_eq_true rfl) dX6_rankOf_9)
def sX6_sharesNoTrunk_L10 (t0 : Nat) : Nat → Int32 → Int32 → ZZ → Option (Int32 × ZZ)
  | 0, _, _, _ => none
  | n + 1, y1, y2, Z =>
  if (gI Z t0 5) ≤ y2 then (
    some (1, Z)) else (
    gd (vin y2 5 = true) <|
    bnd (sX1_trunkBits (elC (t0 + 9) y2) Z) <| fun q_3 =>
    nm (q_3.1) <| fun y_4 =>
    if (y1 &&& y_4) = 0 then (
      nm (y1 ||| y_4) <| fun y_6 =>
      nm (y2 + 1) <| fun y_7 =>
      sX6_sharesNoTrunk_L10 t0 n y_6 y_7 q_3.2) else (
      some (0, q_3.2)))
def sX6_sharesNoTrunk (t0 : Nat) (Z : ZZ) : Option (Int32 × ZZ) :=
  gd (shC t0 = 13) <|
  nm (gI Z (t0 + 1) 6) <| fun y_8 =>
  sX6_sharesNoTrunk_L10 t0 3000 y_8 0 Z
abbrev rmX6_sharesNoTrunk : Room := { frames := 1, cells := 0, slots := 0, locals := 22 }
set_option maxHeartbeats 4000000 in
set_option maxRecDepth 100000 in
theorem kX6_sharesNoTrunk {l : Launch} {D : va_G} {dA : Nat → ClassId} {sa : String → Nat → Nat} {a : Nat → Nat} (hl : l.stackTraces = false) {t0 : Nat} {Z Z' : ZZ} {v : Int32} (hX : sX6_sharesNoTrunk t0 Z = some (v, Z')) : CTi l D dA sa yX6_sharesNoTrunk (wz yX6_sharesNoTrunk cX6_sharesNoTrunk 4 (some .boolean)) rmX6_sharesNoTrunk [.ref (a t0)] (cwC dA a Z) v (cwC dA a Z') := by
  refine xm_z hl (by decide +kernel) (Nat.le_of_ble_eq_true rfl) rfl ?_
  intro p e s m args below meth c A Q hC hR
  unfold sX6_sharesNoTrunk at hX
  obtain ⟨g0, hX⟩ := gd_some hX
  have v10 : ∀ (n : Nat) (y1 : Int32) (y2 : Int32) (Z : ZZ), sX6_sharesNoTrunk_L10 t0 n y1 y2 Z = some (v, Z') → xv p l e rmX6_sharesNoTrunk s m args below meth c D A 4 Q (cwC dA a Z) 0 0 10 [(0, .ref (a t0)), (1, .int y1), (2, .int y2)] [] := by
    intro n
    induction n with
    | zero =>
      intro y1 y2 Z hX
      exact absurd hX (by simp [sX6_sharesNoTrunk_L10])
    | succ n ih =>
      intro y1 y2 Z hX
      rw [sX6_sharesNoTrunk_L10] at hX
      refine xv_iload_n (pc := 10) hC dX6_sharesNoTrunk_10 2 rfl rfl ?_
      refine xv_aload_n (pc := 11) hC dX6_sharesNoTrunk_11 0 rfl rfl ?_
      refine xgX6 (v := .int (gI Z t0 5)) (pc := 12) hC dX6_sharesNoTrunk_12 g0 5 (by decide) wf_135 rfl ?_
      refine xv_icmp_ge (tgt := 46) (pc := 15) hC dX6_sharesNoTrunk_15 (by decide) (fun c_1 => ?_) (fun c_1 => ?_)
      · replace hX := if_t c_1 hX
        refine xv_iconst (v := 1) (pc := 46) hC dX6_sharesNoTrunk_46 (by decide) ?_
        obtain ⟨h1, h2⟩ := some_pair hX
        exact xv_eqi (W := cwC dA a) h1 h2 (hR _ _ _ _ (by rw [← h1]; exact (by decide)) (Nat.le_of_ble_eq_true rfl) (Nat.le_of_ble_eq_true rfl) dX6_sharesNoTrunk_47)
      · replace hX := if_f c_1 hX
        refine xv_aload_n (pc := 18) hC dX6_sharesNoTrunk_18 0 rfl rfl ?_
        refine xgX6 (v := .ref (a (t0 + 9))) (pc := 19) hC dX6_sharesNoTrunk_19 g0 6 (by decide) wf_137 rfl ?_
        refine xv_iload_n (pc := 22) hC dX6_sharesNoTrunk_22 2 rfl rfl ?_
        obtain ⟨h_2, hX⟩ := gd_some hX
        refine xa_16 (pc := 23) hC dX6_sharesNoTrunk_23 (sh_X6_calls g0) h_2 ?_
        obtain ⟨q_3, hq_3, hX⟩ := bnd_some hX
        refine xv_callVi0 (As := []) (pc := 24) hC (kX1_trunkBits hl hq_3) fV_X1_trunkBits wf_395 (rc_X1 (sh_elC (sh_X6_calls g0) h_2)) rfl ⟨Nat.le_of_ble_eq_true rfl, Nat.le_of_ble_eq_true rfl⟩ rfl (Nat.le_of_ble_eq_true rfl) dX6_sharesNoTrunk_24 ⟨Nat.le_of_ble_eq_true rfl, Nat.le_of_ble_eq_true rfl⟩ ?_
        obtain ⟨y_4, hy_4, hX⟩ := nm_some hX
        refine xv_nmi hy_4 ?_
        refine xv_istore_n (pc := 27) (lv' := [(3, .int y_4), (0, .ref (a t0)), (1, .int y1), (2, .int y2)]) hC dX6_sharesNoTrunk_27 rfl (by decide) rfl ?_
        refine xv_iload_n (pc := 28) hC dX6_sharesNoTrunk_28 2 rfl rfl ?_
        refine xv_iload_n (pc := 29) hC dX6_sharesNoTrunk_29 0 rfl rfl ?_
        refine xv_iand (pc := 30) hC dX6_sharesNoTrunk_30 ?_
        refine xv_if_eq (tgt := 36) (pc := 31) hC dX6_sharesNoTrunk_31 (by decide) (fun c_5 => ?_) (fun c_5 => ?_)
        · replace hX := if_t c_5 hX
          refine xv_iload_n (pc := 36) hC dX6_sharesNoTrunk_36 2 rfl rfl ?_
          refine xv_iload_n (pc := 37) hC dX6_sharesNoTrunk_37 0 rfl rfl ?_
          refine xv_ior (pc := 38) hC dX6_sharesNoTrunk_38 ?_
          obtain ⟨y_6, hy_6, hX⟩ := nm_some hX
          refine xv_nmi hy_6 ?_
          refine xv_istore_n (pc := 39) (lv' := [(1, .int y_6), (3, .int y_4), (0, .ref (a t0)), (2, .int y2)]) hC dX6_sharesNoTrunk_39 rfl (by decide) rfl ?_
          obtain ⟨y_7, hy_7, hX⟩ := nm_some hX
          refine xv_iinc (pc := 40) (v := y_7) (lv' := [(2, .int y_7), (1, .int y_6), (3, .int y_4), (0, .ref (a t0))]) hC dX6_sharesNoTrunk_40 3 rfl (by rw [hy_7]; rfl) (by decide) rfl ?_
          refine xv_goto (tgt := 10) (pc := 43) hC dX6_sharesNoTrunk_43 (by decide) ?_
          refine xv_sub (lv' := [(0, .ref (a t0)), (1, .int y_6), (2, .int y_7)]) [3, 1, 0] rfl ?_
          exact ih y_6 y_7 q_3.2 hX
        · replace hX := if_f c_5 hX
          refine xv_iconst (v := 0) (pc := 34) hC dX6_sharesNoTrunk_34 (by decide) ?_
          obtain ⟨h1, h2⟩ := some_pair hX
          exact xv_eqi (W := cwC dA a) h1 h2 (hR _ _ _ _ (by rw [← h1]; exact (by decide)) (Nat.le_of_ble_eq_true rfl) (Nat.le_of_ble_eq_true rfl) dX6_sharesNoTrunk_35)
  show xv p l e rmX6_sharesNoTrunk s m args below meth c D A 4 Q (cwC dA a Z) 0 0 0 [(0, .ref (a t0))] []
  refine xv_aload_n (pc := 0) hC dX6_sharesNoTrunk_0 0 rfl rfl ?_
  refine xgX6 (v := .ref (a (t0 + 1))) (pc := 1) hC dX6_sharesNoTrunk_1 g0 0 (by decide) wf_126 rfl ?_
  refine xgX3 (v := .int (gI Z (t0 + 1) 6)) (pc := 4) hC dX6_sharesNoTrunk_4 (sh_X6_network g0) 6 (by decide) wf_71 rfl ?_
  obtain ⟨y_8, hy_8, hX⟩ := nm_some hX
  refine xv_nmi hy_8 ?_
  refine xv_istore_n (pc := 7) (lv' := [(1, .int y_8), (0, .ref (a t0))]) hC dX6_sharesNoTrunk_7 rfl (by decide) rfl ?_
  refine xv_iconst (v := 0) (pc := 8) hC dX6_sharesNoTrunk_8 (by decide) ?_
  refine xv_istore_n (pc := 9) (lv' := [(2, .int 0), (1, .int y_8), (0, .ref (a t0))]) hC dX6_sharesNoTrunk_9 rfl (by decide) rfl ?_
  refine xv_sub (lv' := [(0, .ref (a t0)), (1, .int y_8), (2, .int 0)]) [2, 1, 0] rfl ?_
  exact v10 3000 y_8 0 Z hX
def sX7_copyRow_15_15 (t0 : Nat) (t1 : Nat) (Z : ZZ) : Option (ZZ) :=
  gd (shC t0 = 15) <|
  gd (shC t1 = 15) <|
  gd (cpo 0 0 (imin 10 10) 10 10 = true) <|
  nm (pC Z t0 0 t1 0 (imin 10 10)) <| fun Z_2 =>
  some Z_2
abbrev rmX7_copyRow_15_15 : Room := { frames := 1, cells := 0, slots := 0, locals := 60 }
set_option maxHeartbeats 4000000 in
set_option maxRecDepth 100000 in
theorem kX7_copyRow_15_15 {l : Launch} {D : va_G} {dA : Nat → ClassId} {sa : String → Nat → Nat} {a : Nat → Nat} (hl : l.stackTraces = false) {t0 : Nat} {t1 : Nat} {Z Z' : ZZ} (hX : sX7_copyRow_15_15 t0 t1 Z = some Z') : CTv l D dA sa yX7_copyRow (wz yX7_copyRow cX7_copyRow 2 none) rmX7_copyRow_15_15 [.ref (a t0), .ref (a t1)] (cwC dA a Z) (cwC dA a Z') := by
  refine xm_v hl (by decide +kernel) (Nat.le_of_ble_eq_true rfl) rfl ?_
  intro p e s m args below meth c A Q hC hR
  unfold sX7_copyRow_15_15 at hX
  obtain ⟨g0, hX⟩ := gd_some hX
  obtain ⟨g1, hX⟩ := gd_some hX
  show xv p l e rmX7_copyRow_15_15 s m args below meth c D A 2 Q (cwC dA a Z) 0 0 0 [(0, .ref (a t0)), (1, .ref (a t1))] []
  refine xv_aload_n (pc := 0) hC dX7_copyRow_0 0 rfl rfl ?_
  refine xv_iconst (v := 0) (pc := 1) hC dX7_copyRow_1 (by decide) ?_
  refine xv_aload_n (pc := 2) hC dX7_copyRow_2 1 rfl rfl ?_
  refine xv_iconst (v := 0) (pc := 3) hC dX7_copyRow_3 (by decide) ?_
  refine xv_aload_n (pc := 4) hC dX7_copyRow_4 0 rfl rfl ?_
  refine xn_C15 (v := 10) (pc := 5) hC dX7_copyRow_5 g0 (by decide) ?_
  refine xv_aload_n (pc := 6) hC dX7_copyRow_6 1 rfl rfl ?_
  refine xn_C15 (v := 10) (pc := 7) hC dX7_copyRow_7 g1 (by decide) ?_
  refine xv_immin (pc := 8) hC dX7_copyRow_8 wf_869 fm_min (Nat.le_of_ble_eq_true rfl) (Nat.le_of_ble_eq_true rfl) (Nat.le_of_ble_eq_true rfl) (Nat.le_of_ble_eq_true rfl) ?_
  obtain ⟨h_1, hX⟩ := gd_some hX
  obtain ⟨Z_2, hZ_2, hX⟩ := nm_some hX
  refine xy_C15 (pc := 11) hC dX7_copyRow_11 g0 g1 wf_870 fm_arraycopy h_1 (Nat.le_of_ble_eq_true rfl) (Nat.le_of_ble_eq_true rfl) hZ_2 ?_
  exact xv_eqw (W := cwC dA a) (Option.some.inj hX) (hR _ _ _ _ (Nat.le_of_ble_eq_true rfl) (Nat.le_of_ble_eq_true rfl) dX7_copyRow_14)
def sX6_copyFrom_B88 (t0 : Nat) (t1 : Nat) (Z : ZZ) : Option (ZZ) :=
  nm (pL Z t0 (gL Z t1)) <| fun Z_1 =>
  nm (pI Z_1 t0 8 (gI Z_1 t1 8)) <| fun Z_2 =>
  some Z_2
def sX6_copyFrom_L62 (t0 : Nat) (t1 : Nat) : Nat → Int32 → ZZ → Option (ZZ)
  | 0, _, _ => none
  | n + 1, y2, Z =>
  if (5 : Int32) ≤ y2 then (
    sX6_copyFrom_B88 t0 t1 Z) else (
    gd (vin y2 5 = true) <|
    gd (vin y2 5 = true) <|
    bnd (sX1_copyFrom (elC (t0 + 9) y2) (elC (t1 + 9) y2) Z) <| fun q_6 =>
    nm (y2 + 1) <| fun y_7 =>
    sX6_copyFrom_L62 t0 t1 n y_7 q_6)
def sX6_copyFrom (t0 : Nat) (t1 : Nat) (Z : ZZ) : Option (ZZ) :=
  gd (shC t0 = 13) <|
  gd (shC t1 = 13) <|
  bnd (sX3_copyFrom (t0 + 1) (t1 + 1) Z) <| fun q_8 =>
  nm (pI q_8 t0 1 (gI q_8 t1 1)) <| fun Z_9 =>
  bnd (sX7_copyRow_15_15 (t1 + 6) (t0 + 6) Z_9) <| fun q_10 =>
  bnd (sX7_copyRow_15_15 (t1 + 7) (t0 + 7) q_10) <| fun q_11 =>
  bnd (sX7_copyRow_15_15 (t1 + 8) (t0 + 8) q_11) <| fun q_12 =>
  nm (pI q_12 t0 5 (gI q_12 t1 5)) <| fun Z_13 =>
  sX6_copyFrom_L62 t0 t1 3000 0 Z_13
abbrev rmX6_copyFrom : Room := { frames := 3, cells := 0, slots := 0, locals := 102 }
set_option maxHeartbeats 4000000 in
set_option maxRecDepth 100000 in
theorem kX6_copyFrom {l : Launch} {D : va_G} {dA : Nat → ClassId} {sa : String → Nat → Nat} {a : Nat → Nat} (hl : l.stackTraces = false) {t0 : Nat} {t1 : Nat} {Z Z' : ZZ} (hX : sX6_copyFrom t0 t1 Z = some Z') : CTv l D dA sa yX6_copyFrom (wz yX6_copyFrom cX6_copyFrom 3 none) rmX6_copyFrom [.ref (a t0), .ref (a t1)] (cwC dA a Z) (cwC dA a Z') := by
  refine xm_v hl (by decide +kernel) (Nat.le_of_ble_eq_true rfl) rfl ?_
  intro p e s m args below meth c A Q hC hR
  unfold sX6_copyFrom at hX
  obtain ⟨g0, hX⟩ := gd_some hX
  obtain ⟨g1, hX⟩ := gd_some hX
  have v88 : ∀ (Z : ZZ), sX6_copyFrom_B88 t0 t1 Z = some Z' → xv p l e rmX6_copyFrom s m args below meth c D A 3 Q (cwC dA a Z) 0 0 88 [(0, .ref (a t0)), (1, .ref (a t1))] [] := by
    intro Z hX
    unfold sX6_copyFrom_B88 at hX
    refine xv_aload_n (pc := 88) hC dX6_copyFrom_88 0 rfl rfl ?_
    refine xv_aload_n (pc := 89) hC dX6_copyFrom_89 1 rfl rfl ?_
    refine xgX6 (v := .long (gL Z t1)) (pc := 90) hC dX6_copyFrom_90 g1 7 (by decide) wf_139 rfl ?_
    obtain ⟨Z_1, hZ_1, hX⟩ := nm_some hX
    refine xplX6 (pc := 93) hC dX6_copyFrom_93 g0 7 (by decide) wf_139 rfl (by decide +kernel) rfl hZ_1 ?_
    refine xv_aload_n (pc := 96) hC dX6_copyFrom_96 0 rfl rfl ?_
    refine xv_aload_n (pc := 97) hC dX6_copyFrom_97 1 rfl rfl ?_
    refine xgX6 (v := .int (gI Z_1 t1 8)) (pc := 98) hC dX6_copyFrom_98 g1 8 (by decide) wf_141 rfl ?_
    obtain ⟨Z_2, hZ_2, hX⟩ := nm_some hX
    refine xpX6 (ty := .int) (pc := 101) hC dX6_copyFrom_101 g0 8 (by decide) wf_141 rfl (by decide +kernel) rfl rfl rfl hZ_2 ?_
    exact xv_eqw (W := cwC dA a) (Option.some.inj hX) (hR _ _ _ _ (Nat.le_of_ble_eq_true rfl) (Nat.le_of_ble_eq_true rfl) dX6_copyFrom_104)
  have v62 : ∀ (n : Nat) (y2 : Int32) (Z : ZZ), sX6_copyFrom_L62 t0 t1 n y2 Z = some Z' → xv p l e rmX6_copyFrom s m args below meth c D A 3 Q (cwC dA a Z) 0 0 62 [(0, .ref (a t0)), (1, .ref (a t1)), (2, .int y2)] [] := by
    intro n
    induction n with
    | zero =>
      intro y2 Z hX
      exact absurd hX (by simp [sX6_copyFrom_L62])
    | succ n ih =>
      intro y2 Z hX
      rw [sX6_copyFrom_L62] at hX
      refine xv_iload_n (pc := 62) hC dX6_copyFrom_62 2 rfl rfl ?_
      refine xv_iconst (v := 5) (pc := 63) hC dX6_copyFrom_63 (by decide) ?_
      refine xv_icmp_ge (tgt := 88) (pc := 64) hC dX6_copyFrom_64 (by decide) (fun c_3 => ?_) (fun c_3 => ?_)
      · replace hX := if_t c_3 hX
        refine xv_sub (lv' := [(0, .ref (a t0)), (1, .ref (a t1))]) [0, 1] rfl ?_
        exact v88 Z hX
      · replace hX := if_f c_3 hX
        refine xv_aload_n (pc := 67) hC dX6_copyFrom_67 0 rfl rfl ?_
        refine xgX6 (v := .ref (a (t0 + 9))) (pc := 68) hC dX6_copyFrom_68 g0 6 (by decide) wf_137 rfl ?_
        refine xv_iload_n (pc := 71) hC dX6_copyFrom_71 2 rfl rfl ?_
        obtain ⟨h_4, hX⟩ := gd_some hX
        refine xa_16 (pc := 72) hC dX6_copyFrom_72 (sh_X6_calls g0) h_4 ?_
        refine xv_aload_n (pc := 73) hC dX6_copyFrom_73 1 rfl rfl ?_
        refine xgX6 (v := .ref (a (t1 + 9))) (pc := 74) hC dX6_copyFrom_74 g1 6 (by decide) wf_137 rfl ?_
        refine xv_iload_n (pc := 77) hC dX6_copyFrom_77 2 rfl rfl ?_
        obtain ⟨h_5, hX⟩ := gd_some hX
        refine xa_16 (pc := 78) hC dX6_copyFrom_78 (sh_X6_calls g1) h_5 ?_
        obtain ⟨q_6, hq_6, hX⟩ := bnd_some hX
        refine xv_callVv0 (As := [.ref (a (elC (t1 + 9) y2))]) (pc := 79) hC (kX1_copyFrom hl hq_6) fV_X1_copyFrom wf_872 (rc_X1 (sh_elC (sh_X6_calls g0) h_4)) rfl ⟨Nat.le_of_ble_eq_true rfl, Nat.le_of_ble_eq_true rfl⟩ rfl (Nat.le_of_ble_eq_true rfl) dX6_copyFrom_79 ⟨Nat.le_of_ble_eq_true rfl, Nat.le_of_ble_eq_true rfl⟩ ?_
        obtain ⟨y_7, hy_7, hX⟩ := nm_some hX
        refine xv_iinc (pc := 82) (v := y_7) (lv' := [(2, .int y_7), (0, .ref (a t0)), (1, .ref (a t1))]) hC dX6_copyFrom_82 2 rfl (by rw [hy_7]; rfl) (by decide) rfl ?_
        refine xv_goto (tgt := 62) (pc := 85) hC dX6_copyFrom_85 (by decide) ?_
        refine xv_sub (lv' := [(0, .ref (a t0)), (1, .ref (a t1)), (2, .int y_7)]) [1, 2, 0] rfl ?_
        exact ih y_7 q_6 hX
  show xv p l e rmX6_copyFrom s m args below meth c D A 3 Q (cwC dA a Z) 0 0 0 [(0, .ref (a t0)), (1, .ref (a t1))] []
  refine xv_aload_n (pc := 0) hC dX6_copyFrom_0 0 rfl rfl ?_
  refine xgX6 (v := .ref (a (t0 + 1))) (pc := 1) hC dX6_copyFrom_1 g0 0 (by decide) wf_126 rfl ?_
  refine xv_aload_n (pc := 4) hC dX6_copyFrom_4 1 rfl rfl ?_
  refine xgX6 (v := .ref (a (t1 + 1))) (pc := 5) hC dX6_copyFrom_5 g1 0 (by decide) wf_126 rfl ?_
  obtain ⟨q_8, hq_8, hX⟩ := bnd_some hX
  refine xv_callVv0 (As := [.ref (a (t1 + 1))]) (pc := 8) hC (kX3_copyFrom hl hq_8) fV_X3_copyFrom wf_862 (rc_X3 (sh_X6_network g0)) rfl ⟨Nat.le_of_ble_eq_true rfl, Nat.le_of_ble_eq_true rfl⟩ rfl (Nat.le_of_ble_eq_true rfl) dX6_copyFrom_8 ⟨Nat.le_of_ble_eq_true rfl, Nat.le_of_ble_eq_true rfl⟩ ?_
  refine xv_aload_n (pc := 11) hC dX6_copyFrom_11 0 rfl rfl ?_
  refine xv_aload_n (pc := 12) hC dX6_copyFrom_12 1 rfl rfl ?_
  refine xgX6 (v := .int (gI q_8 t1 1)) (pc := 13) hC dX6_copyFrom_13 g1 1 (by decide) wf_128 rfl ?_
  obtain ⟨Z_9, hZ_9, hX⟩ := nm_some hX
  refine xpX6 (ty := .int) (pc := 16) hC dX6_copyFrom_16 g0 1 (by decide) wf_128 rfl (by decide +kernel) rfl rfl rfl hZ_9 ?_
  refine xv_aload_n (pc := 19) hC dX6_copyFrom_19 1 rfl rfl ?_
  refine xgX6 (v := .ref (a (t1 + 6))) (pc := 20) hC dX6_copyFrom_20 g1 2 (by decide) wf_130 rfl ?_
  refine xv_aload_n (pc := 23) hC dX6_copyFrom_23 0 rfl rfl ?_
  refine xgX6 (v := .ref (a (t0 + 6))) (pc := 24) hC dX6_copyFrom_24 g0 2 (by decide) wf_130 rfl ?_
  obtain ⟨q_10, hq_10, hX⟩ := bnd_some hX
  refine xv_callNv0 (As := [.ref (a (t1 + 6)), .ref (a (t0 + 6))]) (host := "Switchboard") (pc := 27) hC (kX7_copyRow_15_15 hl hq_10) fS_X7_copyRow (by decide +kernel) rfl ⟨Nat.le_of_ble_eq_true rfl, Nat.le_of_ble_eq_true rfl⟩ rfl (Nat.le_of_ble_eq_true rfl) dX6_copyFrom_27 ⟨Nat.le_of_ble_eq_true rfl, Nat.le_of_ble_eq_true rfl⟩ ?_
  refine xv_aload_n (pc := 30) hC dX6_copyFrom_30 1 rfl rfl ?_
  refine xgX6 (v := .ref (a (t1 + 7))) (pc := 31) hC dX6_copyFrom_31 g1 3 (by decide) wf_131 rfl ?_
  refine xv_aload_n (pc := 34) hC dX6_copyFrom_34 0 rfl rfl ?_
  refine xgX6 (v := .ref (a (t0 + 7))) (pc := 35) hC dX6_copyFrom_35 g0 3 (by decide) wf_131 rfl ?_
  obtain ⟨q_11, hq_11, hX⟩ := bnd_some hX
  refine xv_callNv0 (As := [.ref (a (t1 + 7)), .ref (a (t0 + 7))]) (host := "Switchboard") (pc := 38) hC (kX7_copyRow_15_15 hl hq_11) fS_X7_copyRow (by decide +kernel) rfl ⟨Nat.le_of_ble_eq_true rfl, Nat.le_of_ble_eq_true rfl⟩ rfl (Nat.le_of_ble_eq_true rfl) dX6_copyFrom_38 ⟨Nat.le_of_ble_eq_true rfl, Nat.le_of_ble_eq_true rfl⟩ ?_
  refine xv_aload_n (pc := 41) hC dX6_copyFrom_41 1 rfl rfl ?_
  refine xgX6 (v := .ref (a (t1 + 8))) (pc := 42) hC dX6_copyFrom_42 g1 4 (by decide) wf_133 rfl ?_
  refine xv_aload_n (pc := 45) hC dX6_copyFrom_45 0 rfl rfl ?_
  refine xgX6 (v := .ref (a (t0 + 8))) (pc := 46) hC dX6_copyFrom_46 g0 4 (by decide) wf_133 rfl ?_
  obtain ⟨q_12, hq_12, hX⟩ := bnd_some hX
  refine xv_callNv0 (As := [.ref (a (t1 + 8)), .ref (a (t0 + 8))]) (host := "Switchboard") (pc := 49) hC (kX7_copyRow_15_15 hl hq_12) fS_X7_copyRow (by decide +kernel) rfl ⟨Nat.le_of_ble_eq_true rfl, Nat.le_of_ble_eq_true rfl⟩ rfl (Nat.le_of_ble_eq_true rfl) dX6_copyFrom_49 ⟨Nat.le_of_ble_eq_true rfl, Nat.le_of_ble_eq_true rfl⟩ ?_
  refine xv_aload_n (pc := 52) hC dX6_copyFrom_52 0 rfl rfl ?_
  refine xv_aload_n (pc := 53) hC dX6_copyFrom_53 1 rfl rfl ?_
  refine xgX6 (v := .int (gI q_12 t1 5)) (pc := 54) hC dX6_copyFrom_54 g1 5 (by decide) wf_135 rfl ?_
  obtain ⟨Z_13, hZ_13, hX⟩ := nm_some hX
  refine xpX6 (ty := .int) (pc := 57) hC dX6_copyFrom_57 g0 5 (by decide) wf_135 rfl (by decide +kernel) rfl rfl rfl hZ_13 ?_
  refine xv_iconst (v := 0) (pc := 60) hC dX6_copyFrom_60 (by decide) ?_
  refine xv_istore_n (pc := 61) (lv' := [(2, .int 0), (0, .ref (a t0)), (1, .ref (a t1))]) hC dX6_copyFrom_61 rfl (by decide) rfl ?_
  refine xv_sub (lv' := [(0, .ref (a t0)), (1, .ref (a t1)), (2, .int 0)]) [1, 2, 0] rfl ?_
  exact v62 3000 0 Z_13 hX
def sX5_distanceOf (x1 : Int32) (Z : ZZ) : Option (Int32 × ZZ) :=
  if x1 < 0 then (
    some (1000000, Z)) else (
    if (8 : Int32) ≤ x1 then (
      some (1000000, Z)) else (
      gd (vin x1 8 = true) <|
      some (gI Z 15 x1.toNatClampNeg, Z)))
abbrev rmX5_distanceOf : Room := { frames := 0, cells := 0, slots := 0, locals := 0 }
set_option maxHeartbeats 4000000 in
set_option maxRecDepth 100000 in
theorem kX5_distanceOf {l : Launch} {D : va_G} {dA : Nat → ClassId} {sa : String → Nat → Nat} {a : Nat → Nat} (hl : l.stackTraces = false) {x1 : Int32} {Z Z' : ZZ} {v : Int32} (hX : sX5_distanceOf x1 Z = some (v, Z')) : CTi l D dA sa yX5_distanceOf (wz yX5_distanceOf cX5_distanceOf 2 (some .int)) rmX5_distanceOf [.ref (a 13), .int x1] (cwC dA a Z) v (cwC dA a Z') := by
  refine xm_i hl (by decide +kernel) (Nat.le_of_ble_eq_true rfl) rfl ?_
  intro p e s m args below meth c A Q hC hR
  unfold sX5_distanceOf at hX
  show xv p l e rmX5_distanceOf s m args below meth c D A 2 Q (cwC dA a Z) 0 0 0 [(0, .ref (a 13)), (1, .int x1)] []
  refine xv_iload_n (pc := 0) hC dX5_distanceOf_0 1 rfl rfl ?_
  refine xv_if_lt (tgt := 19) (pc := 1) hC dX5_distanceOf_1 (by decide) (fun c_1 => ?_) (fun c_1 => ?_)
  · replace hX := if_t c_1 hX
    refine xv_ldci (v := 1000000) (pc := 19) hC dX5_distanceOf_19 wf_411 ?_
    obtain ⟨h1, h2⟩ := some_pair hX
    exact xv_eqi (W := cwC dA a) h1 h2 (hR _ _ _ _ (Nat.le_of_ble_eq_true rfl) (Nat.le_of_ble_eq_true rfl) dX5_distanceOf_21)
  · replace hX := if_f c_1 hX
    refine xv_iload_n (pc := 4) hC dX5_distanceOf_4 1 rfl rfl ?_
    refine xv_bipush (v := 8) (pc := 5) hC dX5_distanceOf_5 (by decide) ?_
    refine xv_icmp_ge (tgt := 19) (pc := 7) hC dX5_distanceOf_7 (by decide) (fun c_2 => ?_) (fun c_2 => ?_)
    · replace hX := if_t c_2 hX
      refine xv_ldci (v := 1000000) (pc := 19) hC dX5_distanceOf_19 wf_411 ?_
      obtain ⟨h1, h2⟩ := some_pair hX
      exact xv_eqi (W := cwC dA a) h1 h2 (hR _ _ _ _ (Nat.le_of_ble_eq_true rfl) (Nat.le_of_ble_eq_true rfl) dX5_distanceOf_21)
    · replace hX := if_f c_2 hX
      refine xv_aload_n (pc := 10) hC dX5_distanceOf_10 0 rfl rfl ?_
      refine xgX5 (v := .ref (a 15)) (pc := 11) hC dX5_distanceOf_11 (rfl : shC 13 = 10) 3 (by decide) wf_258 rfl ?_
      refine xv_iload_n (pc := 14) hC dX5_distanceOf_14 1 rfl rfl ?_
      obtain ⟨h_3, hX⟩ := gd_some hX
      refine xl_C5 (pc := 15) hC dX5_distanceOf_15 (rfl : shC 15 = 5) h_3 ?_
      refine xv_goto (tgt := 21) (pc := 16) hC dX5_distanceOf_16 (by decide) ?_
      obtain ⟨h1, h2⟩ := some_pair hX
      exact xv_eqi (W := cwC dA a) h1 h2 (hR _ _ _ _ (Nat.le_of_ble_eq_true rfl) (Nat.le_of_ble_eq_true rfl) dX5_distanceOf_21)
def sX5_keyOf (x0 : Int32) (Z : ZZ) : Option (Int32 × ZZ) :=
  some ((x0 * 8) + 1, Z)
abbrev rmX5_keyOf : Room := { frames := 0, cells := 0, slots := 0, locals := 0 }
set_option maxHeartbeats 4000000 in
set_option maxRecDepth 100000 in
theorem kX5_keyOf {l : Launch} {D : va_G} {dA : Nat → ClassId} {sa : String → Nat → Nat} {a : Nat → Nat} (hl : l.stackTraces = false) {x0 : Int32} {Z Z' : ZZ} {v : Int32} (hX : sX5_keyOf x0 Z = some (v, Z')) : CTi l D dA sa yX5_keyOf (wz yX5_keyOf cX5_keyOf 1 (some .int)) rmX5_keyOf [.int x0] (cwC dA a Z) v (cwC dA a Z') := by
  refine xm_i hl (by decide +kernel) (Nat.le_of_ble_eq_true rfl) rfl ?_
  intro p e s m args below meth c A Q hC hR
  unfold sX5_keyOf at hX
  show xv p l e rmX5_keyOf s m args below meth c D A 1 Q (cwC dA a Z) 0 0 0 [(0, .int x0)] []
  refine xv_iload_n (pc := 0) hC dX5_keyOf_0 0 rfl rfl ?_
  refine xv_bipush (v := 8) (pc := 1) hC dX5_keyOf_1 (by decide) ?_
  refine xv_imul (pc := 3) hC dX5_keyOf_3 ?_
  refine xv_iconst (v := 1) (pc := 4) hC dX5_keyOf_4 (by decide) ?_
  refine xv_iadd (pc := 5) hC dX5_keyOf_5 ?_
  obtain ⟨h1, h2⟩ := some_pair hX
  exact xv_eqi (W := cwC dA a) h1 h2 (hR _ _ _ _ (Nat.le_of_ble_eq_true rfl) (Nat.le_of_ble_eq_true rfl) dX5_keyOf_6)
def sX5_firstTrunkToGoal_L3 (t1 : Nat) (x2 : Int32) (x3 : Int32) : Nat → Int32 → ZZ → Option (Int32 × ZZ)
  | 0, _, _ => none
  | n + 1, y4, Z =>
  if (gI Z t1 1) ≤ y4 then (
    some ((-1), Z)) else (
    bnd (sX3_acrossFrom t1 y4 x3 Z) <| fun q_2 =>
    nm (q_2.1) <| fun y_3 =>
    if y_3 = (-1) then (
      nm (y4 + 1) <| fun y_5 =>
      sX5_firstTrunkToGoal_L3 t1 x2 x3 n y_5 q_2.2) else (
      bnd (sX7_hasBit x2 y4 q_2.2) <| fun q_6 =>
      if q_6.1 = 0 then (
        nm (y4 + 1) <| fun y_8 =>
        sX5_firstTrunkToGoal_L3 t1 x2 x3 n y_8 q_6.2) else (
        bnd (sX5_distanceOf x3 q_6.2) <| fun q_9 =>
        bnd (sX5_distanceOf y_3 q_9.2) <| fun q_10 =>
        gd (vin y4 16 = true) <|
        bnd (sX5_keyOf (gI q_10.2 (t1 + 3) y4.toNatClampNeg) q_10.2) <| fun q_12 =>
        if q_9.1 = (q_10.1 + q_12.1) then (
          some (y4, q_12.2)) else (
          nm (y4 + 1) <| fun y_14 =>
          sX5_firstTrunkToGoal_L3 t1 x2 x3 n y_14 q_12.2))))
def sX5_firstTrunkToGoal (t1 : Nat) (x2 : Int32) (x3 : Int32) (Z : ZZ) : Option (Int32 × ZZ) :=
  gd (shC t1 = 14) <|
  sX5_firstTrunkToGoal_L3 t1 x2 x3 3000 0 Z
abbrev rmX5_firstTrunkToGoal : Room := { frames := 1, cells := 0, slots := 0, locals := 22 }
set_option maxHeartbeats 4000000 in
set_option maxRecDepth 100000 in
theorem kX5_firstTrunkToGoal {l : Launch} {D : va_G} {dA : Nat → ClassId} {sa : String → Nat → Nat} {a : Nat → Nat} (hl : l.stackTraces = false) {t1 : Nat} {x2 : Int32} {x3 : Int32} {Z Z' : ZZ} {v : Int32} (hX : sX5_firstTrunkToGoal t1 x2 x3 Z = some (v, Z')) : CTi l D dA sa yX5_firstTrunkToGoal (wz yX5_firstTrunkToGoal cX5_firstTrunkToGoal 6 (some .int)) rmX5_firstTrunkToGoal [.ref (a 13), .ref (a t1), .int x2, .int x3] (cwC dA a Z) v (cwC dA a Z') := by
  refine xm_i hl (by decide +kernel) (Nat.le_of_ble_eq_true rfl) rfl ?_
  intro p e s m args below meth c A Q hC hR
  unfold sX5_firstTrunkToGoal at hX
  obtain ⟨g1, hX⟩ := gd_some hX
  have v3 : ∀ (n : Nat) (y4 : Int32) (Z : ZZ), sX5_firstTrunkToGoal_L3 t1 x2 x3 n y4 Z = some (v, Z') → xv p l e rmX5_firstTrunkToGoal s m args below meth c D A 6 Q (cwC dA a Z) 0 0 3 [(0, .ref (a 13)), (1, .ref (a t1)), (2, .int x2), (3, .int x3), (4, .int y4)] [] := by
    intro n
    induction n with
    | zero =>
      intro y4 Z hX
      exact absurd hX (by simp [sX5_firstTrunkToGoal_L3])
    | succ n ih =>
      intro y4 Z hX
      rw [sX5_firstTrunkToGoal_L3] at hX
      refine xv_iload (pc := 3) hC dX5_firstTrunkToGoal_3 4 rfl ?_
      refine xv_aload_n (pc := 5) hC dX5_firstTrunkToGoal_5 1 rfl rfl ?_
      refine xgX3 (v := .int (gI Z t1 1)) (pc := 6) hC dX5_firstTrunkToGoal_6 g1 1 (by decide) wf_56 rfl ?_
      refine xv_icmp_ge (tgt := 70) (pc := 9) hC dX5_firstTrunkToGoal_9 (by decide) (fun c_1 => ?_) (fun c_1 => ?_)
      · replace hX := if_t c_1 hX
        refine xv_iconst (v := (-1)) (pc := 70) hC dX5_firstTrunkToGoal_70 (by decide) ?_
        obtain ⟨h1, h2⟩ := some_pair hX
        exact xv_eqi (W := cwC dA a) h1 h2 (hR _ _ _ _ (Nat.le_of_ble_eq_true rfl) (Nat.le_of_ble_eq_true rfl) dX5_firstTrunkToGoal_71)
      · replace hX := if_f c_1 hX
        refine xv_aload_n (pc := 12) hC dX5_firstTrunkToGoal_12 1 rfl rfl ?_
        refine xv_iload (pc := 13) hC dX5_firstTrunkToGoal_13 4 rfl ?_
        refine xv_iload_n (pc := 15) hC dX5_firstTrunkToGoal_15 3 rfl rfl ?_
        obtain ⟨q_2, hq_2, hX⟩ := bnd_some hX
        refine xv_callVi0 (As := [.int y4, .int x3]) (pc := 16) hC (kX3_acrossFrom hl hq_2) fV_X3_acrossFrom wf_427 (rc_X3 g1) rfl ⟨Nat.le_of_ble_eq_true rfl, Nat.le_of_ble_eq_true rfl⟩ rfl (Nat.le_of_ble_eq_true rfl) dX5_firstTrunkToGoal_16 ⟨Nat.le_of_ble_eq_true rfl, Nat.le_of_ble_eq_true rfl⟩ ?_
        obtain ⟨y_3, hy_3, hX⟩ := nm_some hX
        refine xv_nmi hy_3 ?_
        refine xv_istore (pc := 19) (lv' := [(5, .int y_3), (0, .ref (a 13)), (1, .ref (a t1)), (2, .int x2), (3, .int x3), (4, .int y4)]) hC dX5_firstTrunkToGoal_19 (by decide) rfl ?_
        refine xv_iload (pc := 21) hC dX5_firstTrunkToGoal_21 0 rfl ?_
        refine xv_iconst (v := (-1)) (pc := 23) hC dX5_firstTrunkToGoal_23 (by decide) ?_
        refine xv_icmp_eq (tgt := 64) (pc := 24) hC dX5_firstTrunkToGoal_24 (by decide) (fun c_4 => ?_) (fun c_4 => ?_)
        · replace hX := if_t c_4 hX
          obtain ⟨y_5, hy_5, hX⟩ := nm_some hX
          refine xv_iinc (pc := 64) (v := y_5) (lv' := [(4, .int y_5), (5, .int y_3), (0, .ref (a 13)), (1, .ref (a t1)), (2, .int x2), (3, .int x3)]) hC dX5_firstTrunkToGoal_64 5 rfl (by rw [hy_5]; rfl) (by decide) rfl ?_
          refine xv_goto (tgt := 3) (pc := 67) hC dX5_firstTrunkToGoal_67 (by decide) ?_
          refine xv_sub (lv' := [(0, .ref (a 13)), (1, .ref (a t1)), (2, .int x2), (3, .int x3), (4, .int y_5)]) [2, 3, 4, 5, 0] rfl ?_
          exact ih y_5 q_2.2 hX
        · replace hX := if_f c_4 hX
          refine xv_iload_n (pc := 27) hC dX5_firstTrunkToGoal_27 3 rfl rfl ?_
          refine xv_iload (pc := 28) hC dX5_firstTrunkToGoal_28 5 rfl ?_
          obtain ⟨q_6, hq_6, hX⟩ := bnd_some hX
          refine xv_callNi0 (As := [.int x2, .int y4]) (host := "Switchboard") (pc := 30) hC (kX7_hasBit hl hq_6) fS_X7_hasBit (by decide +kernel) rfl ⟨Nat.le_of_ble_eq_true rfl, Nat.le_of_ble_eq_true rfl⟩ rfl (Nat.le_of_ble_eq_true rfl) dX5_firstTrunkToGoal_30 ⟨Nat.le_of_ble_eq_true rfl, Nat.le_of_ble_eq_true rfl⟩ ?_
          refine xv_if_eq (tgt := 64) (pc := 33) hC dX5_firstTrunkToGoal_33 (by decide) (fun c_7 => ?_) (fun c_7 => ?_)
          · replace hX := if_t c_7 hX
            obtain ⟨y_8, hy_8, hX⟩ := nm_some hX
            refine xv_iinc (pc := 64) (v := y_8) (lv' := [(4, .int y_8), (5, .int y_3), (0, .ref (a 13)), (1, .ref (a t1)), (2, .int x2), (3, .int x3)]) hC dX5_firstTrunkToGoal_64 5 rfl (by rw [hy_8]; rfl) (by decide) rfl ?_
            refine xv_goto (tgt := 3) (pc := 67) hC dX5_firstTrunkToGoal_67 (by decide) ?_
            refine xv_sub (lv' := [(0, .ref (a 13)), (1, .ref (a t1)), (2, .int x2), (3, .int x3), (4, .int y_8)]) [2, 3, 4, 5, 0] rfl ?_
            exact ih y_8 q_6.2 hX
          · replace hX := if_f c_7 hX
            refine xv_aload_n (pc := 36) hC dX5_firstTrunkToGoal_36 1 rfl rfl ?_
            refine xv_iload_n (pc := 37) hC dX5_firstTrunkToGoal_37 4 rfl rfl ?_
            obtain ⟨q_9, hq_9, hX⟩ := bnd_some hX
            refine xv_callVi0 (As := [.int x3]) (pc := 38) hC (kX5_distanceOf hl hq_9) fV_X5_distanceOf wf_431 (rc_X5 (rfl : shC 13 = 10)) rfl ⟨Nat.le_of_ble_eq_true rfl, Nat.le_of_ble_eq_true rfl⟩ rfl (Nat.le_of_ble_eq_true rfl) dX5_firstTrunkToGoal_38 ⟨Nat.le_of_ble_eq_true rfl, Nat.le_of_ble_eq_true rfl⟩ ?_
            refine xv_aload_n (pc := 41) hC dX5_firstTrunkToGoal_41 1 rfl rfl ?_
            refine xv_iload (pc := 42) hC dX5_firstTrunkToGoal_42 0 rfl ?_
            obtain ⟨q_10, hq_10, hX⟩ := bnd_some hX
            refine xv_callVi0 (As := [.int y_3]) (pc := 44) hC (kX5_distanceOf hl hq_10) fV_X5_distanceOf wf_431 (rc_X5 (rfl : shC 13 = 10)) rfl ⟨Nat.le_of_ble_eq_true rfl, Nat.le_of_ble_eq_true rfl⟩ rfl (Nat.le_of_ble_eq_true rfl) dX5_firstTrunkToGoal_44 ⟨Nat.le_of_ble_eq_true rfl, Nat.le_of_ble_eq_true rfl⟩ ?_
            refine xv_aload_n (pc := 47) hC dX5_firstTrunkToGoal_47 2 rfl rfl ?_
            refine xgX3 (v := .ref (a (t1 + 3))) (pc := 48) hC dX5_firstTrunkToGoal_48 g1 4 (by decide) wf_66 rfl ?_
            refine xv_iload (pc := 51) hC dX5_firstTrunkToGoal_51 5 rfl ?_
            obtain ⟨h_11, hX⟩ := gd_some hX
            refine xl_C12 (pc := 53) hC dX5_firstTrunkToGoal_53 (sh_X3_lengths g1) h_11 ?_
            obtain ⟨q_12, hq_12, hX⟩ := bnd_some hX
            refine xv_callSi0 (As := [.int (gI q_10.2 (t1 + 3) y4.toNatClampNeg)]) (pc := 54) hC (kX5_keyOf hl hq_12) fS_X5_keyOf wf_435 rfl ⟨Nat.le_of_ble_eq_true rfl, Nat.le_of_ble_eq_true rfl⟩ rfl (Nat.le_of_ble_eq_true rfl) dX5_firstTrunkToGoal_54 ⟨Nat.le_of_ble_eq_true rfl, Nat.le_of_ble_eq_true rfl⟩ ?_
            refine xv_iadd (pc := 57) hC dX5_firstTrunkToGoal_57 ?_
            refine xv_icmp_ne (tgt := 64) (pc := 58) hC dX5_firstTrunkToGoal_58 (by decide) (fun c_13 => ?_) (fun c_13 => ?_)
            · replace hX := if_f c_13 hX
              obtain ⟨y_14, hy_14, hX⟩ := nm_some hX
              refine xv_iinc (pc := 64) (v := y_14) (lv' := [(4, .int y_14), (5, .int y_3), (0, .ref (a 13)), (1, .ref (a t1)), (2, .int x2), (3, .int x3)]) hC dX5_firstTrunkToGoal_64 5 rfl (by rw [hy_14]; rfl) (by decide) rfl ?_
              refine xv_goto (tgt := 3) (pc := 67) hC dX5_firstTrunkToGoal_67 (by decide) ?_
              refine xv_sub (lv' := [(0, .ref (a 13)), (1, .ref (a t1)), (2, .int x2), (3, .int x3), (4, .int y_14)]) [2, 3, 4, 5, 0] rfl ?_
              exact ih y_14 q_12.2 hX
            · replace hX := if_t c_13 hX
              refine xv_iload (pc := 61) hC dX5_firstTrunkToGoal_61 5 rfl ?_
              obtain ⟨h1, h2⟩ := some_pair hX
              exact xv_eqi (W := cwC dA a) h1 h2 (hR _ _ _ _ (Nat.le_of_ble_eq_true rfl) (Nat.le_of_ble_eq_true rfl) dX5_firstTrunkToGoal_63)
  show xv p l e rmX5_firstTrunkToGoal s m args below meth c D A 6 Q (cwC dA a Z) 0 0 0 [(0, .ref (a 13)), (1, .ref (a t1)), (2, .int x2), (3, .int x3)] []
  refine xv_iconst (v := 0) (pc := 0) hC dX5_firstTrunkToGoal_0 (by decide) ?_
  refine xv_istore (pc := 1) (lv' := [(4, .int 0), (0, .ref (a 13)), (1, .ref (a t1)), (2, .int x2), (3, .int x3)]) hC dX5_firstTrunkToGoal_1 (by decide) rfl ?_
  refine xv_sub (lv' := [(0, .ref (a 13)), (1, .ref (a t1)), (2, .int x2), (3, .int x3), (4, .int 0)]) [1, 2, 3, 4, 0] rfl ?_
  exact v3 3000 0 Z hX
def sX5_shorten (x1 : Int32) (x2 : Int32) (Z : ZZ) : Option (ZZ) :=
  if x1 < 0 then (
    some Z) else (
    if (8 : Int32) ≤ x1 then (
      some Z) else (
      gd (vin x1 8 = true) <|
      if (gI Z 15 x1.toNatClampNeg) ≤ x2 then (
        some Z) else (
        gd (vin x1 8 = true) <|
        nm (pI Z 15 x1.toNatClampNeg x2) <| fun Z_6 =>
        some Z_6)))
abbrev rmX5_shorten : Room := { frames := 0, cells := 0, slots := 0, locals := 0 }
set_option maxHeartbeats 4000000 in
set_option maxRecDepth 100000 in
theorem kX5_shorten {l : Launch} {D : va_G} {dA : Nat → ClassId} {sa : String → Nat → Nat} {a : Nat → Nat} (hl : l.stackTraces = false) {x1 : Int32} {x2 : Int32} {Z Z' : ZZ} (hX : sX5_shorten x1 x2 Z = some Z') : CTv l D dA sa yX5_shorten (wz yX5_shorten cX5_shorten 3 none) rmX5_shorten [.ref (a 13), .int x1, .int x2] (cwC dA a Z) (cwC dA a Z') := by
  refine xm_v hl (by decide +kernel) (Nat.le_of_ble_eq_true rfl) rfl ?_
  intro p e s m args below meth c A Q hC hR
  unfold sX5_shorten at hX
  show xv p l e rmX5_shorten s m args below meth c D A 3 Q (cwC dA a Z) 0 0 0 [(0, .ref (a 13)), (1, .int x1), (2, .int x2)] []
  refine xv_iload_n (pc := 0) hC dX5_shorten_0 1 rfl rfl ?_
  refine xv_if_lt (tgt := 27) (pc := 1) hC dX5_shorten_1 (by decide) (fun c_1 => ?_) (fun c_1 => ?_)
  · replace hX := if_t c_1 hX
    exact xv_eqw (W := cwC dA a) (Option.some.inj hX) (hR _ _ _ _ (Nat.le_of_ble_eq_true rfl) (Nat.le_of_ble_eq_true rfl) dX5_shorten_27)
  · replace hX := if_f c_1 hX
    refine xv_iload_n (pc := 4) hC dX5_shorten_4 1 rfl rfl ?_
    refine xv_bipush (v := 8) (pc := 5) hC dX5_shorten_5 (by decide) ?_
    refine xv_icmp_ge (tgt := 27) (pc := 7) hC dX5_shorten_7 (by decide) (fun c_2 => ?_) (fun c_2 => ?_)
    · replace hX := if_t c_2 hX
      exact xv_eqw (W := cwC dA a) (Option.some.inj hX) (hR _ _ _ _ (Nat.le_of_ble_eq_true rfl) (Nat.le_of_ble_eq_true rfl) dX5_shorten_27)
    · replace hX := if_f c_2 hX
      refine xv_iload_n (pc := 10) hC dX5_shorten_10 2 rfl rfl ?_
      refine xv_aload_n (pc := 11) hC dX5_shorten_11 0 rfl rfl ?_
      refine xgX5 (v := .ref (a 15)) (pc := 12) hC dX5_shorten_12 (rfl : shC 13 = 10) 3 (by decide) wf_258 rfl ?_
      refine xv_iload_n (pc := 15) hC dX5_shorten_15 1 rfl rfl ?_
      obtain ⟨h_3, hX⟩ := gd_some hX
      refine xl_C5 (pc := 16) hC dX5_shorten_16 (rfl : shC 15 = 5) h_3 ?_
      refine xv_icmp_ge (tgt := 27) (pc := 17) hC dX5_shorten_17 (by decide) (fun c_4 => ?_) (fun c_4 => ?_)
      · replace hX := if_t c_4 hX
        exact xv_eqw (W := cwC dA a) (Option.some.inj hX) (hR _ _ _ _ (Nat.le_of_ble_eq_true rfl) (Nat.le_of_ble_eq_true rfl) dX5_shorten_27)
      · replace hX := if_f c_4 hX
        refine xv_aload_n (pc := 20) hC dX5_shorten_20 0 rfl rfl ?_
        refine xgX5 (v := .ref (a 15)) (pc := 21) hC dX5_shorten_21 (rfl : shC 13 = 10) 3 (by decide) wf_258 rfl ?_
        refine xv_iload_n (pc := 24) hC dX5_shorten_24 1 rfl rfl ?_
        refine xv_iload_n (pc := 25) hC dX5_shorten_25 2 rfl rfl ?_
        obtain ⟨h_5, hX⟩ := gd_some hX
        obtain ⟨Z_6, hZ_6, hX⟩ := nm_some hX
        refine xs_C5 (pc := 26) hC dX5_shorten_26 (rfl : shC 15 = 5) h_5 hZ_6 ?_
        exact xv_eqw (W := cwC dA a) (Option.some.inj hX) (hR _ _ _ _ (Nat.le_of_ble_eq_true rfl) (Nat.le_of_ble_eq_true rfl) dX5_shorten_27)
def sX5_nearestUnsettled_L8 (x1 : Int32) : Nat → Int32 → Int32 → Int32 → ZZ → Option (Int32 × ZZ)
  | 0, _, _, _, _ => none
  | n + 1, y2, y3, y4, Z =>
  if (8 : Int32) ≤ y4 then (
    some (y2, Z)) else (
    if ((x1 >>> (y4 &&& 31)) &&& 1) = 0 then (
      gd (vin y4 8 = true) <|
      if y3 ≤ (gI Z 15 y4.toNatClampNeg) then (
        nm (y4 + 1) <| fun y_6 =>
        sX5_nearestUnsettled_L8 x1 n y2 y3 y_6 Z) else (
        gd (vin y4 8 = true) <|
        nm (gI Z 15 y4.toNatClampNeg) <| fun y_8 =>
        nm (y4 + 1) <| fun y_9 =>
        sX5_nearestUnsettled_L8 x1 n y4 y_8 y_9 Z)) else (
      nm (y4 + 1) <| fun y_3 =>
      sX5_nearestUnsettled_L8 x1 n y2 y3 y_3 Z))
def sX5_nearestUnsettled (x1 : Int32) (Z : ZZ) : Option (Int32 × ZZ) :=
  sX5_nearestUnsettled_L8 x1 3000 (-1) 1000000 0 Z
abbrev rmX5_nearestUnsettled : Room := { frames := 0, cells := 0, slots := 0, locals := 0 }
set_option maxHeartbeats 4000000 in
set_option maxRecDepth 100000 in
theorem kX5_nearestUnsettled {l : Launch} {D : va_G} {dA : Nat → ClassId} {sa : String → Nat → Nat} {a : Nat → Nat} (hl : l.stackTraces = false) {x1 : Int32} {Z Z' : ZZ} {v : Int32} (hX : sX5_nearestUnsettled x1 Z = some (v, Z')) : CTi l D dA sa yX5_nearestUnsettled (wz yX5_nearestUnsettled cX5_nearestUnsettled 5 (some .int)) rmX5_nearestUnsettled [.ref (a 13), .int x1] (cwC dA a Z) v (cwC dA a Z') := by
  refine xm_i hl (by decide +kernel) (Nat.le_of_ble_eq_true rfl) rfl ?_
  intro p e s m args below meth c A Q hC hR
  unfold sX5_nearestUnsettled at hX
  have v8 : ∀ (n : Nat) (y2 : Int32) (y3 : Int32) (y4 : Int32) (Z : ZZ), sX5_nearestUnsettled_L8 x1 n y2 y3 y4 Z = some (v, Z') → xv p l e rmX5_nearestUnsettled s m args below meth c D A 5 Q (cwC dA a Z) 0 0 8 [(0, .ref (a 13)), (1, .int x1), (2, .int y2), (3, .int y3), (4, .int y4)] [] := by
    intro n
    induction n with
    | zero =>
      intro y2 y3 y4 Z hX
      exact absurd hX (by simp [sX5_nearestUnsettled_L8])
    | succ n ih =>
      intro y2 y3 y4 Z hX
      rw [sX5_nearestUnsettled_L8] at hX
      refine xv_iload (pc := 8) hC dX5_nearestUnsettled_8 4 rfl ?_
      refine xv_bipush (v := 8) (pc := 10) hC dX5_nearestUnsettled_10 (by decide) ?_
      refine xv_icmp_ge (tgt := 52) (pc := 12) hC dX5_nearestUnsettled_12 (by decide) (fun c_1 => ?_) (fun c_1 => ?_)
      · replace hX := if_t c_1 hX
        refine xv_iload_n (pc := 52) hC dX5_nearestUnsettled_52 2 rfl rfl ?_
        obtain ⟨h1, h2⟩ := some_pair hX
        exact xv_eqi (W := cwC dA a) h1 h2 (hR _ _ _ _ (Nat.le_of_ble_eq_true rfl) (Nat.le_of_ble_eq_true rfl) dX5_nearestUnsettled_53)
      · replace hX := if_f c_1 hX
        refine xv_iload_n (pc := 15) hC dX5_nearestUnsettled_15 1 rfl rfl ?_
        refine xv_iload (pc := 16) hC dX5_nearestUnsettled_16 4 rfl ?_
        refine xv_ishr (pc := 18) hC dX5_nearestUnsettled_18 ?_
        refine xv_iconst (v := 1) (pc := 19) hC dX5_nearestUnsettled_19 (by decide) ?_
        refine xv_iand (pc := 20) hC dX5_nearestUnsettled_20 ?_
        refine xv_if_ne (tgt := 46) (pc := 21) hC dX5_nearestUnsettled_21 (by decide) (fun c_2 => ?_) (fun c_2 => ?_)
        · replace hX := if_f c_2 hX
          obtain ⟨y_3, hy_3, hX⟩ := nm_some hX
          refine xv_iinc (pc := 46) (v := y_3) (lv' := [(4, .int y_3), (0, .ref (a 13)), (1, .int x1), (2, .int y2), (3, .int y3)]) hC dX5_nearestUnsettled_46 4 rfl (by rw [hy_3]; rfl) (by decide) rfl ?_
          refine xv_goto (tgt := 8) (pc := 49) hC dX5_nearestUnsettled_49 (by decide) ?_
          refine xv_sub (lv' := [(0, .ref (a 13)), (1, .int x1), (2, .int y2), (3, .int y3), (4, .int y_3)]) [1, 2, 3, 4, 0] rfl ?_
          exact ih y2 y3 y_3 Z hX
        · replace hX := if_t c_2 hX
          refine xv_aload_n (pc := 24) hC dX5_nearestUnsettled_24 0 rfl rfl ?_
          refine xgX5 (v := .ref (a 15)) (pc := 25) hC dX5_nearestUnsettled_25 (rfl : shC 13 = 10) 3 (by decide) wf_258 rfl ?_
          refine xv_iload (pc := 28) hC dX5_nearestUnsettled_28 4 rfl ?_
          obtain ⟨h_4, hX⟩ := gd_some hX
          refine xl_C5 (pc := 30) hC dX5_nearestUnsettled_30 (rfl : shC 15 = 5) h_4 ?_
          refine xv_iload_n (pc := 31) hC dX5_nearestUnsettled_31 3 rfl rfl ?_
          refine xv_icmp_ge (tgt := 46) (pc := 32) hC dX5_nearestUnsettled_32 (by decide) (fun c_5 => ?_) (fun c_5 => ?_)
          · replace hX := if_t c_5 hX
            obtain ⟨y_6, hy_6, hX⟩ := nm_some hX
            refine xv_iinc (pc := 46) (v := y_6) (lv' := [(4, .int y_6), (0, .ref (a 13)), (1, .int x1), (2, .int y2), (3, .int y3)]) hC dX5_nearestUnsettled_46 4 rfl (by rw [hy_6]; rfl) (by decide) rfl ?_
            refine xv_goto (tgt := 8) (pc := 49) hC dX5_nearestUnsettled_49 (by decide) ?_
            refine xv_sub (lv' := [(0, .ref (a 13)), (1, .int x1), (2, .int y2), (3, .int y3), (4, .int y_6)]) [1, 2, 3, 4, 0] rfl ?_
            exact ih y2 y3 y_6 Z hX
          · replace hX := if_f c_5 hX
            refine xv_iload (pc := 35) hC dX5_nearestUnsettled_35 4 rfl ?_
            refine xv_istore_n (pc := 37) (lv' := [(2, .int y4), (0, .ref (a 13)), (1, .int x1), (3, .int y3), (4, .int y4)]) hC dX5_nearestUnsettled_37 rfl (by decide) rfl ?_
            refine xv_aload_n (pc := 38) hC dX5_nearestUnsettled_38 1 rfl rfl ?_
            refine xgX5 (v := .ref (a 15)) (pc := 39) hC dX5_nearestUnsettled_39 (rfl : shC 13 = 10) 3 (by decide) wf_258 rfl ?_
            refine xv_iload (pc := 42) hC dX5_nearestUnsettled_42 4 rfl ?_
            obtain ⟨h_7, hX⟩ := gd_some hX
            refine xl_C5 (pc := 44) hC dX5_nearestUnsettled_44 (rfl : shC 15 = 5) h_7 ?_
            obtain ⟨y_8, hy_8, hX⟩ := nm_some hX
            refine xv_nmi hy_8 ?_
            refine xv_istore_n (pc := 45) (lv' := [(3, .int y_8), (2, .int y4), (0, .ref (a 13)), (1, .int x1), (4, .int y4)]) hC dX5_nearestUnsettled_45 rfl (by decide) rfl ?_
            obtain ⟨y_9, hy_9, hX⟩ := nm_some hX
            refine xv_iinc (pc := 46) (v := y_9) (lv' := [(4, .int y_9), (3, .int y_8), (2, .int y4), (0, .ref (a 13)), (1, .int x1)]) hC dX5_nearestUnsettled_46 4 rfl (by rw [hy_9]; rfl) (by decide) rfl ?_
            refine xv_goto (tgt := 8) (pc := 49) hC dX5_nearestUnsettled_49 (by decide) ?_
            refine xv_sub (lv' := [(0, .ref (a 13)), (1, .int x1), (2, .int y4), (3, .int y_8), (4, .int y_9)]) [3, 4, 2, 1, 0] rfl ?_
            exact ih y4 y_8 y_9 Z hX
  show xv p l e rmX5_nearestUnsettled s m args below meth c D A 5 Q (cwC dA a Z) 0 0 0 [(0, .ref (a 13)), (1, .int x1)] []
  refine xv_iconst (v := (-1)) (pc := 0) hC dX5_nearestUnsettled_0 (by decide) ?_
  refine xv_istore_n (pc := 1) (lv' := [(2, .int (-1)), (0, .ref (a 13)), (1, .int x1)]) hC dX5_nearestUnsettled_1 rfl (by decide) rfl ?_
  refine xv_ldci (v := 1000000) (pc := 2) hC dX5_nearestUnsettled_2 wf_411 ?_
  refine xv_istore_n (pc := 4) (lv' := [(3, .int 1000000), (2, .int (-1)), (0, .ref (a 13)), (1, .int x1)]) hC dX5_nearestUnsettled_4 rfl (by decide) rfl ?_
  refine xv_iconst (v := 0) (pc := 5) hC dX5_nearestUnsettled_5 (by decide) ?_
  refine xv_istore (pc := 6) (lv' := [(4, .int 0), (3, .int 1000000), (2, .int (-1)), (0, .ref (a 13)), (1, .int x1)]) hC dX5_nearestUnsettled_6 (by decide) rfl ?_
  refine xv_sub (lv' := [(0, .ref (a 13)), (1, .int x1), (2, .int (-1)), (3, .int 1000000), (4, .int 0)]) [3, 4, 2, 1, 0] rfl ?_
  exact v8 3000 (-1) 1000000 0 Z hX
def sJ_fill_5_L5 (t0 : Nat) (x1 : Int32) : Nat → Int32 → Int32 → ZZ → Option (ZZ)
  | 0, _, _, _ => none
  | n + 1, y2, y3, Z =>
  if y3 ≤ y2 then (
    some Z) else (
    gd (vin y2 8 = true) <|
    nm (pI Z t0 y2.toNatClampNeg x1) <| fun Z_3 =>
    nm (y2 + 1) <| fun y_4 =>
    sJ_fill_5_L5 t0 x1 n y_4 y3 Z_3)
def sJ_fill_5 (t0 : Nat) (x1 : Int32) (Z : ZZ) : Option (ZZ) :=
  gd (shC t0 = 5) <|
  sJ_fill_5_L5 t0 x1 3000 0 8 Z
abbrev rmJ_fill_5 : Room := { frames := 0, cells := 0, slots := 0, locals := 0 }
set_option maxHeartbeats 4000000 in
set_option maxRecDepth 100000 in
theorem kJ_fill_5 {l : Launch} {D : va_G} {dA : Nat → ClassId} {sa : String → Nat → Nat} {a : Nat → Nat} (hl : l.stackTraces = false) {t0 : Nat} {x1 : Int32} {Z Z' : ZZ} (hX : sJ_fill_5 t0 x1 Z = some Z') : CTv l D dA sa ⟨"java/util/Arrays", "fill", "([II)V"⟩ (wz ⟨"java/util/Arrays", "fill", "([II)V"⟩ prog_37_method_103_code 4 none) rmJ_fill_5 [.ref (a t0), .int x1] (cwC dA a Z) (cwC dA a Z') := by
  refine xm_v hl (by decide +kernel) (Nat.le_of_ble_eq_true rfl) rfl ?_
  intro p e s m args below meth c A Q hC hR
  unfold sJ_fill_5 at hX
  obtain ⟨g0, hX⟩ := gd_some hX
  have v5 : ∀ (n : Nat) (y2 : Int32) (y3 : Int32) (Z : ZZ), sJ_fill_5_L5 t0 x1 n y2 y3 Z = some Z' → xv p l e rmJ_fill_5 s m args below meth c D A 4 Q (cwC dA a Z) 0 0 5 [(0, .ref (a t0)), (1, .int x1), (2, .int y2), (3, .int y3)] [] := by
    intro n
    induction n with
    | zero =>
      intro y2 y3 Z hX
      exact absurd hX (by simp [sJ_fill_5_L5])
    | succ n ih =>
      intro y2 y3 Z hX
      rw [sJ_fill_5_L5] at hX
      refine xv_iload_n (pc := 5) hC dJ_fill_5 2 rfl rfl ?_
      refine xv_iload_n (pc := 6) hC dJ_fill_6 3 rfl rfl ?_
      refine xv_icmp_ge (tgt := 20) (pc := 7) hC dJ_fill_7 (by decide) (fun c_1 => ?_) (fun c_1 => ?_)
      · replace hX := if_t c_1 hX
        exact xv_eqw (W := cwC dA a) (Option.some.inj hX) (hR _ _ _ _ (Nat.le_of_ble_eq_true rfl) (Nat.le_of_ble_eq_true rfl) dJ_fill_20)
      · replace hX := if_f c_1 hX
        refine xv_aload_n (pc := 10) hC dJ_fill_10 0 rfl rfl ?_
        refine xv_iload_n (pc := 11) hC dJ_fill_11 2 rfl rfl ?_
        refine xv_iload_n (pc := 12) hC dJ_fill_12 1 rfl rfl ?_
        obtain ⟨h_2, hX⟩ := gd_some hX
        obtain ⟨Z_3, hZ_3, hX⟩ := nm_some hX
        refine xs_C5 (pc := 13) hC dJ_fill_13 g0 h_2 hZ_3 ?_
        obtain ⟨y_4, hy_4, hX⟩ := nm_some hX
        refine xv_iinc (pc := 14) (v := y_4) (lv' := [(2, .int y_4), (0, .ref (a t0)), (1, .int x1), (3, .int y3)]) hC dJ_fill_14 2 rfl (by rw [hy_4]; rfl) (by decide) rfl ?_
        refine xv_goto (tgt := 5) (pc := 17) hC dJ_fill_17 (by decide) ?_
        refine xv_sub (lv' := [(0, .ref (a t0)), (1, .int x1), (2, .int y_4), (3, .int y3)]) [1, 2, 0, 3] rfl ?_
        exact ih y_4 y3 Z_3 hX
  show xv p l e rmJ_fill_5 s m args below meth c D A 4 Q (cwC dA a Z) 0 0 0 [(0, .ref (a t0)), (1, .int x1)] []
  refine xv_iconst (v := 0) (pc := 0) hC dJ_fill_0 (by decide) ?_
  refine xv_istore_n (pc := 1) (lv' := [(2, .int 0), (0, .ref (a t0)), (1, .int x1)]) hC dJ_fill_1 rfl (by decide) rfl ?_
  refine xv_aload_n (pc := 2) hC dJ_fill_2 1 rfl rfl ?_
  refine xn_C5 (v := 8) (pc := 3) hC dJ_fill_3 g0 (by decide) ?_
  refine xv_istore_n (pc := 4) (lv' := [(3, .int 8), (2, .int 0), (0, .ref (a t0)), (1, .int x1)]) hC dJ_fill_4 rfl (by decide) rfl ?_
  refine xv_sub (lv' := [(0, .ref (a t0)), (1, .int x1), (2, .int 0), (3, .int 8)]) [2, 3, 1, 0] rfl ?_
  exact v5 3000 0 8 Z hX
def sX5_measure_L58 (t1 : Nat) (x2 : Int32) (x3 : Int32) (k21 : Int32 → Int32 → ZZ → Option (ZZ)) : Nat → Int32 → Int32 → Int32 → Int32 → ZZ → Option (ZZ)
  | 0, _, _, _, _, _ => none
  | n + 1, y4, y5, y6, y7, Z =>
  if (gI Z t1 1) ≤ y7 then (
    nm (y5 + 1) <| fun y_2 =>
    k21 y4 y_2 Z) else (
    bnd (sX7_hasBit x2 y7 Z) <| fun q_3 =>
    if q_3.1 = 0 then (
      nm (y7 + 1) <| fun y_5 =>
      sX5_measure_L58 t1 x2 x3 k21 n y4 y5 y6 y_5 q_3.2) else (
      bnd (sX3_acrossFrom t1 y7 y6 q_3.2) <| fun q_6 =>
      bnd (sX5_distanceOf y6 q_6.2) <| fun q_7 =>
      gd (vin y7 16 = true) <|
      bnd (sX5_keyOf (gI q_7.2 (t1 + 3) y7.toNatClampNeg) q_7.2) <| fun q_9 =>
      bnd (sX5_shorten q_6.1 (q_7.1 + q_9.1) q_9.2) <| fun q_10 =>
      nm (y7 + 1) <| fun y_11 =>
      sX5_measure_L58 t1 x2 x3 k21 n y4 y5 y6 y_11 q_10))
def sX5_measure_L21 (t1 : Nat) (x2 : Int32) (x3 : Int32) : Nat → Int32 → Int32 → ZZ → Option (ZZ)
  | 0, _, _, _ => none
  | n + 1, y4, y5, Z =>
  if (gI Z t1 0) ≤ y5 then (
    some Z) else (
    bnd (sX5_nearestUnsettled y4 Z) <| fun q_13 =>
    nm (q_13.1) <| fun y_14 =>
    if y_14 = (-1) then (
      some q_13.2) else (
      bnd (sX7_bit y_14 q_13.2) <| fun q_16 =>
      nm (y4 ||| q_16.1) <| fun y_17 =>
      sX5_measure_L58 t1 x2 x3 (fun y4 y5 Z => sX5_measure_L21 t1 x2 x3 n y4 y5 Z) 3000 y_17 y5 y_14 0 q_16.2))
def sX5_measure (t1 : Nat) (x2 : Int32) (x3 : Int32) (Z : ZZ) : Option (ZZ) :=
  gd (shC t1 = 14) <|
  bnd (sJ_fill_5 15 1000000 Z) <| fun q_18 =>
  bnd (sX5_shorten x3 0 q_18) <| fun q_19 =>
  sX5_measure_L21 t1 x2 x3 3000 0 0 q_19
abbrev rmX5_measure : Room := { frames := 1, cells := 0, slots := 0, locals := 24 }
set_option maxHeartbeats 4000000 in
set_option maxRecDepth 100000 in
theorem kX5_measure {l : Launch} {D : va_G} {dA : Nat → ClassId} {sa : String → Nat → Nat} {a : Nat → Nat} (hl : l.stackTraces = false) {t1 : Nat} {x2 : Int32} {x3 : Int32} {Z Z' : ZZ} (hX : sX5_measure t1 x2 x3 Z = some Z') : CTv l D dA sa yX5_measure (wz yX5_measure cX5_measure 8 none) rmX5_measure [.ref (a 13), .ref (a t1), .int x2, .int x3] (cwC dA a Z) (cwC dA a Z') := by
  refine xm_v hl (by decide +kernel) (Nat.le_of_ble_eq_true rfl) rfl ?_
  intro p e s m args below meth c A Q hC hR
  unfold sX5_measure at hX
  obtain ⟨g1, hX⟩ := gd_some hX
  have v58 : ∀ (k21 : Int32 → Int32 → ZZ → Option (ZZ)) (hk21 : ∀ (y4 : Int32) (y5 : Int32) (Z : ZZ), k21 y4 y5 Z = some Z' → xv p l e rmX5_measure s m args below meth c D A 8 Q (cwC dA a Z) 0 0 21 [(0, .ref (a 13)), (1, .ref (a t1)), (2, .int x2), (3, .int x3), (4, .int y4), (5, .int y5)] []) (n : Nat) (y4 : Int32) (y5 : Int32) (y6 : Int32) (y7 : Int32) (Z : ZZ), sX5_measure_L58 t1 x2 x3 k21 n y4 y5 y6 y7 Z = some Z' → xv p l e rmX5_measure s m args below meth c D A 8 Q (cwC dA a Z) 0 0 58 [(0, .ref (a 13)), (1, .ref (a t1)), (2, .int x2), (3, .int x3), (4, .int y4), (5, .int y5), (6, .int y6), (7, .int y7)] [] := by
    intro k21 hk21 n
    induction n with
    | zero =>
      intro y4 y5 y6 y7 Z hX
      exact absurd hX (by simp [sX5_measure_L58])
    | succ n ih =>
      intro y4 y5 y6 y7 Z hX
      rw [sX5_measure_L58] at hX
      refine xv_iload (pc := 58) hC dX5_measure_58 7 rfl ?_
      refine xv_aload_n (pc := 60) hC dX5_measure_60 1 rfl rfl ?_
      refine xgX3 (v := .int (gI Z t1 1)) (pc := 61) hC dX5_measure_61 g1 1 (by decide) wf_56 rfl ?_
      refine xv_icmp_ge (tgt := 111) (pc := 64) hC dX5_measure_64 (by decide) (fun c_1 => ?_) (fun c_1 => ?_)
      · replace hX := if_t c_1 hX
        obtain ⟨y_2, hy_2, hX⟩ := nm_some hX
        refine xv_iinc (pc := 111) (v := y_2) (lv' := [(5, .int y_2), (0, .ref (a 13)), (1, .ref (a t1)), (2, .int x2), (3, .int x3), (4, .int y4), (6, .int y6), (7, .int y7)]) hC dX5_measure_111 5 rfl (by rw [hy_2]; rfl) (by decide) rfl ?_
        refine xv_goto (tgt := 21) (pc := 114) hC dX5_measure_114 (by decide) ?_
        refine xv_sub (lv' := [(0, .ref (a 13)), (1, .ref (a t1)), (2, .int x2), (3, .int x3), (4, .int y4), (5, .int y_2)]) [1, 2, 3, 4, 5, 0] rfl ?_
        exact hk21 y4 y_2 Z hX
      · replace hX := if_f c_1 hX
        refine xv_iload_n (pc := 67) hC dX5_measure_67 2 rfl rfl ?_
        refine xv_iload (pc := 68) hC dX5_measure_68 7 rfl ?_
        obtain ⟨q_3, hq_3, hX⟩ := bnd_some hX
        refine xv_callNi0 (As := [.int x2, .int y7]) (host := "Switchboard") (pc := 70) hC (kX7_hasBit hl hq_3) fS_X7_hasBit (by decide +kernel) rfl ⟨Nat.le_of_ble_eq_true rfl, Nat.le_of_ble_eq_true rfl⟩ rfl (Nat.le_of_ble_eq_true rfl) dX5_measure_70 ⟨Nat.le_of_ble_eq_true rfl, Nat.le_of_ble_eq_true rfl⟩ ?_
        refine xv_if_eq (tgt := 105) (pc := 73) hC dX5_measure_73 (by decide) (fun c_4 => ?_) (fun c_4 => ?_)
        · replace hX := if_t c_4 hX
          obtain ⟨y_5, hy_5, hX⟩ := nm_some hX
          refine xv_iinc (pc := 105) (v := y_5) (lv' := [(7, .int y_5), (0, .ref (a 13)), (1, .ref (a t1)), (2, .int x2), (3, .int x3), (4, .int y4), (5, .int y5), (6, .int y6)]) hC dX5_measure_105 7 rfl (by rw [hy_5]; rfl) (by decide) rfl ?_
          refine xv_goto (tgt := 58) (pc := 108) hC dX5_measure_108 (by decide) ?_
          refine xv_sub (lv' := [(0, .ref (a 13)), (1, .ref (a t1)), (2, .int x2), (3, .int x3), (4, .int y4), (5, .int y5), (6, .int y6), (7, .int y_5)]) [1, 2, 3, 4, 5, 6, 7, 0] rfl ?_
          exact ih y4 y5 y6 y_5 q_3.2 hX
        · replace hX := if_f c_4 hX
          refine xv_aload_n (pc := 76) hC dX5_measure_76 0 rfl rfl ?_
          refine xv_aload_n (pc := 77) hC dX5_measure_77 1 rfl rfl ?_
          refine xv_iload (pc := 78) hC dX5_measure_78 7 rfl ?_
          refine xv_iload (pc := 80) hC dX5_measure_80 6 rfl ?_
          obtain ⟨q_6, hq_6, hX⟩ := bnd_some hX
          refine xv_callVi0 (As := [.int y7, .int y6]) (pc := 82) hC (kX3_acrossFrom hl hq_6) fV_X3_acrossFrom wf_427 (rc_X3 g1) rfl ⟨Nat.le_of_ble_eq_true rfl, Nat.le_of_ble_eq_true rfl⟩ rfl (Nat.le_of_ble_eq_true rfl) dX5_measure_82 ⟨Nat.le_of_ble_eq_true rfl, Nat.le_of_ble_eq_true rfl⟩ ?_
          refine xv_aload_n (pc := 85) hC dX5_measure_85 0 rfl rfl ?_
          refine xv_iload (pc := 86) hC dX5_measure_86 6 rfl ?_
          obtain ⟨q_7, hq_7, hX⟩ := bnd_some hX
          refine xv_callVi0 (As := [.int y6]) (pc := 88) hC (kX5_distanceOf hl hq_7) fV_X5_distanceOf wf_431 (rc_X5 (rfl : shC 13 = 10)) rfl ⟨Nat.le_of_ble_eq_true rfl, Nat.le_of_ble_eq_true rfl⟩ rfl (Nat.le_of_ble_eq_true rfl) dX5_measure_88 ⟨Nat.le_of_ble_eq_true rfl, Nat.le_of_ble_eq_true rfl⟩ ?_
          refine xv_aload_n (pc := 91) hC dX5_measure_91 1 rfl rfl ?_
          refine xgX3 (v := .ref (a (t1 + 3))) (pc := 92) hC dX5_measure_92 g1 4 (by decide) wf_66 rfl ?_
          refine xv_iload (pc := 95) hC dX5_measure_95 7 rfl ?_
          obtain ⟨h_8, hX⟩ := gd_some hX
          refine xl_C12 (pc := 97) hC dX5_measure_97 (sh_X3_lengths g1) h_8 ?_
          obtain ⟨q_9, hq_9, hX⟩ := bnd_some hX
          refine xv_callSi0 (As := [.int (gI q_7.2 (t1 + 3) y7.toNatClampNeg)]) (pc := 98) hC (kX5_keyOf hl hq_9) fS_X5_keyOf wf_435 rfl ⟨Nat.le_of_ble_eq_true rfl, Nat.le_of_ble_eq_true rfl⟩ rfl (Nat.le_of_ble_eq_true rfl) dX5_measure_98 ⟨Nat.le_of_ble_eq_true rfl, Nat.le_of_ble_eq_true rfl⟩ ?_
          refine xv_iadd (pc := 101) hC dX5_measure_101 ?_
          obtain ⟨q_10, hq_10, hX⟩ := bnd_some hX
          refine xv_callVv0 (As := [.int q_6.1, .int (q_7.1 + q_9.1)]) (pc := 102) hC (kX5_shorten hl hq_10) fV_X5_shorten wf_415 (rc_X5 (rfl : shC 13 = 10)) rfl ⟨Nat.le_of_ble_eq_true rfl, Nat.le_of_ble_eq_true rfl⟩ rfl (Nat.le_of_ble_eq_true rfl) dX5_measure_102 ⟨Nat.le_of_ble_eq_true rfl, Nat.le_of_ble_eq_true rfl⟩ ?_
          obtain ⟨y_11, hy_11, hX⟩ := nm_some hX
          refine xv_iinc (pc := 105) (v := y_11) (lv' := [(7, .int y_11), (0, .ref (a 13)), (1, .ref (a t1)), (2, .int x2), (3, .int x3), (4, .int y4), (5, .int y5), (6, .int y6)]) hC dX5_measure_105 7 rfl (by rw [hy_11]; rfl) (by decide) rfl ?_
          refine xv_goto (tgt := 58) (pc := 108) hC dX5_measure_108 (by decide) ?_
          refine xv_sub (lv' := [(0, .ref (a 13)), (1, .ref (a t1)), (2, .int x2), (3, .int x3), (4, .int y4), (5, .int y5), (6, .int y6), (7, .int y_11)]) [1, 2, 3, 4, 5, 6, 7, 0] rfl ?_
          exact ih y4 y5 y6 y_11 q_10 hX
  have v21 : ∀ (n : Nat) (y4 : Int32) (y5 : Int32) (Z : ZZ), sX5_measure_L21 t1 x2 x3 n y4 y5 Z = some Z' → xv p l e rmX5_measure s m args below meth c D A 8 Q (cwC dA a Z) 0 0 21 [(0, .ref (a 13)), (1, .ref (a t1)), (2, .int x2), (3, .int x3), (4, .int y4), (5, .int y5)] [] := by
    intro n
    induction n with
    | zero =>
      intro y4 y5 Z hX
      exact absurd hX (by simp [sX5_measure_L21])
    | succ n ih =>
      intro y4 y5 Z hX
      rw [sX5_measure_L21] at hX
      refine xv_iload (pc := 21) hC dX5_measure_21 5 rfl ?_
      refine xv_aload_n (pc := 23) hC dX5_measure_23 1 rfl rfl ?_
      refine xgX3 (v := .int (gI Z t1 0)) (pc := 24) hC dX5_measure_24 g1 0 (by decide) wf_54 rfl ?_
      refine xv_icmp_ge (tgt := 117) (pc := 27) hC dX5_measure_27 (by decide) (fun c_12 => ?_) (fun c_12 => ?_)
      · replace hX := if_t c_12 hX
        exact xv_eqw (W := cwC dA a) (Option.some.inj hX) (hR _ _ _ _ (Nat.le_of_ble_eq_true rfl) (Nat.le_of_ble_eq_true rfl) dX5_measure_117)
      · replace hX := if_f c_12 hX
        refine xv_aload_n (pc := 30) hC dX5_measure_30 0 rfl rfl ?_
        refine xv_iload (pc := 31) hC dX5_measure_31 4 rfl ?_
        obtain ⟨q_13, hq_13, hX⟩ := bnd_some hX
        refine xv_callVi0 (As := [.int y4]) (pc := 33) hC (kX5_nearestUnsettled hl hq_13) fV_X5_nearestUnsettled wf_419 (rc_X5 (rfl : shC 13 = 10)) rfl ⟨Nat.le_of_ble_eq_true rfl, Nat.le_of_ble_eq_true rfl⟩ rfl (Nat.le_of_ble_eq_true rfl) dX5_measure_33 ⟨Nat.le_of_ble_eq_true rfl, Nat.le_of_ble_eq_true rfl⟩ ?_
        obtain ⟨y_14, hy_14, hX⟩ := nm_some hX
        refine xv_nmi hy_14 ?_
        refine xv_istore (pc := 36) (lv' := [(6, .int y_14), (0, .ref (a 13)), (1, .ref (a t1)), (2, .int x2), (3, .int x3), (4, .int y4), (5, .int y5)]) hC dX5_measure_36 (by decide) rfl ?_
        refine xv_iload (pc := 38) hC dX5_measure_38 0 rfl ?_
        refine xv_iconst (v := (-1)) (pc := 40) hC dX5_measure_40 (by decide) ?_
        refine xv_icmp_ne (tgt := 45) (pc := 41) hC dX5_measure_41 (by decide) (fun c_15 => ?_) (fun c_15 => ?_)
        · replace hX := if_f c_15 hX
          refine xv_iload (pc := 45) hC dX5_measure_45 5 rfl ?_
          refine xv_iload (pc := 47) hC dX5_measure_47 0 rfl ?_
          obtain ⟨q_16, hq_16, hX⟩ := bnd_some hX
          refine xv_callNi0 (As := [.int y_14]) (host := "Switchboard") (pc := 49) hC (kX7_bit hl hq_16) fS_X7_bit (by decide +kernel) rfl ⟨Nat.le_of_ble_eq_true rfl, Nat.le_of_ble_eq_true rfl⟩ rfl (Nat.le_of_ble_eq_true rfl) dX5_measure_49 ⟨Nat.le_of_ble_eq_true rfl, Nat.le_of_ble_eq_true rfl⟩ ?_
          refine xv_ior (pc := 52) hC dX5_measure_52 ?_
          obtain ⟨y_17, hy_17, hX⟩ := nm_some hX
          refine xv_nmi hy_17 ?_
          refine xv_istore (pc := 53) (lv' := [(4, .int y_17), (6, .int y_14), (0, .ref (a 13)), (1, .ref (a t1)), (2, .int x2), (3, .int x3), (5, .int y5)]) hC dX5_measure_53 (by decide) rfl ?_
          refine xv_iconst (v := 0) (pc := 55) hC dX5_measure_55 (by decide) ?_
          refine xv_istore (pc := 56) (lv' := [(7, .int 0), (4, .int y_17), (6, .int y_14), (0, .ref (a 13)), (1, .ref (a t1)), (2, .int x2), (3, .int x3), (5, .int y5)]) hC dX5_measure_56 (by decide) rfl ?_
          refine xv_sub (lv' := [(0, .ref (a 13)), (1, .ref (a t1)), (2, .int x2), (3, .int x3), (4, .int y_17), (5, .int y5), (6, .int y_14), (7, .int 0)]) [3, 4, 5, 6, 1, 7, 2, 0] rfl ?_
          exact v58 _ ih 3000 y_17 y5 y_14 0 q_16.2 hX
        · replace hX := if_t c_15 hX
          exact xv_eqw (W := cwC dA a) (Option.some.inj hX) (hR _ _ _ _ (Nat.le_of_ble_eq_true rfl) (Nat.le_of_ble_eq_true rfl) dX5_measure_44)
  show xv p l e rmX5_measure s m args below meth c D A 8 Q (cwC dA a Z) 0 0 0 [(0, .ref (a 13)), (1, .ref (a t1)), (2, .int x2), (3, .int x3)] []
  refine xv_aload_n (pc := 0) hC dX5_measure_0 0 rfl rfl ?_
  refine xgX5 (v := .ref (a 15)) (pc := 1) hC dX5_measure_1 (rfl : shC 13 = 10) 3 (by decide) wf_258 rfl ?_
  refine xv_ldci (v := 1000000) (pc := 4) hC dX5_measure_4 wf_411 ?_
  obtain ⟨q_18, hq_18, hX⟩ := bnd_some hX
  refine xv_callSv0 (As := [.ref (a 15), .int 1000000]) (pc := 6) hC (kJ_fill_5 hl hq_18) fS_J7_fill_53178 wf_412 rfl ⟨Nat.le_of_ble_eq_true rfl, Nat.le_of_ble_eq_true rfl⟩ rfl (Nat.le_of_ble_eq_true rfl) dX5_measure_6 ⟨Nat.le_of_ble_eq_true rfl, Nat.le_of_ble_eq_true rfl⟩ ?_
  refine xv_aload_n (pc := 9) hC dX5_measure_9 0 rfl rfl ?_
  refine xv_iload_n (pc := 10) hC dX5_measure_10 3 rfl rfl ?_
  refine xv_iconst (v := 0) (pc := 11) hC dX5_measure_11 (by decide) ?_
  obtain ⟨q_19, hq_19, hX⟩ := bnd_some hX
  refine xv_callVv0 (As := [.int x3, .int 0]) (pc := 12) hC (kX5_shorten hl hq_19) fV_X5_shorten wf_415 (rc_X5 (rfl : shC 13 = 10)) rfl ⟨Nat.le_of_ble_eq_true rfl, Nat.le_of_ble_eq_true rfl⟩ rfl (Nat.le_of_ble_eq_true rfl) dX5_measure_12 ⟨Nat.le_of_ble_eq_true rfl, Nat.le_of_ble_eq_true rfl⟩ ?_
  refine xv_iconst (v := 0) (pc := 15) hC dX5_measure_15 (by decide) ?_
  refine xv_istore (pc := 16) (lv' := [(4, .int 0), (0, .ref (a 13)), (1, .ref (a t1)), (2, .int x2), (3, .int x3)]) hC dX5_measure_16 (by decide) rfl ?_
  refine xv_iconst (v := 0) (pc := 18) hC dX5_measure_18 (by decide) ?_
  refine xv_istore (pc := 19) (lv' := [(5, .int 0), (4, .int 0), (0, .ref (a 13)), (1, .ref (a t1)), (2, .int x2), (3, .int x3)]) hC dX5_measure_19 (by decide) rfl ?_
  refine xv_sub (lv' := [(0, .ref (a 13)), (1, .ref (a t1)), (2, .int x2), (3, .int x3), (4, .int 0), (5, .int 0)]) [2, 3, 4, 5, 1, 0] rfl ?_
  exact v21 3000 0 0 q_19 hX
def sX5_findRoute_B100 (t1 : Nat) (x2 : Int32) (x3 : Int32) (x4 : Int32) (y5 : Int32) (Z : ZZ) : Option (Int32 × ZZ) :=
  if y5 = x4 then (
    some (1, Z)) else (
    some (0, Z))
def sX5_findRoute_L43 (t1 : Nat) (x2 : Int32) (x3 : Int32) (x4 : Int32) : Nat → Int32 → Int32 → ZZ → Option (Int32 × ZZ)
  | 0, _, _, _ => none
  | n + 1, y5, y6, Z =>
  if (7 : Int32) ≤ y6 then (
    sX5_findRoute_B100 t1 x2 x3 x4 y5 Z) else (
    if y5 = x4 then (
      sX5_findRoute_B100 t1 x2 x3 x4 y5 Z) else (
      bnd (sX5_firstTrunkToGoal t1 x2 y5 Z) <| fun q_4 =>
      nm (q_4.1) <| fun y_5 =>
      gd (vin y6 7 = true) <|
      nm (pI q_4.2 14 y6.toNatClampNeg y_5) <| fun Z_7 =>
      nm (pI Z_7 13 1 (y6 + 1)) <| fun Z_8 =>
      bnd (sX3_acrossFrom t1 y_5 y5 Z_8) <| fun q_9 =>
      nm (q_9.1) <| fun y_10 =>
      nm (y6 + 1) <| fun y_11 =>
      sX5_findRoute_L43 t1 x2 x3 x4 n y_10 y_11 q_9.2))
def sX5_findRoute (t1 : Nat) (x2 : Int32) (x3 : Int32) (x4 : Int32) (Z : ZZ) : Option (Int32 × ZZ) :=
  gd (shC t1 = 14) <|
  bnd (sX5_measure t1 x2 x4 Z) <| fun q_12 =>
  nm (pI q_12 13 1 0) <| fun Z_13 =>
  bnd (sX5_distanceOf x3 Z_13) <| fun q_14 =>
  if q_14.1 < 1000000 then (
    bnd (sX5_distanceOf x3 q_14.2) <| fun q_16 =>
    nm (pI q_16.2 13 2 (q_16.1 / 8)) <| fun Z_17 =>
    sX5_findRoute_L43 t1 x2 x3 x4 3000 x3 0 Z_17) else (
    some (0, q_14.2))
abbrev rmX5_findRoute : Room := { frames := 2, cells := 0, slots := 0, locals := 51 }
set_option maxHeartbeats 4000000 in
set_option maxRecDepth 100000 in
theorem kX5_findRoute {l : Launch} {D : va_G} {dA : Nat → ClassId} {sa : String → Nat → Nat} {a : Nat → Nat} (hl : l.stackTraces = false) {t1 : Nat} {x2 : Int32} {x3 : Int32} {x4 : Int32} {Z Z' : ZZ} {v : Int32} (hX : sX5_findRoute t1 x2 x3 x4 Z = some (v, Z')) : CTi l D dA sa yX5_findRoute (wz yX5_findRoute cX5_findRoute 8 (some .boolean)) rmX5_findRoute [.ref (a 13), .ref (a t1), .int x2, .int x3, .int x4] (cwC dA a Z) v (cwC dA a Z') := by
  refine xm_z hl (by decide +kernel) (Nat.le_of_ble_eq_true rfl) rfl ?_
  intro p e s m args below meth c A Q hC hR
  unfold sX5_findRoute at hX
  obtain ⟨g1, hX⟩ := gd_some hX
  have v100 : ∀ (y5 : Int32) (Z : ZZ), sX5_findRoute_B100 t1 x2 x3 x4 y5 Z = some (v, Z') → xv p l e rmX5_findRoute s m args below meth c D A 8 Q (cwC dA a Z) 0 0 100 [(0, .ref (a 13)), (1, .ref (a t1)), (2, .int x2), (3, .int x3), (4, .int x4), (5, .int y5)] [] := by
    intro y5 Z hX
    unfold sX5_findRoute_B100 at hX
    refine xv_iload (pc := 100) hC dX5_findRoute_100 5 rfl ?_
    refine xv_iload (pc := 102) hC dX5_findRoute_102 4 rfl ?_
    refine xv_icmp_ne (tgt := 111) (pc := 104) hC dX5_findRoute_104 (by decide) (fun c_1 => ?_) (fun c_1 => ?_)
    · replace hX := if_f c_1 hX
      refine xv_iconst (v := 0) (pc := 111) hC dX5_findRoute_111 (by decide) ?_
      obtain ⟨h1, h2⟩ := some_pair hX
      exact xv_eqi (W := cwC dA a) h1 h2 (hR _ _ _ _ (by rw [← h1]; exact (by decide)) (Nat.le_of_ble_eq_true rfl) (Nat.le_of_ble_eq_true rfl) dX5_findRoute_112)
    · replace hX := if_t c_1 hX
      refine xv_iconst (v := 1) (pc := 107) hC dX5_findRoute_107 (by decide) ?_
      refine xv_goto (tgt := 112) (pc := 108) hC dX5_findRoute_108 (by decide) ?_
      obtain ⟨h1, h2⟩ := some_pair hX
      exact xv_eqi (W := cwC dA a) h1 h2 (hR _ _ _ _ (by rw [← h1]; exact (by decide)) (Nat.le_of_ble_eq_true rfl) (Nat.le_of_ble_eq_true rfl) dX5_findRoute_112)
  have v43 : ∀ (n : Nat) (y5 : Int32) (y6 : Int32) (Z : ZZ), sX5_findRoute_L43 t1 x2 x3 x4 n y5 y6 Z = some (v, Z') → xv p l e rmX5_findRoute s m args below meth c D A 8 Q (cwC dA a Z) 0 0 43 [(0, .ref (a 13)), (1, .ref (a t1)), (2, .int x2), (3, .int x3), (4, .int x4), (5, .int y5), (6, .int y6)] [] := by
    intro n
    induction n with
    | zero =>
      intro y5 y6 Z hX
      exact absurd hX (by simp [sX5_findRoute_L43])
    | succ n ih =>
      intro y5 y6 Z hX
      rw [sX5_findRoute_L43] at hX
      refine xv_iload (pc := 43) hC dX5_findRoute_43 6 rfl ?_
      refine xv_bipush (v := 7) (pc := 45) hC dX5_findRoute_45 (by decide) ?_
      refine xv_icmp_ge (tgt := 100) (pc := 47) hC dX5_findRoute_47 (by decide) (fun c_2 => ?_) (fun c_2 => ?_)
      · replace hX := if_t c_2 hX
        refine xv_sub (lv' := [(0, .ref (a 13)), (1, .ref (a t1)), (2, .int x2), (3, .int x3), (4, .int x4), (5, .int y5)]) [0, 1, 2, 3, 4, 5] rfl ?_
        exact v100 y5 Z hX
      · replace hX := if_f c_2 hX
        refine xv_iload (pc := 50) hC dX5_findRoute_50 5 rfl ?_
        refine xv_iload (pc := 52) hC dX5_findRoute_52 4 rfl ?_
        refine xv_icmp_eq (tgt := 100) (pc := 54) hC dX5_findRoute_54 (by decide) (fun c_3 => ?_) (fun c_3 => ?_)
        · replace hX := if_t c_3 hX
          refine xv_sub (lv' := [(0, .ref (a 13)), (1, .ref (a t1)), (2, .int x2), (3, .int x3), (4, .int x4), (5, .int y5)]) [0, 1, 2, 3, 4, 5] rfl ?_
          exact v100 y5 Z hX
        · replace hX := if_f c_3 hX
          refine xv_aload_n (pc := 57) hC dX5_findRoute_57 0 rfl rfl ?_
          refine xv_aload_n (pc := 58) hC dX5_findRoute_58 1 rfl rfl ?_
          refine xv_iload_n (pc := 59) hC dX5_findRoute_59 2 rfl rfl ?_
          refine xv_iload (pc := 60) hC dX5_findRoute_60 5 rfl ?_
          obtain ⟨q_4, hq_4, hX⟩ := bnd_some hX
          refine xv_callVi0 (As := [.ref (a t1), .int x2, .int y5]) (pc := 62) hC (kX5_firstTrunkToGoal hl hq_4) fV_X5_firstTrunkToGoal wf_940 (rc_X5 (rfl : shC 13 = 10)) rfl ⟨Nat.le_of_ble_eq_true rfl, Nat.le_of_ble_eq_true rfl⟩ rfl (Nat.le_of_ble_eq_true rfl) dX5_findRoute_62 ⟨Nat.le_of_ble_eq_true rfl, Nat.le_of_ble_eq_true rfl⟩ ?_
          obtain ⟨y_5, hy_5, hX⟩ := nm_some hX
          refine xv_nmi hy_5 ?_
          refine xv_istore (pc := 65) (lv' := [(7, .int y_5), (0, .ref (a 13)), (1, .ref (a t1)), (2, .int x2), (3, .int x3), (4, .int x4), (5, .int y5), (6, .int y6)]) hC dX5_findRoute_65 (by decide) rfl ?_
          refine xv_aload_n (pc := 67) hC dX5_findRoute_67 1 rfl rfl ?_
          refine xgX5 (v := .ref (a 14)) (pc := 68) hC dX5_findRoute_68 (rfl : shC 13 = 10) 0 (by decide) wf_252 rfl ?_
          refine xv_iload (pc := 71) hC dX5_findRoute_71 7 rfl ?_
          refine xv_iload (pc := 73) hC dX5_findRoute_73 0 rfl ?_
          obtain ⟨h_6, hX⟩ := gd_some hX
          obtain ⟨Z_7, hZ_7, hX⟩ := nm_some hX
          refine xs_C11 (pc := 75) hC dX5_findRoute_75 (rfl : shC 14 = 11) h_6 hZ_7 ?_
          refine xv_aload_n (pc := 76) hC dX5_findRoute_76 1 rfl rfl ?_
          refine xv_iload (pc := 77) hC dX5_findRoute_77 7 rfl ?_
          refine xv_iconst (v := 1) (pc := 79) hC dX5_findRoute_79 (by decide) ?_
          refine xv_iadd (pc := 80) hC dX5_findRoute_80 ?_
          obtain ⟨Z_8, hZ_8, hX⟩ := nm_some hX
          refine xpX5 (ty := .int) (pc := 81) hC dX5_findRoute_81 (rfl : shC 13 = 10) 1 (by decide) wf_254 rfl (by decide +kernel) rfl rfl rfl hZ_8 ?_
          refine xv_aload_n (pc := 84) hC dX5_findRoute_84 2 rfl rfl ?_
          refine xv_iload (pc := 85) hC dX5_findRoute_85 0 rfl ?_
          refine xv_iload (pc := 87) hC dX5_findRoute_87 6 rfl ?_
          obtain ⟨q_9, hq_9, hX⟩ := bnd_some hX
          refine xv_callVi0 (As := [.int y_5, .int y5]) (pc := 89) hC (kX3_acrossFrom hl hq_9) fV_X3_acrossFrom wf_427 (rc_X3 g1) rfl ⟨Nat.le_of_ble_eq_true rfl, Nat.le_of_ble_eq_true rfl⟩ rfl (Nat.le_of_ble_eq_true rfl) dX5_findRoute_89 ⟨Nat.le_of_ble_eq_true rfl, Nat.le_of_ble_eq_true rfl⟩ ?_
          obtain ⟨y_10, hy_10, hX⟩ := nm_some hX
          refine xv_nmi hy_10 ?_
          refine xv_istore (pc := 92) (lv' := [(5, .int y_10), (7, .int y_5), (0, .ref (a 13)), (1, .ref (a t1)), (2, .int x2), (3, .int x3), (4, .int x4), (6, .int y6)]) hC dX5_findRoute_92 (by decide) rfl ?_
          obtain ⟨y_11, hy_11, hX⟩ := nm_some hX
          refine xv_iinc (pc := 94) (v := y_11) (lv' := [(6, .int y_11), (5, .int y_10), (7, .int y_5), (0, .ref (a 13)), (1, .ref (a t1)), (2, .int x2), (3, .int x3), (4, .int x4)]) hC dX5_findRoute_94 7 rfl (by rw [hy_11]; rfl) (by decide) rfl ?_
          refine xv_goto (tgt := 43) (pc := 97) hC dX5_findRoute_97 (by decide) ?_
          refine xv_sub (lv' := [(0, .ref (a 13)), (1, .ref (a t1)), (2, .int x2), (3, .int x3), (4, .int x4), (5, .int y_10), (6, .int y_11)]) [3, 4, 5, 6, 7, 1, 0] rfl ?_
          exact ih y_10 y_11 q_9.2 hX
  show xv p l e rmX5_findRoute s m args below meth c D A 8 Q (cwC dA a Z) 0 0 0 [(0, .ref (a 13)), (1, .ref (a t1)), (2, .int x2), (3, .int x3), (4, .int x4)] []
  refine xv_aload_n (pc := 0) hC dX5_findRoute_0 0 rfl rfl ?_
  refine xv_aload_n (pc := 1) hC dX5_findRoute_1 1 rfl rfl ?_
  refine xv_iload_n (pc := 2) hC dX5_findRoute_2 2 rfl rfl ?_
  refine xv_iload (pc := 3) hC dX5_findRoute_3 4 rfl ?_
  obtain ⟨q_12, hq_12, hX⟩ := bnd_some hX
  refine xv_callVv0 (As := [.ref (a t1), .int x2, .int x4]) (pc := 5) hC (kX5_measure hl hq_12) fV_X5_measure wf_407 (rc_X5 (rfl : shC 13 = 10)) rfl ⟨Nat.le_of_ble_eq_true rfl, Nat.le_of_ble_eq_true rfl⟩ rfl (Nat.le_of_ble_eq_true rfl) dX5_findRoute_5 ⟨Nat.le_of_ble_eq_true rfl, Nat.le_of_ble_eq_true rfl⟩ ?_
  refine xv_aload_n (pc := 8) hC dX5_findRoute_8 0 rfl rfl ?_
  refine xv_iconst (v := 0) (pc := 9) hC dX5_findRoute_9 (by decide) ?_
  obtain ⟨Z_13, hZ_13, hX⟩ := nm_some hX
  refine xpX5 (ty := .int) (pc := 10) hC dX5_findRoute_10 (rfl : shC 13 = 10) 1 (by decide) wf_254 rfl (by decide +kernel) rfl rfl rfl hZ_13 ?_
  refine xv_aload_n (pc := 13) hC dX5_findRoute_13 0 rfl rfl ?_
  refine xv_iload_n (pc := 14) hC dX5_findRoute_14 3 rfl rfl ?_
  obtain ⟨q_14, hq_14, hX⟩ := bnd_some hX
  refine xv_callVi0 (As := [.int x3]) (pc := 15) hC (kX5_distanceOf hl hq_14) fV_X5_distanceOf wf_431 (rc_X5 (rfl : shC 13 = 10)) rfl ⟨Nat.le_of_ble_eq_true rfl, Nat.le_of_ble_eq_true rfl⟩ rfl (Nat.le_of_ble_eq_true rfl) dX5_findRoute_15 ⟨Nat.le_of_ble_eq_true rfl, Nat.le_of_ble_eq_true rfl⟩ ?_
  refine xv_ldci (v := 1000000) (pc := 18) hC dX5_findRoute_18 wf_411 ?_
  refine xv_icmp_lt (tgt := 25) (pc := 20) hC dX5_findRoute_20 (by decide) (fun c_15 => ?_) (fun c_15 => ?_)
  · replace hX := if_t c_15 hX
    refine xv_aload_n (pc := 25) hC dX5_findRoute_25 0 rfl rfl ?_
    refine xv_aload_n (pc := 26) hC dX5_findRoute_26 0 rfl rfl ?_
    refine xv_iload_n (pc := 27) hC dX5_findRoute_27 3 rfl rfl ?_
    obtain ⟨q_16, hq_16, hX⟩ := bnd_some hX
    refine xv_callVi0 (As := [.int x3]) (pc := 28) hC (kX5_distanceOf hl hq_16) fV_X5_distanceOf wf_431 (rc_X5 (rfl : shC 13 = 10)) rfl ⟨Nat.le_of_ble_eq_true rfl, Nat.le_of_ble_eq_true rfl⟩ rfl (Nat.le_of_ble_eq_true rfl) dX5_findRoute_28 ⟨Nat.le_of_ble_eq_true rfl, Nat.le_of_ble_eq_true rfl⟩ ?_
    refine xv_bipush (v := 8) (pc := 31) hC dX5_findRoute_31 (by decide) ?_
    refine xv_idiv (pc := 33) hC dX5_findRoute_33 (by decide) ?_
    obtain ⟨Z_17, hZ_17, hX⟩ := nm_some hX
    refine xpX5 (ty := .int) (pc := 34) hC dX5_findRoute_34 (rfl : shC 13 = 10) 2 (by decide) wf_256 rfl (by decide +kernel) rfl rfl rfl hZ_17 ?_
    refine xv_iload_n (pc := 37) hC dX5_findRoute_37 3 rfl rfl ?_
    refine xv_istore (pc := 38) (lv' := [(5, .int x3), (0, .ref (a 13)), (1, .ref (a t1)), (2, .int x2), (3, .int x3), (4, .int x4)]) hC dX5_findRoute_38 (by decide) rfl ?_
    refine xv_iconst (v := 0) (pc := 40) hC dX5_findRoute_40 (by decide) ?_
    refine xv_istore (pc := 41) (lv' := [(6, .int 0), (5, .int x3), (0, .ref (a 13)), (1, .ref (a t1)), (2, .int x2), (3, .int x3), (4, .int x4)]) hC dX5_findRoute_41 (by decide) rfl ?_
    refine xv_sub (lv' := [(0, .ref (a 13)), (1, .ref (a t1)), (2, .int x2), (3, .int x3), (4, .int x4), (5, .int x3), (6, .int 0)]) [2, 3, 4, 5, 6, 1, 0] rfl ?_
    exact v43 3000 x3 0 Z_17 hX
  · replace hX := if_f c_15 hX
    refine xv_iconst (v := 0) (pc := 23) hC dX5_findRoute_23 (by decide) ?_
    obtain ⟨h1, h2⟩ := some_pair hX
    exact xv_eqi (W := cwC dA a) h1 h2 (hR _ _ _ _ (by rw [← h1]; exact (by decide)) (Nat.le_of_ble_eq_true rfl) (Nat.le_of_ble_eq_true rfl) dX5_findRoute_24)
def sX5_shortestLength (t1 : Nat) (x2 : Int32) (x3 : Int32) (x4 : Int32) (Z : ZZ) : Option (Int32 × ZZ) :=
  gd (shC t1 = 14) <|
  bnd (sX5_measure t1 x2 x3 Z) <| fun q_1 =>
  bnd (sX5_distanceOf x4 q_1) <| fun q_2 =>
  if q_2.1 < 1000000 then (
    bnd (sX5_distanceOf x4 q_2.2) <| fun q_4 =>
    some (q_4.1 / 8, q_4.2)) else (
    some ((-1), q_2.2))
abbrev rmX5_shortestLength : Room := { frames := 2, cells := 0, slots := 0, locals := 51 }
set_option maxHeartbeats 4000000 in
set_option maxRecDepth 100000 in
theorem kX5_shortestLength {l : Launch} {D : va_G} {dA : Nat → ClassId} {sa : String → Nat → Nat} {a : Nat → Nat} (hl : l.stackTraces = false) {t1 : Nat} {x2 : Int32} {x3 : Int32} {x4 : Int32} {Z Z' : ZZ} {v : Int32} (hX : sX5_shortestLength t1 x2 x3 x4 Z = some (v, Z')) : CTi l D dA sa yX5_shortestLength (wz yX5_shortestLength cX5_shortestLength 5 (some .int)) rmX5_shortestLength [.ref (a 13), .ref (a t1), .int x2, .int x3, .int x4] (cwC dA a Z) v (cwC dA a Z') := by
  refine xm_i hl (by decide +kernel) (Nat.le_of_ble_eq_true rfl) rfl ?_
  intro p e s m args below meth c A Q hC hR
  unfold sX5_shortestLength at hX
  obtain ⟨g1, hX⟩ := gd_some hX
  show xv p l e rmX5_shortestLength s m args below meth c D A 5 Q (cwC dA a Z) 0 0 0 [(0, .ref (a 13)), (1, .ref (a t1)), (2, .int x2), (3, .int x3), (4, .int x4)] []
  refine xv_aload_n (pc := 0) hC dX5_shortestLength_0 0 rfl rfl ?_
  refine xv_aload_n (pc := 1) hC dX5_shortestLength_1 1 rfl rfl ?_
  refine xv_iload_n (pc := 2) hC dX5_shortestLength_2 2 rfl rfl ?_
  refine xv_iload_n (pc := 3) hC dX5_shortestLength_3 3 rfl rfl ?_
  obtain ⟨q_1, hq_1, hX⟩ := bnd_some hX
  refine xv_callVv0 (As := [.ref (a t1), .int x2, .int x3]) (pc := 4) hC (kX5_measure hl hq_1) fV_X5_measure wf_407 (rc_X5 (rfl : shC 13 = 10)) rfl ⟨Nat.le_of_ble_eq_true rfl, Nat.le_of_ble_eq_true rfl⟩ rfl (Nat.le_of_ble_eq_true rfl) dX5_shortestLength_4 ⟨Nat.le_of_ble_eq_true rfl, Nat.le_of_ble_eq_true rfl⟩ ?_
  refine xv_aload_n (pc := 7) hC dX5_shortestLength_7 0 rfl rfl ?_
  refine xv_iload (pc := 8) hC dX5_shortestLength_8 4 rfl ?_
  obtain ⟨q_2, hq_2, hX⟩ := bnd_some hX
  refine xv_callVi0 (As := [.int x4]) (pc := 10) hC (kX5_distanceOf hl hq_2) fV_X5_distanceOf wf_431 (rc_X5 (rfl : shC 13 = 10)) rfl ⟨Nat.le_of_ble_eq_true rfl, Nat.le_of_ble_eq_true rfl⟩ rfl (Nat.le_of_ble_eq_true rfl) dX5_shortestLength_10 ⟨Nat.le_of_ble_eq_true rfl, Nat.le_of_ble_eq_true rfl⟩ ?_
  refine xv_ldci (v := 1000000) (pc := 13) hC dX5_shortestLength_13 wf_411 ?_
  refine xv_icmp_lt (tgt := 22) (pc := 15) hC dX5_shortestLength_15 (by decide) (fun c_3 => ?_) (fun c_3 => ?_)
  · replace hX := if_t c_3 hX
    refine xv_aload_n (pc := 22) hC dX5_shortestLength_22 0 rfl rfl ?_
    refine xv_iload (pc := 23) hC dX5_shortestLength_23 4 rfl ?_
    obtain ⟨q_4, hq_4, hX⟩ := bnd_some hX
    refine xv_callVi0 (As := [.int x4]) (pc := 25) hC (kX5_distanceOf hl hq_4) fV_X5_distanceOf wf_431 (rc_X5 (rfl : shC 13 = 10)) rfl ⟨Nat.le_of_ble_eq_true rfl, Nat.le_of_ble_eq_true rfl⟩ rfl (Nat.le_of_ble_eq_true rfl) dX5_shortestLength_25 ⟨Nat.le_of_ble_eq_true rfl, Nat.le_of_ble_eq_true rfl⟩ ?_
    refine xv_bipush (v := 8) (pc := 28) hC dX5_shortestLength_28 (by decide) ?_
    refine xv_idiv (pc := 30) hC dX5_shortestLength_30 (by decide) ?_
    obtain ⟨h1, h2⟩ := some_pair hX
    exact xv_eqi (W := cwC dA a) h1 h2 (hR _ _ _ _ (Nat.le_of_ble_eq_true rfl) (Nat.le_of_ble_eq_true rfl) dX5_shortestLength_31)
  · replace hX := if_f c_3 hX
    refine xv_iconst (v := (-1)) (pc := 18) hC dX5_shortestLength_18 (by decide) ?_
    refine xv_goto (tgt := 31) (pc := 19) hC dX5_shortestLength_19 (by decide) ?_
    obtain ⟨h1, h2⟩ := some_pair hX
    exact xv_eqi (W := cwC dA a) h1 h2 (hR _ _ _ _ (Nat.le_of_ble_eq_true rfl) (Nat.le_of_ble_eq_true rfl) dX5_shortestLength_31)
def sX5_relaxedLength_B118 (t1 : Nat) (x2 : Int32) (x3 : Int32) (x4 : Int32) (Z : ZZ) : Option (Int32 × ZZ) :=
  bnd (sX5_distanceOf x4 Z) <| fun q_1 =>
  if q_1.1 < 1000000 then (
    bnd (sX5_distanceOf x4 q_1.2) <| fun q_3 =>
    some (q_3.1, q_3.2)) else (
    some ((-1), q_1.2))
def sX5_relaxedLength_L30 (t1 : Nat) (x2 : Int32) (x3 : Int32) (x4 : Int32) (k18 : Int32 → ZZ → Option (Int32 × ZZ)) : Nat → Int32 → Int32 → ZZ → Option (Int32 × ZZ)
  | 0, _, _, _ => none
  | n + 1, y5, y6, Z =>
  if (gI Z t1 1) ≤ y6 then (
    nm (y5 + 1) <| fun y_5 =>
    k18 y_5 Z) else (
    bnd (sX7_hasBit x2 y6 Z) <| fun q_6 =>
    if q_6.1 = 0 then (
      nm (y6 + 1) <| fun y_8 =>
      sX5_relaxedLength_L30 t1 x2 x3 x4 k18 n y5 y_8 q_6.2) else (
      gd (vin y6 16 = true) <|
      nm (gI q_6.2 (t1 + 1) y6.toNatClampNeg) <| fun y_10 =>
      gd (vin y6 16 = true) <|
      nm (gI q_6.2 (t1 + 2) y6.toNatClampNeg) <| fun y_12 =>
      bnd (sX5_distanceOf y_10 q_6.2) <| fun q_13 =>
      gd (vin y6 16 = true) <|
      bnd (sX5_shorten y_12 (q_13.1 + (gI q_13.2 (t1 + 3) y6.toNatClampNeg)) q_13.2) <| fun q_15 =>
      bnd (sX5_distanceOf y_12 q_15) <| fun q_16 =>
      gd (vin y6 16 = true) <|
      bnd (sX5_shorten y_10 (q_16.1 + (gI q_16.2 (t1 + 3) y6.toNatClampNeg)) q_16.2) <| fun q_18 =>
      nm (y6 + 1) <| fun y_19 =>
      sX5_relaxedLength_L30 t1 x2 x3 x4 k18 n y5 y_19 q_18))
def sX5_relaxedLength_L18 (t1 : Nat) (x2 : Int32) (x3 : Int32) (x4 : Int32) : Nat → Int32 → ZZ → Option (Int32 × ZZ)
  | 0, _, _ => none
  | n + 1, y5, Z =>
  if (gI Z t1 0) ≤ y5 then (
    sX5_relaxedLength_B118 t1 x2 x3 x4 Z) else (
    sX5_relaxedLength_L30 t1 x2 x3 x4 (fun y5 Z => sX5_relaxedLength_L18 t1 x2 x3 x4 n y5 Z) 3000 y5 0 Z)
def sX5_relaxedLength (t1 : Nat) (x2 : Int32) (x3 : Int32) (x4 : Int32) (Z : ZZ) : Option (Int32 × ZZ) :=
  gd (shC t1 = 14) <|
  bnd (sJ_fill_5 15 1000000 Z) <| fun q_21 =>
  bnd (sX5_shorten x3 0 q_21) <| fun q_22 =>
  sX5_relaxedLength_L18 t1 x2 x3 x4 3000 1 q_22
abbrev rmX5_relaxedLength : Room := { frames := 1, cells := 0, slots := 0, locals := 23 }
set_option maxHeartbeats 4000000 in
set_option maxRecDepth 100000 in
theorem kX5_relaxedLength {l : Launch} {D : va_G} {dA : Nat → ClassId} {sa : String → Nat → Nat} {a : Nat → Nat} (hl : l.stackTraces = false) {t1 : Nat} {x2 : Int32} {x3 : Int32} {x4 : Int32} {Z Z' : ZZ} {v : Int32} (hX : sX5_relaxedLength t1 x2 x3 x4 Z = some (v, Z')) : CTi l D dA sa yX5_relaxedLength (wz yX5_relaxedLength cX5_relaxedLength 9 (some .int)) rmX5_relaxedLength [.ref (a 13), .ref (a t1), .int x2, .int x3, .int x4] (cwC dA a Z) v (cwC dA a Z') := by
  refine xm_i hl (by decide +kernel) (Nat.le_of_ble_eq_true rfl) rfl ?_
  intro p e s m args below meth c A Q hC hR
  unfold sX5_relaxedLength at hX
  obtain ⟨g1, hX⟩ := gd_some hX
  have v118 : ∀ (Z : ZZ), sX5_relaxedLength_B118 t1 x2 x3 x4 Z = some (v, Z') → xv p l e rmX5_relaxedLength s m args below meth c D A 9 Q (cwC dA a Z) 0 0 118 [(0, .ref (a 13)), (1, .ref (a t1)), (2, .int x2), (3, .int x3), (4, .int x4)] [] := by
    intro Z hX
    unfold sX5_relaxedLength_B118 at hX
    refine xv_aload_n (pc := 118) hC dX5_relaxedLength_118 0 rfl rfl ?_
    refine xv_iload (pc := 119) hC dX5_relaxedLength_119 4 rfl ?_
    obtain ⟨q_1, hq_1, hX⟩ := bnd_some hX
    refine xv_callVi0 (As := [.int x4]) (pc := 121) hC (kX5_distanceOf hl hq_1) fV_X5_distanceOf wf_431 (rc_X5 (rfl : shC 13 = 10)) rfl ⟨Nat.le_of_ble_eq_true rfl, Nat.le_of_ble_eq_true rfl⟩ rfl (Nat.le_of_ble_eq_true rfl) dX5_relaxedLength_121 ⟨Nat.le_of_ble_eq_true rfl, Nat.le_of_ble_eq_true rfl⟩ ?_
    refine xv_ldci (v := 1000000) (pc := 124) hC dX5_relaxedLength_124 wf_411 ?_
    refine xv_icmp_lt (tgt := 133) (pc := 126) hC dX5_relaxedLength_126 (by decide) (fun c_2 => ?_) (fun c_2 => ?_)
    · replace hX := if_t c_2 hX
      refine xv_aload_n (pc := 133) hC dX5_relaxedLength_133 0 rfl rfl ?_
      refine xv_iload (pc := 134) hC dX5_relaxedLength_134 4 rfl ?_
      obtain ⟨q_3, hq_3, hX⟩ := bnd_some hX
      refine xv_callVi0 (As := [.int x4]) (pc := 136) hC (kX5_distanceOf hl hq_3) fV_X5_distanceOf wf_431 (rc_X5 (rfl : shC 13 = 10)) rfl ⟨Nat.le_of_ble_eq_true rfl, Nat.le_of_ble_eq_true rfl⟩ rfl (Nat.le_of_ble_eq_true rfl) dX5_relaxedLength_136 ⟨Nat.le_of_ble_eq_true rfl, Nat.le_of_ble_eq_true rfl⟩ ?_
      obtain ⟨h1, h2⟩ := some_pair hX
      exact xv_eqi (W := cwC dA a) h1 h2 (hR _ _ _ _ (Nat.le_of_ble_eq_true rfl) (Nat.le_of_ble_eq_true rfl) dX5_relaxedLength_139)
    · replace hX := if_f c_2 hX
      refine xv_iconst (v := (-1)) (pc := 129) hC dX5_relaxedLength_129 (by decide) ?_
      refine xv_goto (tgt := 139) (pc := 130) hC dX5_relaxedLength_130 (by decide) ?_
      obtain ⟨h1, h2⟩ := some_pair hX
      exact xv_eqi (W := cwC dA a) h1 h2 (hR _ _ _ _ (Nat.le_of_ble_eq_true rfl) (Nat.le_of_ble_eq_true rfl) dX5_relaxedLength_139)
  have v30 : ∀ (k18 : Int32 → ZZ → Option (Int32 × ZZ)) (hk18 : ∀ (y5 : Int32) (Z : ZZ), k18 y5 Z = some (v, Z') → xv p l e rmX5_relaxedLength s m args below meth c D A 9 Q (cwC dA a Z) 0 0 18 [(0, .ref (a 13)), (1, .ref (a t1)), (2, .int x2), (3, .int x3), (4, .int x4), (5, .int y5)] []) (n : Nat) (y5 : Int32) (y6 : Int32) (Z : ZZ), sX5_relaxedLength_L30 t1 x2 x3 x4 k18 n y5 y6 Z = some (v, Z') → xv p l e rmX5_relaxedLength s m args below meth c D A 9 Q (cwC dA a Z) 0 0 30 [(0, .ref (a 13)), (1, .ref (a t1)), (2, .int x2), (3, .int x3), (4, .int x4), (5, .int y5), (6, .int y6)] [] := by
    intro k18 hk18 n
    induction n with
    | zero =>
      intro y5 y6 Z hX
      exact absurd hX (by simp [sX5_relaxedLength_L30])
    | succ n ih =>
      intro y5 y6 Z hX
      rw [sX5_relaxedLength_L30] at hX
      refine xv_iload (pc := 30) hC dX5_relaxedLength_30 6 rfl ?_
      refine xv_aload_n (pc := 32) hC dX5_relaxedLength_32 1 rfl rfl ?_
      refine xgX3 (v := .int (gI Z t1 1)) (pc := 33) hC dX5_relaxedLength_33 g1 1 (by decide) wf_56 rfl ?_
      refine xv_icmp_ge (tgt := 112) (pc := 36) hC dX5_relaxedLength_36 (by decide) (fun c_4 => ?_) (fun c_4 => ?_)
      · replace hX := if_t c_4 hX
        obtain ⟨y_5, hy_5, hX⟩ := nm_some hX
        refine xv_iinc (pc := 112) (v := y_5) (lv' := [(5, .int y_5), (0, .ref (a 13)), (1, .ref (a t1)), (2, .int x2), (3, .int x3), (4, .int x4), (6, .int y6)]) hC dX5_relaxedLength_112 5 rfl (by rw [hy_5]; rfl) (by decide) rfl ?_
        refine xv_goto (tgt := 18) (pc := 115) hC dX5_relaxedLength_115 (by decide) ?_
        refine xv_sub (lv' := [(0, .ref (a 13)), (1, .ref (a t1)), (2, .int x2), (3, .int x3), (4, .int x4), (5, .int y_5)]) [1, 2, 3, 4, 5, 0] rfl ?_
        exact hk18 y_5 Z hX
      · replace hX := if_f c_4 hX
        refine xv_iload_n (pc := 39) hC dX5_relaxedLength_39 2 rfl rfl ?_
        refine xv_iload (pc := 40) hC dX5_relaxedLength_40 6 rfl ?_
        obtain ⟨q_6, hq_6, hX⟩ := bnd_some hX
        refine xv_callNi0 (As := [.int x2, .int y6]) (host := "Switchboard") (pc := 42) hC (kX7_hasBit hl hq_6) fS_X7_hasBit (by decide +kernel) rfl ⟨Nat.le_of_ble_eq_true rfl, Nat.le_of_ble_eq_true rfl⟩ rfl (Nat.le_of_ble_eq_true rfl) dX5_relaxedLength_42 ⟨Nat.le_of_ble_eq_true rfl, Nat.le_of_ble_eq_true rfl⟩ ?_
        refine xv_if_eq (tgt := 106) (pc := 45) hC dX5_relaxedLength_45 (by decide) (fun c_7 => ?_) (fun c_7 => ?_)
        · replace hX := if_t c_7 hX
          obtain ⟨y_8, hy_8, hX⟩ := nm_some hX
          refine xv_iinc (pc := 106) (v := y_8) (lv' := [(6, .int y_8), (0, .ref (a 13)), (1, .ref (a t1)), (2, .int x2), (3, .int x3), (4, .int x4), (5, .int y5)]) hC dX5_relaxedLength_106 6 rfl (by rw [hy_8]; rfl) (by decide) rfl ?_
          refine xv_goto (tgt := 30) (pc := 109) hC dX5_relaxedLength_109 (by decide) ?_
          refine xv_sub (lv' := [(0, .ref (a 13)), (1, .ref (a t1)), (2, .int x2), (3, .int x3), (4, .int x4), (5, .int y5), (6, .int y_8)]) [1, 2, 3, 4, 5, 6, 0] rfl ?_
          exact ih y5 y_8 q_6.2 hX
        · replace hX := if_f c_7 hX
          refine xv_aload_n (pc := 48) hC dX5_relaxedLength_48 1 rfl rfl ?_
          refine xgX3 (v := .ref (a (t1 + 1))) (pc := 49) hC dX5_relaxedLength_49 g1 2 (by decide) wf_60 rfl ?_
          refine xv_iload (pc := 52) hC dX5_relaxedLength_52 6 rfl ?_
          obtain ⟨h_9, hX⟩ := gd_some hX
          refine xl_C12 (pc := 54) hC dX5_relaxedLength_54 (sh_X3_ones g1) h_9 ?_
          obtain ⟨y_10, hy_10, hX⟩ := nm_some hX
          refine xv_nmi hy_10 ?_
          refine xv_istore (pc := 55) (lv' := [(7, .int y_10), (0, .ref (a 13)), (1, .ref (a t1)), (2, .int x2), (3, .int x3), (4, .int x4), (5, .int y5), (6, .int y6)]) hC dX5_relaxedLength_55 (by decide) rfl ?_
          refine xv_aload_n (pc := 57) hC dX5_relaxedLength_57 2 rfl rfl ?_
          refine xgX3 (v := .ref (a (t1 + 2))) (pc := 58) hC dX5_relaxedLength_58 g1 3 (by decide) wf_63 rfl ?_
          refine xv_iload (pc := 61) hC dX5_relaxedLength_61 7 rfl ?_
          obtain ⟨h_11, hX⟩ := gd_some hX
          refine xl_C12 (pc := 63) hC dX5_relaxedLength_63 (sh_X3_others g1) h_11 ?_
          obtain ⟨y_12, hy_12, hX⟩ := nm_some hX
          refine xv_nmi hy_12 ?_
          refine xv_istore (pc := 64) (lv' := [(8, .int y_12), (7, .int y_10), (0, .ref (a 13)), (1, .ref (a t1)), (2, .int x2), (3, .int x3), (4, .int x4), (5, .int y5), (6, .int y6)]) hC dX5_relaxedLength_64 (by decide) rfl ?_
          refine xv_aload_n (pc := 66) hC dX5_relaxedLength_66 2 rfl rfl ?_
          refine xv_iload (pc := 67) hC dX5_relaxedLength_67 0 rfl ?_
          refine xv_aload_n (pc := 69) hC dX5_relaxedLength_69 2 rfl rfl ?_
          refine xv_iload (pc := 70) hC dX5_relaxedLength_70 1 rfl ?_
          obtain ⟨q_13, hq_13, hX⟩ := bnd_some hX
          refine xv_callVi0 (As := [.int y_10]) (pc := 72) hC (kX5_distanceOf hl hq_13) fV_X5_distanceOf wf_431 (rc_X5 (rfl : shC 13 = 10)) rfl ⟨Nat.le_of_ble_eq_true rfl, Nat.le_of_ble_eq_true rfl⟩ rfl (Nat.le_of_ble_eq_true rfl) dX5_relaxedLength_72 ⟨Nat.le_of_ble_eq_true rfl, Nat.le_of_ble_eq_true rfl⟩ ?_
          refine xv_aload_n (pc := 75) hC dX5_relaxedLength_75 3 rfl rfl ?_
          refine xgX3 (v := .ref (a (t1 + 3))) (pc := 76) hC dX5_relaxedLength_76 g1 4 (by decide) wf_66 rfl ?_
          refine xv_iload (pc := 79) hC dX5_relaxedLength_79 8 rfl ?_
          obtain ⟨h_14, hX⟩ := gd_some hX
          refine xl_C12 (pc := 81) hC dX5_relaxedLength_81 (sh_X3_lengths g1) h_14 ?_
          refine xv_iadd (pc := 82) hC dX5_relaxedLength_82 ?_
          obtain ⟨q_15, hq_15, hX⟩ := bnd_some hX
          refine xv_callVv0 (As := [.int y_12, .int (q_13.1 + (gI q_13.2 (t1 + 3) y6.toNatClampNeg))]) (pc := 83) hC (kX5_shorten hl hq_15) fV_X5_shorten wf_415 (rc_X5 (rfl : shC 13 = 10)) rfl ⟨Nat.le_of_ble_eq_true rfl, Nat.le_of_ble_eq_true rfl⟩ rfl (Nat.le_of_ble_eq_true rfl) dX5_relaxedLength_83 ⟨Nat.le_of_ble_eq_true rfl, Nat.le_of_ble_eq_true rfl⟩ ?_
          refine xv_aload_n (pc := 86) hC dX5_relaxedLength_86 2 rfl rfl ?_
          refine xv_iload (pc := 87) hC dX5_relaxedLength_87 1 rfl ?_
          refine xv_aload_n (pc := 89) hC dX5_relaxedLength_89 2 rfl rfl ?_
          refine xv_iload (pc := 90) hC dX5_relaxedLength_90 0 rfl ?_
          obtain ⟨q_16, hq_16, hX⟩ := bnd_some hX
          refine xv_callVi0 (As := [.int y_12]) (pc := 92) hC (kX5_distanceOf hl hq_16) fV_X5_distanceOf wf_431 (rc_X5 (rfl : shC 13 = 10)) rfl ⟨Nat.le_of_ble_eq_true rfl, Nat.le_of_ble_eq_true rfl⟩ rfl (Nat.le_of_ble_eq_true rfl) dX5_relaxedLength_92 ⟨Nat.le_of_ble_eq_true rfl, Nat.le_of_ble_eq_true rfl⟩ ?_
          refine xv_aload_n (pc := 95) hC dX5_relaxedLength_95 3 rfl rfl ?_
          refine xgX3 (v := .ref (a (t1 + 3))) (pc := 96) hC dX5_relaxedLength_96 g1 4 (by decide) wf_66 rfl ?_
          refine xv_iload (pc := 99) hC dX5_relaxedLength_99 8 rfl ?_
          obtain ⟨h_17, hX⟩ := gd_some hX
          refine xl_C12 (pc := 101) hC dX5_relaxedLength_101 (sh_X3_lengths g1) h_17 ?_
          refine xv_iadd (pc := 102) hC dX5_relaxedLength_102 ?_
          obtain ⟨q_18, hq_18, hX⟩ := bnd_some hX
          refine xv_callVv0 (As := [.int y_10, .int (q_16.1 + (gI q_16.2 (t1 + 3) y6.toNatClampNeg))]) (pc := 103) hC (kX5_shorten hl hq_18) fV_X5_shorten wf_415 (rc_X5 (rfl : shC 13 = 10)) rfl ⟨Nat.le_of_ble_eq_true rfl, Nat.le_of_ble_eq_true rfl⟩ rfl (Nat.le_of_ble_eq_true rfl) dX5_relaxedLength_103 ⟨Nat.le_of_ble_eq_true rfl, Nat.le_of_ble_eq_true rfl⟩ ?_
          obtain ⟨y_19, hy_19, hX⟩ := nm_some hX
          refine xv_iinc (pc := 106) (v := y_19) (lv' := [(6, .int y_19), (8, .int y_12), (7, .int y_10), (0, .ref (a 13)), (1, .ref (a t1)), (2, .int x2), (3, .int x3), (4, .int x4), (5, .int y5)]) hC dX5_relaxedLength_106 8 rfl (by rw [hy_19]; rfl) (by decide) rfl ?_
          refine xv_goto (tgt := 30) (pc := 109) hC dX5_relaxedLength_109 (by decide) ?_
          refine xv_sub (lv' := [(0, .ref (a 13)), (1, .ref (a t1)), (2, .int x2), (3, .int x3), (4, .int x4), (5, .int y5), (6, .int y_19)]) [3, 4, 5, 6, 7, 8, 0] rfl ?_
          exact ih y5 y_19 q_18 hX
  have v18 : ∀ (n : Nat) (y5 : Int32) (Z : ZZ), sX5_relaxedLength_L18 t1 x2 x3 x4 n y5 Z = some (v, Z') → xv p l e rmX5_relaxedLength s m args below meth c D A 9 Q (cwC dA a Z) 0 0 18 [(0, .ref (a 13)), (1, .ref (a t1)), (2, .int x2), (3, .int x3), (4, .int x4), (5, .int y5)] [] := by
    intro n
    induction n with
    | zero =>
      intro y5 Z hX
      exact absurd hX (by simp [sX5_relaxedLength_L18])
    | succ n ih =>
      intro y5 Z hX
      rw [sX5_relaxedLength_L18] at hX
      refine xv_iload (pc := 18) hC dX5_relaxedLength_18 5 rfl ?_
      refine xv_aload_n (pc := 20) hC dX5_relaxedLength_20 1 rfl rfl ?_
      refine xgX3 (v := .int (gI Z t1 0)) (pc := 21) hC dX5_relaxedLength_21 g1 0 (by decide) wf_54 rfl ?_
      refine xv_icmp_ge (tgt := 118) (pc := 24) hC dX5_relaxedLength_24 (by decide) (fun c_20 => ?_) (fun c_20 => ?_)
      · replace hX := if_t c_20 hX
        refine xv_sub (lv' := [(0, .ref (a 13)), (1, .ref (a t1)), (2, .int x2), (3, .int x3), (4, .int x4)]) [0, 1, 2, 3, 4] rfl ?_
        exact v118 Z hX
      · replace hX := if_f c_20 hX
        refine xv_iconst (v := 0) (pc := 27) hC dX5_relaxedLength_27 (by decide) ?_
        refine xv_istore (pc := 28) (lv' := [(6, .int 0), (0, .ref (a 13)), (1, .ref (a t1)), (2, .int x2), (3, .int x3), (4, .int x4), (5, .int y5)]) hC dX5_relaxedLength_28 (by decide) rfl ?_
        refine xv_sub (lv' := [(0, .ref (a 13)), (1, .ref (a t1)), (2, .int x2), (3, .int x3), (4, .int x4), (5, .int y5), (6, .int 0)]) [1, 2, 3, 4, 5, 6, 0] rfl ?_
        exact v30 _ ih 3000 y5 0 Z hX
  show xv p l e rmX5_relaxedLength s m args below meth c D A 9 Q (cwC dA a Z) 0 0 0 [(0, .ref (a 13)), (1, .ref (a t1)), (2, .int x2), (3, .int x3), (4, .int x4)] []
  refine xv_aload_n (pc := 0) hC dX5_relaxedLength_0 0 rfl rfl ?_
  refine xgX5 (v := .ref (a 15)) (pc := 1) hC dX5_relaxedLength_1 (rfl : shC 13 = 10) 3 (by decide) wf_258 rfl ?_
  refine xv_ldci (v := 1000000) (pc := 4) hC dX5_relaxedLength_4 wf_411 ?_
  obtain ⟨q_21, hq_21, hX⟩ := bnd_some hX
  refine xv_callSv0 (As := [.ref (a 15), .int 1000000]) (pc := 6) hC (kJ_fill_5 hl hq_21) fS_J7_fill_53178 wf_412 rfl ⟨Nat.le_of_ble_eq_true rfl, Nat.le_of_ble_eq_true rfl⟩ rfl (Nat.le_of_ble_eq_true rfl) dX5_relaxedLength_6 ⟨Nat.le_of_ble_eq_true rfl, Nat.le_of_ble_eq_true rfl⟩ ?_
  refine xv_aload_n (pc := 9) hC dX5_relaxedLength_9 0 rfl rfl ?_
  refine xv_iload_n (pc := 10) hC dX5_relaxedLength_10 3 rfl rfl ?_
  refine xv_iconst (v := 0) (pc := 11) hC dX5_relaxedLength_11 (by decide) ?_
  obtain ⟨q_22, hq_22, hX⟩ := bnd_some hX
  refine xv_callVv0 (As := [.int x3, .int 0]) (pc := 12) hC (kX5_shorten hl hq_22) fV_X5_shorten wf_415 (rc_X5 (rfl : shC 13 = 10)) rfl ⟨Nat.le_of_ble_eq_true rfl, Nat.le_of_ble_eq_true rfl⟩ rfl (Nat.le_of_ble_eq_true rfl) dX5_relaxedLength_12 ⟨Nat.le_of_ble_eq_true rfl, Nat.le_of_ble_eq_true rfl⟩ ?_
  refine xv_iconst (v := 1) (pc := 15) hC dX5_relaxedLength_15 (by decide) ?_
  refine xv_istore (pc := 16) (lv' := [(5, .int 1), (0, .ref (a 13)), (1, .ref (a t1)), (2, .int x2), (3, .int x3), (4, .int x4)]) hC dX5_relaxedLength_16 (by decide) rfl ?_
  refine xv_sub (lv' := [(0, .ref (a 13)), (1, .ref (a t1)), (2, .int x2), (3, .int x3), (4, .int x4), (5, .int 1)]) [1, 2, 3, 4, 5, 0] rfl ?_
  exact v18 3000 1 q_22 hX
