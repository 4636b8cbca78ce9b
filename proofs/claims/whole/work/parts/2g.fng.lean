def sX8_finds_B120 (x1 : Int32) (x2 : Int32) (x3 : Int32) (k28 : Int32 → ZZ → Option (Int32 × ZZ)) (y4 : Int32) (y5 : Int32) (Z : ZZ) : Option (Int32 × ZZ) :=
  gd (vin (gI Z 0 13) 8 = true) <|
  nm (pI Z 8 (gI Z 0 13).toNatClampNeg y5) <| fun Z_2 =>
  nm (pI Z_2 0 13 ((gI Z_2 0 13) + 1)) <| fun Z_3 =>
  bnd (sX8_beyond y5 y4 Z_3) <| fun q_4 =>
  nm (q_4.1) <| fun y_5 =>
  k28 y_5 q_4.2
def sX8_finds_L37 (x1 : Int32) (x2 : Int32) (x3 : Int32) (k28 : Int32 → ZZ → Option (Int32 × ZZ)) : Nat → Int32 → Int32 → ZZ → Option (Int32 × ZZ)
  | 0, _, _, _ => none
  | n + 1, y4, y5, Z =>
  bnd (sX8_isFree y5 x3 Z) <| fun q_6 =>
  if q_6.1 = 0 then (
    nm (y5 + 1) <| fun y_8 =>
    sX8_finds_L37 x1 x2 x3 k28 n y4 y_8 q_6.2) else (
    bnd (sX8_touches y5 y4 q_6.2) <| fun q_9 =>
    if q_9.1 = 0 then (
      nm (y5 + 1) <| fun y_11 =>
      sX8_finds_L37 x1 x2 x3 k28 n y4 y_11 q_9.2) else (
      gd (vin y4 8 = true) <|
      bnd (sX8_t y5 2 q_9.2) <| fun q_13 =>
      bnd (sX8_beyond y5 y4 q_13.2) <| fun q_14 =>
      gd (vin q_14.1 8 = true) <|
      if (gI q_9.2 6 y4.toNatClampNeg) = (q_13.1 + (gI q_14.2 6 q_14.1.toNatClampNeg)) then (
        gd (vin y4 8 = true) <|
        bnd (sX8_beyond y5 y4 q_14.2) <| fun q_19 =>
        gd (vin q_19.1 8 = true) <|
        if (gI q_14.2 7 y4.toNatClampNeg) = (1 + (gI q_19.2 7 q_19.1.toNatClampNeg)) then (
          sX8_finds_B120 x1 x2 x3 k28 y4 y5 q_19.2) else (
          nm (y5 + 1) <| fun y_22 =>
          sX8_finds_L37 x1 x2 x3 k28 n y4 y_22 q_19.2)) else (
        nm (y5 + 1) <| fun y_17 =>
        sX8_finds_L37 x1 x2 x3 k28 n y4 y_17 q_14.2)))
def sX8_finds_L28 (x1 : Int32) (x2 : Int32) (x3 : Int32) : Nat → Int32 → ZZ → Option (Int32 × ZZ)
  | 0, _, _ => none
  | n + 1, y4, Z =>
  if y4 = x2 then (
    some (1, Z)) else (
    sX8_finds_L37 x1 x2 x3 (fun y4 Z => sX8_finds_L28 x1 x2 x3 n y4 Z) 3000 y4 0 Z)
def sX8_finds (x1 : Int32) (x2 : Int32) (x3 : Int32) (Z : ZZ) : Option (Int32 × ZZ) :=
  bnd (sX8_measures x2 x3 Z) <| fun q_24 =>
  nm (pI q_24 0 13 0) <| fun Z_25 =>
  gd (vin x1 8 = true) <|
  if (gI Z_25 6 x1.toNatClampNeg) = 9999 then (
    some (0, Z_25)) else (
    sX8_finds_L28 x1 x2 x3 3000 x1 Z_25)
abbrev rmX8_finds : Room := { frames := 5, cells := 0, slots := 0, locals := 114 }
set_option maxHeartbeats 4000000 in
set_option maxRecDepth 100000 in
theorem kX8_finds {l : Launch} {D : va_G} {dA : Nat → ClassId} {sa : String → Nat → Nat} {a : Nat → Nat} (hl : l.stackTraces = false) {x1 : Int32} {x2 : Int32} {x3 : Int32} {Z Z' : ZZ} {v : Int32} (hX : sX8_finds x1 x2 x3 Z = some (v, Z')) : CTi l D dA sa yX8_finds (wz yX8_finds cX8_finds 6 (some .boolean)) rmX8_finds [.ref (a 0), .int x1, .int x2, .int x3] (cwR dA a Z) v (cwR dA a Z') := by
  refine xm_z hl (by decide +kernel) (Nat.le_of_ble_eq_true rfl) rfl ?_
  intro p e s m args below meth c A Q hC hR
  unfold sX8_finds at hX
  have v120 : ∀ (k28 : Int32 → ZZ → Option (Int32 × ZZ)) (hk28 : ∀ (y4 : Int32) (Z : ZZ), k28 y4 Z = some (v, Z') → xv p l e rmX8_finds s m args below meth c D A 6 Q (cwR dA a Z) 0 0 28 [(0, .ref (a 0)), (1, .int x1), (2, .int x2), (3, .int x3), (4, .int y4)] []) (y4 : Int32) (y5 : Int32) (Z : ZZ), sX8_finds_B120 x1 x2 x3 k28 y4 y5 Z = some (v, Z') → xv p l e rmX8_finds s m args below meth c D A 6 Q (cwR dA a Z) 0 0 120 [(0, .ref (a 0)), (1, .int x1), (2, .int x2), (3, .int x3), (4, .int y4), (5, .int y5)] [] := by
    intro k28 hk28 y4 y5 Z hX
    unfold sX8_finds_B120 at hX
    refine xv_aload_n (pc := 120) hC dX8_finds_120 0 rfl rfl ?_
    refine xgX8 (v := .ref (a 8)) (pc := 121) hC dX8_finds_121 (rfl : shR 0 = 1) 7 (by decide) wf_1560 rfl ?_
    refine xv_aload_n (pc := 124) hC dX8_finds_124 0 rfl rfl ?_
    refine xgX8 (v := .int (gI Z 0 13)) (pc := 125) hC dX8_finds_125 (rfl : shR 0 = 1) 13 (by decide) wf_1566 rfl ?_
    refine xv_iload (pc := 128) hC dX8_finds_128 5 rfl ?_
    obtain ⟨h_1, hX⟩ := gd_some hX
    obtain ⟨Z_2, hZ_2, hX⟩ := nm_some hX
    refine xs_R5 (pc := 130) hC dX8_finds_130 (rfl : shR 8 = 5) h_1 hZ_2 ?_
    refine xv_aload_n (pc := 131) hC dX8_finds_131 0 rfl rfl ?_
    refine xv_dup (pc := 132) hC dX8_finds_132 rfl ?_
    refine xgX8 (v := .int (gI Z_2 0 13)) (pc := 133) hC dX8_finds_133 (rfl : shR 0 = 1) 13 (by decide) wf_1566 rfl ?_
    refine xv_iconst (v := 1) (pc := 136) hC dX8_finds_136 (by decide) ?_
    refine xv_iadd (pc := 137) hC dX8_finds_137 ?_
    obtain ⟨Z_3, hZ_3, hX⟩ := nm_some hX
    refine xpX8 (ty := .int) (pc := 138) hC dX8_finds_138 (rfl : shR 0 = 1) 13 (by decide) wf_1566 rfl (by decide +kernel) rfl rfl rfl hZ_3 ?_
    refine xv_aload_n (pc := 141) hC dX8_finds_141 0 rfl rfl ?_
    refine xv_iload (pc := 142) hC dX8_finds_142 5 rfl ?_
    refine xv_iload (pc := 144) hC dX8_finds_144 4 rfl ?_
    obtain ⟨q_4, hq_4, hX⟩ := bnd_some hX
    refine xv_callVi0 (As := [.int y5, .int y4]) (pc := 146) hC (kX8_beyond hl hq_4) fV_X8_beyond wf_1743 (rc_X8 (rfl : shR 0 = 1)) rfl ⟨Nat.le_of_ble_eq_true rfl, Nat.le_of_ble_eq_true rfl⟩ rfl (Nat.le_of_ble_eq_true rfl) dX8_finds_146 ⟨Nat.le_of_ble_eq_true rfl, Nat.le_of_ble_eq_true rfl⟩ ?_
    obtain ⟨y_5, hy_5, hX⟩ := nm_some hX
    refine xv_nmi hy_5 ?_
    refine xv_istore (pc := 149) (lv' := [(4, .int y_5), (0, .ref (a 0)), (1, .int x1), (2, .int x2), (3, .int x3), (5, .int y5)]) hC dX8_finds_149 (by decide) rfl ?_
    refine xv_goto (tgt := 28) (pc := 151) hC dX8_finds_151 (by decide) ?_
    refine xv_sub (lv' := [(0, .ref (a 0)), (1, .int x1), (2, .int x2), (3, .int x3), (4, .int y_5)]) [1, 2, 3, 4, 0] rfl ?_
    exact hk28 y_5 q_4.2 hX
  have v37 : ∀ (k28 : Int32 → ZZ → Option (Int32 × ZZ)) (hk28 : ∀ (y4 : Int32) (Z : ZZ), k28 y4 Z = some (v, Z') → xv p l e rmX8_finds s m args below meth c D A 6 Q (cwR dA a Z) 0 0 28 [(0, .ref (a 0)), (1, .int x1), (2, .int x2), (3, .int x3), (4, .int y4)] []) (n : Nat) (y4 : Int32) (y5 : Int32) (Z : ZZ), sX8_finds_L37 x1 x2 x3 k28 n y4 y5 Z = some (v, Z') → xv p l e rmX8_finds s m args below meth c D A 6 Q (cwR dA a Z) 0 0 37 [(0, .ref (a 0)), (1, .int x1), (2, .int x2), (3, .int x3), (4, .int y4), (5, .int y5)] [] := by
    intro k28 hk28 n
    induction n with
    | zero =>
      intro y4 y5 Z hX
      exact absurd hX (by simp [sX8_finds_L37])
    | succ n ih =>
      intro y4 y5 Z hX
      rw [sX8_finds_L37] at hX
      refine xv_aload_n (pc := 37) hC dX8_finds_37 0 rfl rfl ?_
      refine xv_iload (pc := 38) hC dX8_finds_38 5 rfl ?_
      refine xv_iload_n (pc := 40) hC dX8_finds_40 3 rfl rfl ?_
      obtain ⟨q_6, hq_6, hX⟩ := bnd_some hX
      refine xv_callVi0 (As := [.int y5, .int x3]) (pc := 41) hC (kX8_isFree hl hq_6) fV_X8_isFree wf_1735 (rc_X8 (rfl : shR 0 = 1)) rfl ⟨Nat.le_of_ble_eq_true rfl, Nat.le_of_ble_eq_true rfl⟩ rfl (Nat.le_of_ble_eq_true rfl) dX8_finds_41 ⟨Nat.le_of_ble_eq_true rfl, Nat.le_of_ble_eq_true rfl⟩ ?_
      refine xv_if_eq (tgt := 114) (pc := 44) hC dX8_finds_44 (by decide) (fun c_7 => ?_) (fun c_7 => ?_)
      · replace hX := if_t c_7 hX
        obtain ⟨y_8, hy_8, hX⟩ := nm_some hX
        refine xv_iinc (pc := 114) (v := y_8) (lv' := [(5, .int y_8), (0, .ref (a 0)), (1, .int x1), (2, .int x2), (3, .int x3), (4, .int y4)]) hC dX8_finds_114 5 rfl (by rw [hy_8]; rfl) (by decide) rfl ?_
        refine xv_goto (tgt := 37) (pc := 117) hC dX8_finds_117 (by decide) ?_
        refine xv_sub (lv' := [(0, .ref (a 0)), (1, .int x1), (2, .int x2), (3, .int x3), (4, .int y4), (5, .int y_8)]) [1, 2, 3, 4, 5, 0] rfl ?_
        exact ih y4 y_8 q_6.2 hX
      · replace hX := if_f c_7 hX
        refine xv_aload_n (pc := 47) hC dX8_finds_47 0 rfl rfl ?_
        refine xv_iload (pc := 48) hC dX8_finds_48 5 rfl ?_
        refine xv_iload (pc := 50) hC dX8_finds_50 4 rfl ?_
        obtain ⟨q_9, hq_9, hX⟩ := bnd_some hX
        refine xv_callVi0 (As := [.int y5, .int y4]) (pc := 52) hC (kX8_touches hl hq_9) fV_X8_touches wf_1747 (rc_X8 (rfl : shR 0 = 1)) rfl ⟨Nat.le_of_ble_eq_true rfl, Nat.le_of_ble_eq_true rfl⟩ rfl (Nat.le_of_ble_eq_true rfl) dX8_finds_52 ⟨Nat.le_of_ble_eq_true rfl, Nat.le_of_ble_eq_true rfl⟩ ?_
        refine xv_if_eq (tgt := 114) (pc := 55) hC dX8_finds_55 (by decide) (fun c_10 => ?_) (fun c_10 => ?_)
        · replace hX := if_t c_10 hX
          obtain ⟨y_11, hy_11, hX⟩ := nm_some hX
          refine xv_iinc (pc := 114) (v := y_11) (lv' := [(5, .int y_11), (0, .ref (a 0)), (1, .int x1), (2, .int x2), (3, .int x3), (4, .int y4)]) hC dX8_finds_114 5 rfl (by rw [hy_11]; rfl) (by decide) rfl ?_
          refine xv_goto (tgt := 37) (pc := 117) hC dX8_finds_117 (by decide) ?_
          refine xv_sub (lv' := [(0, .ref (a 0)), (1, .int x1), (2, .int x2), (3, .int x3), (4, .int y4), (5, .int y_11)]) [1, 2, 3, 4, 5, 0] rfl ?_
          exact ih y4 y_11 q_9.2 hX
        · replace hX := if_f c_10 hX
          refine xv_aload_n (pc := 58) hC dX8_finds_58 0 rfl rfl ?_
          refine xgX8 (v := .ref (a 6)) (pc := 59) hC dX8_finds_59 (rfl : shR 0 = 1) 5 (by decide) wf_1558 rfl ?_
          refine xv_iload (pc := 62) hC dX8_finds_62 4 rfl ?_
          obtain ⟨h_12, hX⟩ := gd_some hX
          refine xl_R5 (pc := 64) hC dX8_finds_64 (rfl : shR 6 = 5) h_12 ?_
          refine xv_aload_n (pc := 65) hC dX8_finds_65 0 rfl rfl ?_
          refine xv_iload (pc := 66) hC dX8_finds_66 5 rfl ?_
          refine xv_iconst (v := 2) (pc := 68) hC dX8_finds_68 (by decide) ?_
          obtain ⟨q_13, hq_13, hX⟩ := bnd_some hX
          refine xv_callVi0 (As := [.int y5, .int 2]) (pc := 69) hC (kX8_t hl hq_13) fV_X8_t wf_1703 (rc_X8 (rfl : shR 0 = 1)) rfl ⟨Nat.le_of_ble_eq_true rfl, Nat.le_of_ble_eq_true rfl⟩ rfl (Nat.le_of_ble_eq_true rfl) dX8_finds_69 ⟨Nat.le_of_ble_eq_true rfl, Nat.le_of_ble_eq_true rfl⟩ ?_
          refine xv_aload_n (pc := 72) hC dX8_finds_72 0 rfl rfl ?_
          refine xgX8 (v := .ref (a 6)) (pc := 73) hC dX8_finds_73 (rfl : shR 0 = 1) 5 (by decide) wf_1558 rfl ?_
          refine xv_aload_n (pc := 76) hC dX8_finds_76 0 rfl rfl ?_
          refine xv_iload (pc := 77) hC dX8_finds_77 5 rfl ?_
          refine xv_iload (pc := 79) hC dX8_finds_79 4 rfl ?_
          obtain ⟨q_14, hq_14, hX⟩ := bnd_some hX
          refine xv_callVi0 (As := [.int y5, .int y4]) (pc := 81) hC (kX8_beyond hl hq_14) fV_X8_beyond wf_1743 (rc_X8 (rfl : shR 0 = 1)) rfl ⟨Nat.le_of_ble_eq_true rfl, Nat.le_of_ble_eq_true rfl⟩ rfl (Nat.le_of_ble_eq_true rfl) dX8_finds_81 ⟨Nat.le_of_ble_eq_true rfl, Nat.le_of_ble_eq_true rfl⟩ ?_
          obtain ⟨h_15, hX⟩ := gd_some hX
          refine xl_R5 (pc := 84) hC dX8_finds_84 (rfl : shR 6 = 5) h_15 ?_
          refine xv_iadd (pc := 85) hC dX8_finds_85 ?_
          refine xv_icmp_ne (tgt := 114) (pc := 86) hC dX8_finds_86 (by decide) (fun c_16 => ?_) (fun c_16 => ?_)
          · replace hX := if_f c_16 hX
            obtain ⟨y_17, hy_17, hX⟩ := nm_some hX
            refine xv_iinc (pc := 114) (v := y_17) (lv' := [(5, .int y_17), (0, .ref (a 0)), (1, .int x1), (2, .int x2), (3, .int x3), (4, .int y4)]) hC dX8_finds_114 5 rfl (by rw [hy_17]; rfl) (by decide) rfl ?_
            refine xv_goto (tgt := 37) (pc := 117) hC dX8_finds_117 (by decide) ?_
            refine xv_sub (lv' := [(0, .ref (a 0)), (1, .int x1), (2, .int x2), (3, .int x3), (4, .int y4), (5, .int y_17)]) [1, 2, 3, 4, 5, 0] rfl ?_
            exact ih y4 y_17 q_14.2 hX
          · replace hX := if_t c_16 hX
            refine xv_aload_n (pc := 89) hC dX8_finds_89 0 rfl rfl ?_
            refine xgX8 (v := .ref (a 7)) (pc := 90) hC dX8_finds_90 (rfl : shR 0 = 1) 6 (by decide) wf_1559 rfl ?_
            refine xv_iload (pc := 93) hC dX8_finds_93 4 rfl ?_
            obtain ⟨h_18, hX⟩ := gd_some hX
            refine xl_R5 (pc := 95) hC dX8_finds_95 (rfl : shR 7 = 5) h_18 ?_
            refine xv_iconst (v := 1) (pc := 96) hC dX8_finds_96 (by decide) ?_
            refine xv_aload_n (pc := 97) hC dX8_finds_97 0 rfl rfl ?_
            refine xgX8 (v := .ref (a 7)) (pc := 98) hC dX8_finds_98 (rfl : shR 0 = 1) 6 (by decide) wf_1559 rfl ?_
            refine xv_aload_n (pc := 101) hC dX8_finds_101 0 rfl rfl ?_
            refine xv_iload (pc := 102) hC dX8_finds_102 5 rfl ?_
            refine xv_iload (pc := 104) hC dX8_finds_104 4 rfl ?_
            obtain ⟨q_19, hq_19, hX⟩ := bnd_some hX
            refine xv_callVi0 (As := [.int y5, .int y4]) (pc := 106) hC (kX8_beyond hl hq_19) fV_X8_beyond wf_1743 (rc_X8 (rfl : shR 0 = 1)) rfl ⟨Nat.le_of_ble_eq_true rfl, Nat.le_of_ble_eq_true rfl⟩ rfl (Nat.le_of_ble_eq_true rfl) dX8_finds_106 ⟨Nat.le_of_ble_eq_true rfl, Nat.le_of_ble_eq_true rfl⟩ ?_
            obtain ⟨h_20, hX⟩ := gd_some hX
            refine xl_R5 (pc := 109) hC dX8_finds_109 (rfl : shR 7 = 5) h_20 ?_
            refine xv_iadd (pc := 110) hC dX8_finds_110 ?_
            refine xv_icmp_eq (tgt := 120) (pc := 111) hC dX8_finds_111 (by decide) (fun c_21 => ?_) (fun c_21 => ?_)
            · replace hX := if_t c_21 hX
              exact v120 _ hk28 y4 y5 q_19.2 hX
            · replace hX := if_f c_21 hX
              obtain ⟨y_22, hy_22, hX⟩ := nm_some hX
              refine xv_iinc (pc := 114) (v := y_22) (lv' := [(5, .int y_22), (0, .ref (a 0)), (1, .int x1), (2, .int x2), (3, .int x3), (4, .int y4)]) hC dX8_finds_114 5 rfl (by rw [hy_22]; rfl) (by decide) rfl ?_
              refine xv_goto (tgt := 37) (pc := 117) hC dX8_finds_117 (by decide) ?_
              refine xv_sub (lv' := [(0, .ref (a 0)), (1, .int x1), (2, .int x2), (3, .int x3), (4, .int y4), (5, .int y_22)]) [1, 2, 3, 4, 5, 0] rfl ?_
              exact ih y4 y_22 q_19.2 hX
  have v28 : ∀ (n : Nat) (y4 : Int32) (Z : ZZ), sX8_finds_L28 x1 x2 x3 n y4 Z = some (v, Z') → xv p l e rmX8_finds s m args below meth c D A 6 Q (cwR dA a Z) 0 0 28 [(0, .ref (a 0)), (1, .int x1), (2, .int x2), (3, .int x3), (4, .int y4)] [] := by
    intro n
    induction n with
    | zero =>
      intro y4 Z hX
      exact absurd hX (by simp [sX8_finds_L28])
    | succ n ih =>
      intro y4 Z hX
      rw [sX8_finds_L28] at hX
      refine xv_iload (pc := 28) hC dX8_finds_28 4 rfl ?_
      refine xv_iload_n (pc := 30) hC dX8_finds_30 2 rfl rfl ?_
      refine xv_icmp_eq (tgt := 154) (pc := 31) hC dX8_finds_31 (by decide) (fun c_23 => ?_) (fun c_23 => ?_)
      · replace hX := if_t c_23 hX
        refine xv_iconst (v := 1) (pc := 154) hC dX8_finds_154 (by decide) ?_
        obtain ⟨h1, h2⟩ := some_pair hX
        exact xv_eqi (W := cwR dA a) h1 h2 (hR _ _ _ _ (by rw [← h1]; exact (by decide)) (Nat.le_of_ble_eq_true rfl) (Nat.le_of_ble_eq_true rfl) dX8_finds_155)
      · replace hX := if_f c_23 hX
        refine xv_iconst (v := 0) (pc := 34) hC dX8_finds_34 (by decide) ?_
        refine xv_istore (pc := 35) (lv' := [(5, .int 0), (0, .ref (a 0)), (1, .int x1), (2, .int x2), (3, .int x3), (4, .int y4)]) hC dX8_finds_35 (by decide) rfl ?_
        refine xv_sub (lv' := [(0, .ref (a 0)), (1, .int x1), (2, .int x2), (3, .int x3), (4, .int y4), (5, .int 0)]) [1, 2, 3, 4, 5, 0] rfl ?_
        exact v37 _ ih 3000 y4 0 Z hX
  show xv p l e rmX8_finds s m args below meth c D A 6 Q (cwR dA a Z) 0 0 0 [(0, .ref (a 0)), (1, .int x1), (2, .int x2), (3, .int x3)] []
  refine xv_aload_n (pc := 0) hC dX8_finds_0 0 rfl rfl ?_
  refine xv_iload_n (pc := 1) hC dX8_finds_1 2 rfl rfl ?_
  refine xv_iload_n (pc := 2) hC dX8_finds_2 3 rfl rfl ?_
  obtain ⟨q_24, hq_24, hX⟩ := bnd_some hX
  refine xv_callVv0 (As := [.int x2, .int x3]) (pc := 3) hC (kX8_measures hl hq_24) fV_X8_measures wf_1731 (rc_X8 (rfl : shR 0 = 1)) rfl ⟨Nat.le_of_ble_eq_true rfl, Nat.le_of_ble_eq_true rfl⟩ rfl (Nat.le_of_ble_eq_true rfl) dX8_finds_3 ⟨Nat.le_of_ble_eq_true rfl, Nat.le_of_ble_eq_true rfl⟩ ?_
  refine xv_aload_n (pc := 6) hC dX8_finds_6 0 rfl rfl ?_
  refine xv_iconst (v := 0) (pc := 7) hC dX8_finds_7 (by decide) ?_
  obtain ⟨Z_25, hZ_25, hX⟩ := nm_some hX
  refine xpX8 (ty := .int) (pc := 8) hC dX8_finds_8 (rfl : shR 0 = 1) 13 (by decide) wf_1566 rfl (by decide +kernel) rfl rfl rfl hZ_25 ?_
  refine xv_aload_n (pc := 11) hC dX8_finds_11 0 rfl rfl ?_
  refine xgX8 (v := .ref (a 6)) (pc := 12) hC dX8_finds_12 (rfl : shR 0 = 1) 5 (by decide) wf_1558 rfl ?_
  refine xv_iload_n (pc := 15) hC dX8_finds_15 1 rfl rfl ?_
  obtain ⟨h_26, hX⟩ := gd_some hX
  refine xl_R5 (pc := 16) hC dX8_finds_16 (rfl : shR 6 = 5) h_26 ?_
  refine xv_sipush (v := 9999) (pc := 17) hC dX8_finds_17 (by decide) ?_
  refine xv_icmp_ne (tgt := 25) (pc := 20) hC dX8_finds_20 (by decide) (fun c_27 => ?_) (fun c_27 => ?_)
  · replace hX := if_f c_27 hX
    refine xv_iload_n (pc := 25) hC dX8_finds_25 1 rfl rfl ?_
    refine xv_istore (pc := 26) (lv' := [(4, .int x1), (0, .ref (a 0)), (1, .int x1), (2, .int x2), (3, .int x3)]) hC dX8_finds_26 (by decide) rfl ?_
    refine xv_sub (lv' := [(0, .ref (a 0)), (1, .int x1), (2, .int x2), (3, .int x3), (4, .int x1)]) [1, 2, 3, 4, 0] rfl ?_
    exact v28 3000 x1 Z_25 hX
  · replace hX := if_t c_27 hX
    refine xv_iconst (v := 0) (pc := 23) hC dX8_finds_23 (by decide) ?_
    obtain ⟨h1, h2⟩ := some_pair hX
    exact xv_eqi (W := cwR dA a) h1 h2 (hR _ _ _ _ (by rw [← h1]; exact (by decide)) (Nat.le_of_ble_eq_true rfl) (Nat.le_of_ble_eq_true rfl) dX8_finds_24)
def sX8_takesRoute_L12 (x1 : Int32) : Nat → Int32 → ZZ → Option (ZZ)
  | 0, _, _ => none
  | n + 1, y2, Z =>
  if (8 : Int32) ≤ y2 then (
    some Z) else (
    if (gI Z 0 13) ≤ y2 then (
      bnd (sX8_setCall x1 (4 + y2) 0 Z) <| fun q_3 =>
      nm (y2 + 1) <| fun y_4 =>
      sX8_takesRoute_L12 x1 n y_4 q_3) else (
      gd (vin y2 8 = true) <|
      bnd (sX8_setCall x1 (4 + y2) (gI Z 8 y2.toNatClampNeg) Z) <| fun q_6 =>
      nm (y2 + 1) <| fun y_7 =>
      sX8_takesRoute_L12 x1 n y_7 q_6))
def sX8_takesRoute (x1 : Int32) (Z : ZZ) : Option (ZZ) :=
  bnd (sX8_setCall x1 3 (gI Z 0 13) Z) <| fun q_8 =>
  sX8_takesRoute_L12 x1 3000 0 q_8
abbrev rmX8_takesRoute : Room := { frames := 1, cells := 0, slots := 0, locals := 23 }
set_option maxHeartbeats 4000000 in
set_option maxRecDepth 100000 in
theorem kX8_takesRoute {l : Launch} {D : va_G} {dA : Nat → ClassId} {sa : String → Nat → Nat} {a : Nat → Nat} (hl : l.stackTraces = false) {x1 : Int32} {Z Z' : ZZ} (hX : sX8_takesRoute x1 Z = some Z') : CTv l D dA sa yX8_takesRoute (wz yX8_takesRoute cX8_takesRoute 3 none) rmX8_takesRoute [.ref (a 0), .int x1] (cwR dA a Z) (cwR dA a Z') := by
  refine xm_v hl (by decide +kernel) (Nat.le_of_ble_eq_true rfl) rfl ?_
  intro p e s m args below meth c A Q hC hR
  unfold sX8_takesRoute at hX
  have v12 : ∀ (n : Nat) (y2 : Int32) (Z : ZZ), sX8_takesRoute_L12 x1 n y2 Z = some Z' → xv p l e rmX8_takesRoute s m args below meth c D A 3 Q (cwR dA a Z) 0 0 12 [(0, .ref (a 0)), (1, .int x1), (2, .int y2)] [] := by
    intro n
    induction n with
    | zero =>
      intro y2 Z hX
      exact absurd hX (by simp [sX8_takesRoute_L12])
    | succ n ih =>
      intro y2 Z hX
      rw [sX8_takesRoute_L12] at hX
      refine xv_iload_n (pc := 12) hC dX8_takesRoute_12 2 rfl rfl ?_
      refine xv_bipush (v := 8) (pc := 13) hC dX8_takesRoute_13 (by decide) ?_
      refine xv_icmp_ge (tgt := 50) (pc := 15) hC dX8_takesRoute_15 (by decide) (fun c_1 => ?_) (fun c_1 => ?_)
      · replace hX := if_t c_1 hX
        exact xv_eqw (W := cwR dA a) (Option.some.inj hX) (hR _ _ _ _ (Nat.le_of_ble_eq_true rfl) (Nat.le_of_ble_eq_true rfl) dX8_takesRoute_50)
      · replace hX := if_f c_1 hX
        refine xv_aload_n (pc := 18) hC dX8_takesRoute_18 0 rfl rfl ?_
        refine xv_iload_n (pc := 19) hC dX8_takesRoute_19 1 rfl rfl ?_
        refine xv_iconst (v := 4) (pc := 20) hC dX8_takesRoute_20 (by decide) ?_
        refine xv_iload_n (pc := 21) hC dX8_takesRoute_21 2 rfl rfl ?_
        refine xv_iadd (pc := 22) hC dX8_takesRoute_22 ?_
        refine xv_iload_n (pc := 23) hC dX8_takesRoute_23 2 rfl rfl ?_
        refine xv_aload_n (pc := 24) hC dX8_takesRoute_24 0 rfl rfl ?_
        refine xgX8 (v := .int (gI Z 0 13)) (pc := 25) hC dX8_takesRoute_25 (rfl : shR 0 = 1) 13 (by decide) wf_1566 rfl ?_
        refine xv_icmp_ge (tgt := 40) (pc := 28) hC dX8_takesRoute_28 (by decide) (fun c_2 => ?_) (fun c_2 => ?_)
        · replace hX := if_t c_2 hX
          refine xv_iconst (v := 0) (pc := 40) hC dX8_takesRoute_40 (by decide) ?_
          obtain ⟨q_3, hq_3, hX⟩ := bnd_some hX
          refine xv_callVv0 (As := [.int x1, .int (4 + y2), .int 0]) (pc := 41) hC (kX8_setCall hl hq_3) fV_X8_setCall wf_1763 (rc_X8 (rfl : shR 0 = 1)) rfl ⟨Nat.le_of_ble_eq_true rfl, Nat.le_of_ble_eq_true rfl⟩ rfl (Nat.le_of_ble_eq_true rfl) dX8_takesRoute_41 ⟨Nat.le_of_ble_eq_true rfl, Nat.le_of_ble_eq_true rfl⟩ ?_
          obtain ⟨y_4, hy_4, hX⟩ := nm_some hX
          refine xv_iinc (pc := 44) (v := y_4) (lv' := [(2, .int y_4), (0, .ref (a 0)), (1, .int x1)]) hC dX8_takesRoute_44 2 rfl (by rw [hy_4]; rfl) (by decide) rfl ?_
          refine xv_goto (tgt := 12) (pc := 47) hC dX8_takesRoute_47 (by decide) ?_
          refine xv_sub (lv' := [(0, .ref (a 0)), (1, .int x1), (2, .int y_4)]) [1, 2, 0] rfl ?_
          exact ih y_4 q_3 hX
        · replace hX := if_f c_2 hX
          refine xv_aload_n (pc := 31) hC dX8_takesRoute_31 0 rfl rfl ?_
          refine xgX8 (v := .ref (a 8)) (pc := 32) hC dX8_takesRoute_32 (rfl : shR 0 = 1) 7 (by decide) wf_1560 rfl ?_
          refine xv_iload_n (pc := 35) hC dX8_takesRoute_35 2 rfl rfl ?_
          obtain ⟨h_5, hX⟩ := gd_some hX
          refine xl_R5 (pc := 36) hC dX8_takesRoute_36 (rfl : shR 8 = 5) h_5 ?_
          refine xv_goto (tgt := 41) (pc := 37) hC dX8_takesRoute_37 (by decide) ?_
          obtain ⟨q_6, hq_6, hX⟩ := bnd_some hX
          refine xv_callVv0 (As := [.int x1, .int (4 + y2), .int (gI Z 8 y2.toNatClampNeg)]) (pc := 41) hC (kX8_setCall hl hq_6) fV_X8_setCall wf_1763 (rc_X8 (rfl : shR 0 = 1)) rfl ⟨Nat.le_of_ble_eq_true rfl, Nat.le_of_ble_eq_true rfl⟩ rfl (Nat.le_of_ble_eq_true rfl) dX8_takesRoute_41 ⟨Nat.le_of_ble_eq_true rfl, Nat.le_of_ble_eq_true rfl⟩ ?_
          obtain ⟨y_7, hy_7, hX⟩ := nm_some hX
          refine xv_iinc (pc := 44) (v := y_7) (lv' := [(2, .int y_7), (0, .ref (a 0)), (1, .int x1)]) hC dX8_takesRoute_44 2 rfl (by rw [hy_7]; rfl) (by decide) rfl ?_
          refine xv_goto (tgt := 12) (pc := 47) hC dX8_takesRoute_47 (by decide) ?_
          refine xv_sub (lv' := [(0, .ref (a 0)), (1, .int x1), (2, .int y_7)]) [1, 2, 0] rfl ?_
          exact ih y_7 q_6 hX
  show xv p l e rmX8_takesRoute s m args below meth c D A 3 Q (cwR dA a Z) 0 0 0 [(0, .ref (a 0)), (1, .int x1)] []
  refine xv_aload_n (pc := 0) hC dX8_takesRoute_0 0 rfl rfl ?_
  refine xv_iload_n (pc := 1) hC dX8_takesRoute_1 1 rfl rfl ?_
  refine xv_iconst (v := 3) (pc := 2) hC dX8_takesRoute_2 (by decide) ?_
  refine xv_aload_n (pc := 3) hC dX8_takesRoute_3 0 rfl rfl ?_
  refine xgX8 (v := .int (gI Z 0 13)) (pc := 4) hC dX8_takesRoute_4 (rfl : shR 0 = 1) 13 (by decide) wf_1566 rfl ?_
  obtain ⟨q_8, hq_8, hX⟩ := bnd_some hX
  refine xv_callVv0 (As := [.int x1, .int 3, .int (gI Z 0 13)]) (pc := 7) hC (kX8_setCall hl hq_8) fV_X8_setCall wf_1763 (rc_X8 (rfl : shR 0 = 1)) rfl ⟨Nat.le_of_ble_eq_true rfl, Nat.le_of_ble_eq_true rfl⟩ rfl (Nat.le_of_ble_eq_true rfl) dX8_takesRoute_7 ⟨Nat.le_of_ble_eq_true rfl, Nat.le_of_ble_eq_true rfl⟩ ?_
  refine xv_iconst (v := 0) (pc := 10) hC dX8_takesRoute_10 (by decide) ?_
  refine xv_istore_n (pc := 11) (lv' := [(2, .int 0), (0, .ref (a 0)), (1, .int x1)]) hC dX8_takesRoute_11 rfl (by decide) rfl ?_
  refine xv_sub (lv' := [(0, .ref (a 0)), (1, .int x1), (2, .int 0)]) [1, 2, 0] rfl ?_
  exact v12 3000 0 q_8 hX
def sX8_lengthOf_L4 (x1 : Int32) : Nat → Int32 → Int32 → ZZ → Option (Int32 × ZZ)
  | 0, _, _, _ => none
  | n + 1, y2, y3, Z =>
  bnd (sX8_c x1 3 Z) <| fun q_1 =>
  if q_1.1 ≤ y3 then (
    some (y2, q_1.2)) else (
    bnd (sX8_c x1 (4 + y3) q_1.2) <| fun q_3 =>
    bnd (sX8_t q_3.1 2 q_3.2) <| fun q_4 =>
    nm (y2 + q_4.1) <| fun y_5 =>
    nm (y3 + 1) <| fun y_6 =>
    sX8_lengthOf_L4 x1 n y_5 y_6 q_4.2)
def sX8_lengthOf (x1 : Int32) (Z : ZZ) : Option (Int32 × ZZ) :=
  sX8_lengthOf_L4 x1 3000 0 0 Z
abbrev rmX8_lengthOf : Room := { frames := 1, cells := 0, slots := 0, locals := 22 }
set_option maxHeartbeats 4000000 in
set_option maxRecDepth 100000 in
theorem kX8_lengthOf {l : Launch} {D : va_G} {dA : Nat → ClassId} {sa : String → Nat → Nat} {a : Nat → Nat} (hl : l.stackTraces = false) {x1 : Int32} {Z Z' : ZZ} {v : Int32} (hX : sX8_lengthOf x1 Z = some (v, Z')) : CTi l D dA sa yX8_lengthOf (wz yX8_lengthOf cX8_lengthOf 4 (some .int)) rmX8_lengthOf [.ref (a 0), .int x1] (cwR dA a Z) v (cwR dA a Z') := by
  refine xm_i hl (by decide +kernel) (Nat.le_of_ble_eq_true rfl) rfl ?_
  intro p e s m args below meth c A Q hC hR
  unfold sX8_lengthOf at hX
  have v4 : ∀ (n : Nat) (y2 : Int32) (y3 : Int32) (Z : ZZ), sX8_lengthOf_L4 x1 n y2 y3 Z = some (v, Z') → xv p l e rmX8_lengthOf s m args below meth c D A 4 Q (cwR dA a Z) 0 0 4 [(0, .ref (a 0)), (1, .int x1), (2, .int y2), (3, .int y3)] [] := by
    intro n
    induction n with
    | zero =>
      intro y2 y3 Z hX
      exact absurd hX (by simp [sX8_lengthOf_L4])
    | succ n ih =>
      intro y2 y3 Z hX
      rw [sX8_lengthOf_L4] at hX
      refine xv_iload_n (pc := 4) hC dX8_lengthOf_4 3 rfl rfl ?_
      refine xv_aload_n (pc := 5) hC dX8_lengthOf_5 0 rfl rfl ?_
      refine xv_iload_n (pc := 6) hC dX8_lengthOf_6 1 rfl rfl ?_
      refine xv_iconst (v := 3) (pc := 7) hC dX8_lengthOf_7 (by decide) ?_
      obtain ⟨q_1, hq_1, hX⟩ := bnd_some hX
      refine xv_callVi0 (As := [.int x1, .int 3]) (pc := 8) hC (kX8_c hl hq_1) fV_X8_c wf_1719 (rc_X8 (rfl : shR 0 = 1)) rfl ⟨Nat.le_of_ble_eq_true rfl, Nat.le_of_ble_eq_true rfl⟩ rfl (Nat.le_of_ble_eq_true rfl) dX8_lengthOf_8 ⟨Nat.le_of_ble_eq_true rfl, Nat.le_of_ble_eq_true rfl⟩ ?_
      refine xv_icmp_ge (tgt := 36) (pc := 11) hC dX8_lengthOf_11 (by decide) (fun c_2 => ?_) (fun c_2 => ?_)
      · replace hX := if_t c_2 hX
        refine xv_iload_n (pc := 36) hC dX8_lengthOf_36 2 rfl rfl ?_
        obtain ⟨h1, h2⟩ := some_pair hX
        exact xv_eqi (W := cwR dA a) h1 h2 (hR _ _ _ _ (Nat.le_of_ble_eq_true rfl) (Nat.le_of_ble_eq_true rfl) dX8_lengthOf_37)
      · replace hX := if_f c_2 hX
        refine xv_iload_n (pc := 14) hC dX8_lengthOf_14 2 rfl rfl ?_
        refine xv_aload_n (pc := 15) hC dX8_lengthOf_15 0 rfl rfl ?_
        refine xv_aload_n (pc := 16) hC dX8_lengthOf_16 0 rfl rfl ?_
        refine xv_iload_n (pc := 17) hC dX8_lengthOf_17 1 rfl rfl ?_
        refine xv_iconst (v := 4) (pc := 18) hC dX8_lengthOf_18 (by decide) ?_
        refine xv_iload_n (pc := 19) hC dX8_lengthOf_19 3 rfl rfl ?_
        refine xv_iadd (pc := 20) hC dX8_lengthOf_20 ?_
        obtain ⟨q_3, hq_3, hX⟩ := bnd_some hX
        refine xv_callVi0 (As := [.int x1, .int (4 + y3)]) (pc := 21) hC (kX8_c hl hq_3) fV_X8_c wf_1719 (rc_X8 (rfl : shR 0 = 1)) rfl ⟨Nat.le_of_ble_eq_true rfl, Nat.le_of_ble_eq_true rfl⟩ rfl (Nat.le_of_ble_eq_true rfl) dX8_lengthOf_21 ⟨Nat.le_of_ble_eq_true rfl, Nat.le_of_ble_eq_true rfl⟩ ?_
        refine xv_iconst (v := 2) (pc := 24) hC dX8_lengthOf_24 (by decide) ?_
        obtain ⟨q_4, hq_4, hX⟩ := bnd_some hX
        refine xv_callVi0 (As := [.int q_3.1, .int 2]) (pc := 25) hC (kX8_t hl hq_4) fV_X8_t wf_1703 (rc_X8 (rfl : shR 0 = 1)) rfl ⟨Nat.le_of_ble_eq_true rfl, Nat.le_of_ble_eq_true rfl⟩ rfl (Nat.le_of_ble_eq_true rfl) dX8_lengthOf_25 ⟨Nat.le_of_ble_eq_true rfl, Nat.le_of_ble_eq_true rfl⟩ ?_
        refine xv_iadd (pc := 28) hC dX8_lengthOf_28 ?_
        obtain ⟨y_5, hy_5, hX⟩ := nm_some hX
        refine xv_nmi hy_5 ?_
        refine xv_istore_n (pc := 29) (lv' := [(2, .int y_5), (0, .ref (a 0)), (1, .int x1), (3, .int y3)]) hC dX8_lengthOf_29 rfl (by decide) rfl ?_
        obtain ⟨y_6, hy_6, hX⟩ := nm_some hX
        refine xv_iinc (pc := 30) (v := y_6) (lv' := [(3, .int y_6), (2, .int y_5), (0, .ref (a 0)), (1, .int x1)]) hC dX8_lengthOf_30 3 rfl (by rw [hy_6]; rfl) (by decide) rfl ?_
        refine xv_goto (tgt := 4) (pc := 33) hC dX8_lengthOf_33 (by decide) ?_
        refine xv_sub (lv' := [(0, .ref (a 0)), (1, .int x1), (2, .int y_5), (3, .int y_6)]) [2, 3, 1, 0] rfl ?_
        exact ih y_5 y_6 q_4.2 hX
  show xv p l e rmX8_lengthOf s m args below meth c D A 4 Q (cwR dA a Z) 0 0 0 [(0, .ref (a 0)), (1, .int x1)] []
  refine xv_iconst (v := 0) (pc := 0) hC dX8_lengthOf_0 (by decide) ?_
  refine xv_istore_n (pc := 1) (lv' := [(2, .int 0), (0, .ref (a 0)), (1, .int x1)]) hC dX8_lengthOf_1 rfl (by decide) rfl ?_
  refine xv_iconst (v := 0) (pc := 2) hC dX8_lengthOf_2 (by decide) ?_
  refine xv_istore_n (pc := 3) (lv' := [(3, .int 0), (2, .int 0), (0, .ref (a 0)), (1, .int x1)]) hC dX8_lengthOf_3 rfl (by decide) rfl ?_
  refine xv_sub (lv' := [(0, .ref (a 0)), (1, .int x1), (2, .int 0), (3, .int 0)]) [2, 3, 1, 0] rfl ?_
  exact v4 3000 0 0 Z hX
def sX8_chargeOf (x1 : Int32) (Z : ZZ) : Option (Int32 × ZZ) :=
  bnd (sX8_c x1 0 Z) <| fun q_1 =>
  bnd (sX8_u q_1.1 1 q_1.2) <| fun q_2 =>
  nm (q_2.1) <| fun y_3 =>
  bnd (sX8_c x1 2 q_2.2) <| fun q_4 =>
  bnd (sX8_lengthOf x1 q_4.2) <| fun q_5 =>
  nm (q_4.1 * (q_5.1 + 1)) <| fun y_6 =>
  if y_3 = 0 then (
    some (25, q_5.2)) else (
    if y_3 = 1 then (
      some (y_6, q_5.2)) else (
      some ((y_6 + 1) / 2, q_5.2)))
abbrev rmX8_chargeOf : Room := { frames := 2, cells := 0, slots := 0, locals := 45 }
set_option maxHeartbeats 4000000 in
set_option maxRecDepth 100000 in
theorem kX8_chargeOf {l : Launch} {D : va_G} {dA : Nat → ClassId} {sa : String → Nat → Nat} {a : Nat → Nat} (hl : l.stackTraces = false) {x1 : Int32} {Z Z' : ZZ} {v : Int32} (hX : sX8_chargeOf x1 Z = some (v, Z')) : CTi l D dA sa yX8_chargeOf (wz yX8_chargeOf cX8_chargeOf 4 (some .int)) rmX8_chargeOf [.ref (a 0), .int x1] (cwR dA a Z) v (cwR dA a Z') := by
  refine xm_i hl (by decide +kernel) (Nat.le_of_ble_eq_true rfl) rfl ?_
  intro p e s m args below meth c A Q hC hR
  unfold sX8_chargeOf at hX
  show xv p l e rmX8_chargeOf s m args below meth c D A 4 Q (cwR dA a Z) 0 0 0 [(0, .ref (a 0)), (1, .int x1)] []
  refine xv_aload_n (pc := 0) hC dX8_chargeOf_0 0 rfl rfl ?_
  refine xv_aload_n (pc := 1) hC dX8_chargeOf_1 0 rfl rfl ?_
  refine xv_iload_n (pc := 2) hC dX8_chargeOf_2 1 rfl rfl ?_
  refine xv_iconst (v := 0) (pc := 3) hC dX8_chargeOf_3 (by decide) ?_
  obtain ⟨q_1, hq_1, hX⟩ := bnd_some hX
  refine xv_callVi0 (As := [.int x1, .int 0]) (pc := 4) hC (kX8_c hl hq_1) fV_X8_c wf_1719 (rc_X8 (rfl : shR 0 = 1)) rfl ⟨Nat.le_of_ble_eq_true rfl, Nat.le_of_ble_eq_true rfl⟩ rfl (Nat.le_of_ble_eq_true rfl) dX8_chargeOf_4 ⟨Nat.le_of_ble_eq_true rfl, Nat.le_of_ble_eq_true rfl⟩ ?_
  refine xv_iconst (v := 1) (pc := 7) hC dX8_chargeOf_7 (by decide) ?_
  obtain ⟨q_2, hq_2, hX⟩ := bnd_some hX
  refine xv_callVi0 (As := [.int q_1.1, .int 1]) (pc := 8) hC (kX8_u hl hq_2) fV_X8_u wf_1723 (rc_X8 (rfl : shR 0 = 1)) rfl ⟨Nat.le_of_ble_eq_true rfl, Nat.le_of_ble_eq_true rfl⟩ rfl (Nat.le_of_ble_eq_true rfl) dX8_chargeOf_8 ⟨Nat.le_of_ble_eq_true rfl, Nat.le_of_ble_eq_true rfl⟩ ?_
  obtain ⟨y_3, hy_3, hX⟩ := nm_some hX
  refine xv_nmi hy_3 ?_
  refine xv_istore_n (pc := 11) (lv' := [(2, .int y_3), (0, .ref (a 0)), (1, .int x1)]) hC dX8_chargeOf_11 rfl (by decide) rfl ?_
  refine xv_aload_n (pc := 12) hC dX8_chargeOf_12 1 rfl rfl ?_
  refine xv_iload_n (pc := 13) hC dX8_chargeOf_13 2 rfl rfl ?_
  refine xv_iconst (v := 2) (pc := 14) hC dX8_chargeOf_14 (by decide) ?_
  obtain ⟨q_4, hq_4, hX⟩ := bnd_some hX
  refine xv_callVi0 (As := [.int x1, .int 2]) (pc := 15) hC (kX8_c hl hq_4) fV_X8_c wf_1719 (rc_X8 (rfl : shR 0 = 1)) rfl ⟨Nat.le_of_ble_eq_true rfl, Nat.le_of_ble_eq_true rfl⟩ rfl (Nat.le_of_ble_eq_true rfl) dX8_chargeOf_15 ⟨Nat.le_of_ble_eq_true rfl, Nat.le_of_ble_eq_true rfl⟩ ?_
  refine xv_aload_n (pc := 18) hC dX8_chargeOf_18 1 rfl rfl ?_
  refine xv_iload_n (pc := 19) hC dX8_chargeOf_19 2 rfl rfl ?_
  obtain ⟨q_5, hq_5, hX⟩ := bnd_some hX
  refine xv_callVi0 (As := [.int x1]) (pc := 20) hC (kX8_lengthOf hl hq_5) fV_X8_lengthOf wf_1759 (rc_X8 (rfl : shR 0 = 1)) rfl ⟨Nat.le_of_ble_eq_true rfl, Nat.le_of_ble_eq_true rfl⟩ rfl (Nat.le_of_ble_eq_true rfl) dX8_chargeOf_20 ⟨Nat.le_of_ble_eq_true rfl, Nat.le_of_ble_eq_true rfl⟩ ?_
  refine xv_iconst (v := 1) (pc := 23) hC dX8_chargeOf_23 (by decide) ?_
  refine xv_iadd (pc := 24) hC dX8_chargeOf_24 ?_
  refine xv_imul (pc := 25) hC dX8_chargeOf_25 ?_
  obtain ⟨y_6, hy_6, hX⟩ := nm_some hX
  refine xv_nmi hy_6 ?_
  refine xv_istore_n (pc := 26) (lv' := [(3, .int y_6), (2, .int y_3), (0, .ref (a 0)), (1, .int x1)]) hC dX8_chargeOf_26 rfl (by decide) rfl ?_
  refine xv_iload_n (pc := 27) hC dX8_chargeOf_27 1 rfl rfl ?_
  refine xv_if_ne (tgt := 36) (pc := 28) hC dX8_chargeOf_28 (by decide) (fun c_7 => ?_) (fun c_7 => ?_)
  · replace hX := if_f c_7 hX
    refine xv_iload_n (pc := 36) hC dX8_chargeOf_36 1 rfl rfl ?_
    refine xv_iconst (v := 1) (pc := 37) hC dX8_chargeOf_37 (by decide) ?_
    refine xv_icmp_ne (tgt := 45) (pc := 38) hC dX8_chargeOf_38 (by decide) (fun c_8 => ?_) (fun c_8 => ?_)
    · replace hX := if_f c_8 hX
      refine xv_iload_n (pc := 45) hC dX8_chargeOf_45 0 rfl rfl ?_
      refine xv_iconst (v := 1) (pc := 46) hC dX8_chargeOf_46 (by decide) ?_
      refine xv_iadd (pc := 47) hC dX8_chargeOf_47 ?_
      refine xv_iconst (v := 2) (pc := 48) hC dX8_chargeOf_48 (by decide) ?_
      refine xv_idiv (pc := 49) hC dX8_chargeOf_49 (by decide) ?_
      obtain ⟨h1, h2⟩ := some_pair hX
      exact xv_eqi (W := cwR dA a) h1 h2 (hR _ _ _ _ (Nat.le_of_ble_eq_true rfl) (Nat.le_of_ble_eq_true rfl) dX8_chargeOf_50)
    · replace hX := if_t c_8 hX
      refine xv_iload_n (pc := 41) hC dX8_chargeOf_41 0 rfl rfl ?_
      refine xv_goto (tgt := 50) (pc := 42) hC dX8_chargeOf_42 (by decide) ?_
      obtain ⟨h1, h2⟩ := some_pair hX
      exact xv_eqi (W := cwR dA a) h1 h2 (hR _ _ _ _ (Nat.le_of_ble_eq_true rfl) (Nat.le_of_ble_eq_true rfl) dX8_chargeOf_50)
  · replace hX := if_t c_7 hX
    refine xv_bipush (v := 25) (pc := 31) hC dX8_chargeOf_31 (by decide) ?_
    refine xv_goto (tgt := 50) (pc := 33) hC dX8_chargeOf_33 (by decide) ?_
    obtain ⟨h1, h2⟩ := some_pair hX
    exact xv_eqi (W := cwR dA a) h1 h2 (hR _ _ _ _ (Nat.le_of_ble_eq_true rfl) (Nat.le_of_ble_eq_true rfl) dX8_chargeOf_50)
def sX8_ends_L105 (x1 : Int32) : Nat → Int32 → Int32 → ZZ → Option (Int32 × ZZ)
  | 0, _, _, _ => none
  | n + 1, y2, y3, Z =>
  if (12 : Int32) ≤ y3 then (
    some (y2, Z)) else (
    gd (vin 3 180 = true) <|
    bnd (sX8_setCall (gI Z 1 (3 : Int32).toNatClampNeg) y3 0 Z) <| fun q_3 =>
    nm (y3 + 1) <| fun y_4 =>
    sX8_ends_L105 x1 n y2 y_4 q_3)
def sX8_ends_L66 (x1 : Int32) : Nat → Int32 → Int32 → ZZ → Option (Int32 × ZZ)
  | 0, _, _, _ => none
  | n + 1, y2, y3, Z =>
  gd (vin 3 180 = true) <|
  if (118 + (12 * (gI Z 1 (3 : Int32).toNatClampNeg))) ≤ y3 then (
    sX8_ends_L105 x1 3000 y2 0 Z) else (
    gd (vin (y3 + 12) 180 = true) <|
    gd (vin y3 180 = true) <|
    nm (pI Z 1 y3.toNatClampNeg (gI Z 1 (y3 + 12).toNatClampNeg)) <| fun Z_9 =>
    nm (y3 + 1) <| fun y_10 =>
    sX8_ends_L66 x1 n y2 y_10 Z_9)
def sX8_ends (x1 : Int32) (Z : ZZ) : Option (Int32 × ZZ) :=
  bnd (sX8_chargeOf x1 Z) <| fun q_11 =>
  nm (q_11.1) <| fun y_12 =>
  bnd (sX8_c x1 0 q_11.2) <| fun q_13 =>
  gd (vin ((88 + (3 * q_13.1)) + 2) 180 = true) <|
  gd (vin ((88 + (3 * q_13.1)) + 2) 180 = true) <|
  nm (pI q_13.2 1 ((88 + (3 * q_13.1)) + 2).toNatClampNeg ((gI q_13.2 1 ((88 + (3 * q_13.1)) + 2).toNatClampNeg) + y_12)) <| fun Z_16 =>
  gd (vin 5 180 = true) <|
  gd (vin 5 180 = true) <|
  nm (pI Z_16 1 (5 : Int32).toNatClampNeg ((gI Z_16 1 (5 : Int32).toNatClampNeg) + y_12)) <| fun Z_19 =>
  gd (vin 4 180 = true) <|
  gd (vin 4 180 = true) <|
  nm (pI Z_19 1 (4 : Int32).toNatClampNeg ((gI Z_19 1 (4 : Int32).toNatClampNeg) + 1)) <| fun Z_22 =>
  gd (vin 3 180 = true) <|
  gd (vin 3 180 = true) <|
  nm (pI Z_22 1 (3 : Int32).toNatClampNeg ((gI Z_22 1 (3 : Int32).toNatClampNeg) - 1)) <| fun Z_25 =>
  nm (118 + (12 * x1)) <| fun y_26 =>
  sX8_ends_L66 x1 3000 y_12 y_26 Z_25
abbrev rmX8_ends : Room := { frames := 3, cells := 0, slots := 0, locals := 68 }
set_option maxHeartbeats 4000000 in
set_option maxRecDepth 100000 in
theorem kX8_ends {l : Launch} {D : va_G} {dA : Nat → ClassId} {sa : String → Nat → Nat} {a : Nat → Nat} (hl : l.stackTraces = false) {x1 : Int32} {Z Z' : ZZ} {v : Int32} (hX : sX8_ends x1 Z = some (v, Z')) : CTi l D dA sa yX8_ends (wz yX8_ends cX8_ends 4 (some .int)) rmX8_ends [.ref (a 0), .int x1] (cwR dA a Z) v (cwR dA a Z') := by
  refine xm_i hl (by decide +kernel) (Nat.le_of_ble_eq_true rfl) rfl ?_
  intro p e s m args below meth c A Q hC hR
  unfold sX8_ends at hX
  have v105 : ∀ (n : Nat) (y2 : Int32) (y3 : Int32) (Z : ZZ), sX8_ends_L105 x1 n y2 y3 Z = some (v, Z') → xv p l e rmX8_ends s m args below meth c D A 4 Q (cwR dA a Z) 0 0 105 [(0, .ref (a 0)), (1, .int x1), (2, .int y2), (3, .int y3)] [] := by
    intro n
    induction n with
    | zero =>
      intro y2 y3 Z hX
      exact absurd hX (by simp [sX8_ends_L105])
    | succ n ih =>
      intro y2 y3 Z hX
      rw [sX8_ends_L105] at hX
      refine xv_iload_n (pc := 105) hC dX8_ends_105 3 rfl rfl ?_
      refine xv_bipush (v := 12) (pc := 106) hC dX8_ends_106 (by decide) ?_
      refine xv_icmp_ge (tgt := 129) (pc := 108) hC dX8_ends_108 (by decide) (fun c_1 => ?_) (fun c_1 => ?_)
      · replace hX := if_t c_1 hX
        refine xv_iload_n (pc := 129) hC dX8_ends_129 2 rfl rfl ?_
        obtain ⟨h1, h2⟩ := some_pair hX
        exact xv_eqi (W := cwR dA a) h1 h2 (hR _ _ _ _ (Nat.le_of_ble_eq_true rfl) (Nat.le_of_ble_eq_true rfl) dX8_ends_130)
      · replace hX := if_f c_1 hX
        refine xv_aload_n (pc := 111) hC dX8_ends_111 0 rfl rfl ?_
        refine xv_aload_n (pc := 112) hC dX8_ends_112 0 rfl rfl ?_
        refine xgX8 (v := .ref (a 1)) (pc := 113) hC dX8_ends_113 (rfl : shR 0 = 1) 0 (by decide) wf_1553 rfl ?_
        refine xv_iconst (v := 3) (pc := 116) hC dX8_ends_116 (by decide) ?_
        obtain ⟨h_2, hX⟩ := gd_some hX
        refine xl_R2 (pc := 117) hC dX8_ends_117 (rfl : shR 1 = 2) h_2 ?_
        refine xv_iload_n (pc := 118) hC dX8_ends_118 3 rfl rfl ?_
        refine xv_iconst (v := 0) (pc := 119) hC dX8_ends_119 (by decide) ?_
        obtain ⟨q_3, hq_3, hX⟩ := bnd_some hX
        refine xv_callVv0 (As := [.int (gI Z 1 (3 : Int32).toNatClampNeg), .int y3, .int 0]) (pc := 120) hC (kX8_setCall hl hq_3) fV_X8_setCall wf_1763 (rc_X8 (rfl : shR 0 = 1)) rfl ⟨Nat.le_of_ble_eq_true rfl, Nat.le_of_ble_eq_true rfl⟩ rfl (Nat.le_of_ble_eq_true rfl) dX8_ends_120 ⟨Nat.le_of_ble_eq_true rfl, Nat.le_of_ble_eq_true rfl⟩ ?_
        obtain ⟨y_4, hy_4, hX⟩ := nm_some hX
        refine xv_iinc (pc := 123) (v := y_4) (lv' := [(3, .int y_4), (0, .ref (a 0)), (1, .int x1), (2, .int y2)]) hC dX8_ends_123 3 rfl (by rw [hy_4]; rfl) (by decide) rfl ?_
        refine xv_goto (tgt := 105) (pc := 126) hC dX8_ends_126 (by decide) ?_
        refine xv_sub (lv' := [(0, .ref (a 0)), (1, .int x1), (2, .int y2), (3, .int y_4)]) [1, 2, 3, 0] rfl ?_
        exact ih y2 y_4 q_3 hX
  have v66 : ∀ (n : Nat) (y2 : Int32) (y3 : Int32) (Z : ZZ), sX8_ends_L66 x1 n y2 y3 Z = some (v, Z') → xv p l e rmX8_ends s m args below meth c D A 4 Q (cwR dA a Z) 0 0 66 [(0, .ref (a 0)), (1, .int x1), (2, .int y2), (3, .int y3)] [] := by
    intro n
    induction n with
    | zero =>
      intro y2 y3 Z hX
      exact absurd hX (by simp [sX8_ends_L66])
    | succ n ih =>
      intro y2 y3 Z hX
      rw [sX8_ends_L66] at hX
      refine xv_iload_n (pc := 66) hC dX8_ends_66 3 rfl rfl ?_
      refine xv_bipush (v := 118) (pc := 67) hC dX8_ends_67 (by decide) ?_
      refine xv_bipush (v := 12) (pc := 69) hC dX8_ends_69 (by decide) ?_
      refine xv_aload_n (pc := 71) hC dX8_ends_71 0 rfl rfl ?_
      refine xgX8 (v := .ref (a 1)) (pc := 72) hC dX8_ends_72 (rfl : shR 0 = 1) 0 (by decide) wf_1553 rfl ?_
      refine xv_iconst (v := 3) (pc := 75) hC dX8_ends_75 (by decide) ?_
      obtain ⟨h_5, hX⟩ := gd_some hX
      refine xl_R2 (pc := 76) hC dX8_ends_76 (rfl : shR 1 = 2) h_5 ?_
      refine xv_imul (pc := 77) hC dX8_ends_77 ?_
      refine xv_iadd (pc := 78) hC dX8_ends_78 ?_
      refine xv_icmp_ge (tgt := 103) (pc := 79) hC dX8_ends_79 (by decide) (fun c_6 => ?_) (fun c_6 => ?_)
      · replace hX := if_t c_6 hX
        refine xv_iconst (v := 0) (pc := 103) hC dX8_ends_103 (by decide) ?_
        refine xv_istore_n (pc := 104) (lv' := [(3, .int 0), (0, .ref (a 0)), (1, .int x1), (2, .int y2)]) hC dX8_ends_104 rfl (by decide) rfl ?_
        refine xv_sub (lv' := [(0, .ref (a 0)), (1, .int x1), (2, .int y2), (3, .int 0)]) [1, 2, 3, 0] rfl ?_
        exact v105 3000 y2 0 Z hX
      · replace hX := if_f c_6 hX
        refine xv_aload_n (pc := 82) hC dX8_ends_82 0 rfl rfl ?_
        refine xgX8 (v := .ref (a 1)) (pc := 83) hC dX8_ends_83 (rfl : shR 0 = 1) 0 (by decide) wf_1553 rfl ?_
        refine xv_iload_n (pc := 86) hC dX8_ends_86 3 rfl rfl ?_
        refine xv_aload_n (pc := 87) hC dX8_ends_87 0 rfl rfl ?_
        refine xgX8 (v := .ref (a 1)) (pc := 88) hC dX8_ends_88 (rfl : shR 0 = 1) 0 (by decide) wf_1553 rfl ?_
        refine xv_iload_n (pc := 91) hC dX8_ends_91 3 rfl rfl ?_
        refine xv_bipush (v := 12) (pc := 92) hC dX8_ends_92 (by decide) ?_
        refine xv_iadd (pc := 94) hC dX8_ends_94 ?_
        obtain ⟨h_7, hX⟩ := gd_some hX
        refine xl_R2 (pc := 95) hC dX8_ends_95 (rfl : shR 1 = 2) h_7 ?_
        obtain ⟨h_8, hX⟩ := gd_some hX
        obtain ⟨Z_9, hZ_9, hX⟩ := nm_some hX
        refine xs_R2 (pc := 96) hC dX8_ends_96 (rfl : shR 1 = 2) h_8 hZ_9 ?_
        obtain ⟨y_10, hy_10, hX⟩ := nm_some hX
        refine xv_iinc (pc := 97) (v := y_10) (lv' := [(3, .int y_10), (0, .ref (a 0)), (1, .int x1), (2, .int y2)]) hC dX8_ends_97 3 rfl (by rw [hy_10]; rfl) (by decide) rfl ?_
        refine xv_goto (tgt := 66) (pc := 100) hC dX8_ends_100 (by decide) ?_
        refine xv_sub (lv' := [(0, .ref (a 0)), (1, .int x1), (2, .int y2), (3, .int y_10)]) [1, 2, 3, 0] rfl ?_
        exact ih y2 y_10 Z_9 hX
  show xv p l e rmX8_ends s m args below meth c D A 4 Q (cwR dA a Z) 0 0 0 [(0, .ref (a 0)), (1, .int x1)] []
  refine xv_aload_n (pc := 0) hC dX8_ends_0 0 rfl rfl ?_
  refine xv_iload_n (pc := 1) hC dX8_ends_1 1 rfl rfl ?_
  obtain ⟨q_11, hq_11, hX⟩ := bnd_some hX
  refine xv_callVi0 (As := [.int x1]) (pc := 2) hC (kX8_chargeOf hl hq_11) fV_X8_chargeOf wf_1755 (rc_X8 (rfl : shR 0 = 1)) rfl ⟨Nat.le_of_ble_eq_true rfl, Nat.le_of_ble_eq_true rfl⟩ rfl (Nat.le_of_ble_eq_true rfl) dX8_ends_2 ⟨Nat.le_of_ble_eq_true rfl, Nat.le_of_ble_eq_true rfl⟩ ?_
  obtain ⟨y_12, hy_12, hX⟩ := nm_some hX
  refine xv_nmi hy_12 ?_
  refine xv_istore_n (pc := 5) (lv' := [(2, .int y_12), (0, .ref (a 0)), (1, .int x1)]) hC dX8_ends_5 rfl (by decide) rfl ?_
  refine xv_aload_n (pc := 6) hC dX8_ends_6 1 rfl rfl ?_
  refine xgX8 (v := .ref (a 1)) (pc := 7) hC dX8_ends_7 (rfl : shR 0 = 1) 0 (by decide) wf_1553 rfl ?_
  refine xv_bipush (v := 88) (pc := 10) hC dX8_ends_10 (by decide) ?_
  refine xv_iconst (v := 3) (pc := 12) hC dX8_ends_12 (by decide) ?_
  refine xv_aload_n (pc := 13) hC dX8_ends_13 1 rfl rfl ?_
  refine xv_iload_n (pc := 14) hC dX8_ends_14 2 rfl rfl ?_
  refine xv_iconst (v := 0) (pc := 15) hC dX8_ends_15 (by decide) ?_
  obtain ⟨q_13, hq_13, hX⟩ := bnd_some hX
  refine xv_callVi0 (As := [.int x1, .int 0]) (pc := 16) hC (kX8_c hl hq_13) fV_X8_c wf_1719 (rc_X8 (rfl : shR 0 = 1)) rfl ⟨Nat.le_of_ble_eq_true rfl, Nat.le_of_ble_eq_true rfl⟩ rfl (Nat.le_of_ble_eq_true rfl) dX8_ends_16 ⟨Nat.le_of_ble_eq_true rfl, Nat.le_of_ble_eq_true rfl⟩ ?_
  refine xv_imul (pc := 19) hC dX8_ends_19 ?_
  refine xv_iadd (pc := 20) hC dX8_ends_20 ?_
  refine xv_iconst (v := 2) (pc := 21) hC dX8_ends_21 (by decide) ?_
  refine xv_iadd (pc := 22) hC dX8_ends_22 ?_
  refine xv_dup2 (pc := 23) hC dX8_ends_23 rfl rfl ?_
  obtain ⟨h_14, hX⟩ := gd_some hX
  refine xl_R2 (pc := 24) hC dX8_ends_24 (rfl : shR 1 = 2) h_14 ?_
  refine xv_iload_n (pc := 25) hC dX8_ends_25 0 rfl rfl ?_
  refine xv_iadd (pc := 26) hC dX8_ends_26 ?_
  obtain ⟨h_15, hX⟩ := gd_some hX
  obtain ⟨Z_16, hZ_16, hX⟩ := nm_some hX
  refine xs_R2 (pc := 27) hC dX8_ends_27 (rfl : shR 1 = 2) h_15 hZ_16 ?_
  refine xv_aload_n (pc := 28) hC dX8_ends_28 1 rfl rfl ?_
  refine xgX8 (v := .ref (a 1)) (pc := 29) hC dX8_ends_29 (rfl : shR 0 = 1) 0 (by decide) wf_1553 rfl ?_
  refine xv_iconst (v := 5) (pc := 32) hC dX8_ends_32 (by decide) ?_
  refine xv_dup2 (pc := 33) hC dX8_ends_33 rfl rfl ?_
  obtain ⟨h_17, hX⟩ := gd_some hX
  refine xl_R2 (pc := 34) hC dX8_ends_34 (rfl : shR 1 = 2) h_17 ?_
  refine xv_iload_n (pc := 35) hC dX8_ends_35 0 rfl rfl ?_
  refine xv_iadd (pc := 36) hC dX8_ends_36 ?_
  obtain ⟨h_18, hX⟩ := gd_some hX
  obtain ⟨Z_19, hZ_19, hX⟩ := nm_some hX
  refine xs_R2 (pc := 37) hC dX8_ends_37 (rfl : shR 1 = 2) h_18 hZ_19 ?_
  refine xv_aload_n (pc := 38) hC dX8_ends_38 1 rfl rfl ?_
  refine xgX8 (v := .ref (a 1)) (pc := 39) hC dX8_ends_39 (rfl : shR 0 = 1) 0 (by decide) wf_1553 rfl ?_
  refine xv_iconst (v := 4) (pc := 42) hC dX8_ends_42 (by decide) ?_
  refine xv_dup2 (pc := 43) hC dX8_ends_43 rfl rfl ?_
  obtain ⟨h_20, hX⟩ := gd_some hX
  refine xl_R2 (pc := 44) hC dX8_ends_44 (rfl : shR 1 = 2) h_20 ?_
  refine xv_iconst (v := 1) (pc := 45) hC dX8_ends_45 (by decide) ?_
  refine xv_iadd (pc := 46) hC dX8_ends_46 ?_
  obtain ⟨h_21, hX⟩ := gd_some hX
  obtain ⟨Z_22, hZ_22, hX⟩ := nm_some hX
  refine xs_R2 (pc := 47) hC dX8_ends_47 (rfl : shR 1 = 2) h_21 hZ_22 ?_
  refine xv_aload_n (pc := 48) hC dX8_ends_48 1 rfl rfl ?_
  refine xgX8 (v := .ref (a 1)) (pc := 49) hC dX8_ends_49 (rfl : shR 0 = 1) 0 (by decide) wf_1553 rfl ?_
  refine xv_iconst (v := 3) (pc := 52) hC dX8_ends_52 (by decide) ?_
  refine xv_dup2 (pc := 53) hC dX8_ends_53 rfl rfl ?_
  obtain ⟨h_23, hX⟩ := gd_some hX
  refine xl_R2 (pc := 54) hC dX8_ends_54 (rfl : shR 1 = 2) h_23 ?_
  refine xv_iconst (v := 1) (pc := 55) hC dX8_ends_55 (by decide) ?_
  refine xv_isub (pc := 56) hC dX8_ends_56 ?_
  obtain ⟨h_24, hX⟩ := gd_some hX
  obtain ⟨Z_25, hZ_25, hX⟩ := nm_some hX
  refine xs_R2 (pc := 57) hC dX8_ends_57 (rfl : shR 1 = 2) h_24 hZ_25 ?_
  refine xv_bipush (v := 118) (pc := 58) hC dX8_ends_58 (by decide) ?_
  refine xv_bipush (v := 12) (pc := 60) hC dX8_ends_60 (by decide) ?_
  refine xv_iload_n (pc := 62) hC dX8_ends_62 2 rfl rfl ?_
  refine xv_imul (pc := 63) hC dX8_ends_63 ?_
  refine xv_iadd (pc := 64) hC dX8_ends_64 ?_
  obtain ⟨y_26, hy_26, hX⟩ := nm_some hX
  refine xv_nmi hy_26 ?_
  refine xv_istore_n (pc := 65) (lv' := [(3, .int y_26), (2, .int y_12), (0, .ref (a 0)), (1, .int x1)]) hC dX8_ends_65 rfl (by decide) rfl ?_
  refine xv_sub (lv' := [(0, .ref (a 0)), (1, .int x1), (2, .int y_12), (3, .int y_26)]) [2, 3, 1, 0] rfl ?_
  exact v66 3000 y_12 y_26 Z_25 hX
def sX8_cannotCut (x1 : Int32) (Z : ZZ) : Option (Int32 × ZZ) :=
  bnd (sX8_isTrunk x1 Z) <| fun q_1 =>
  if q_1.1 = 0 then (
    some (1, q_1.2)) else (
    bnd (sX8_t x1 3 q_1.2) <| fun q_3 =>
    if q_3.1 = 1 then (
      some (2, q_3.2)) else (
      some (0, q_3.2)))
abbrev rmX8_cannotCut : Room := { frames := 2, cells := 0, slots := 0, locals := 43 }
set_option maxHeartbeats 4000000 in
set_option maxRecDepth 100000 in
theorem kX8_cannotCut {l : Launch} {D : va_G} {dA : Nat → ClassId} {sa : String → Nat → Nat} {a : Nat → Nat} (hl : l.stackTraces = false) {x1 : Int32} {Z Z' : ZZ} {v : Int32} (hX : sX8_cannotCut x1 Z = some (v, Z')) : CTi l D dA sa yX8_cannotCut (wz yX8_cannotCut cX8_cannotCut 2 (some .int)) rmX8_cannotCut [.ref (a 0), .int x1] (cwR dA a Z) v (cwR dA a Z') := by
  refine xm_i hl (by decide +kernel) (Nat.le_of_ble_eq_true rfl) rfl ?_
  intro p e s m args below meth c A Q hC hR
  unfold sX8_cannotCut at hX
  show xv p l e rmX8_cannotCut s m args below meth c D A 2 Q (cwR dA a Z) 0 0 0 [(0, .ref (a 0)), (1, .int x1)] []
  refine xv_aload_n (pc := 0) hC dX8_cannotCut_0 0 rfl rfl ?_
  refine xv_iload_n (pc := 1) hC dX8_cannotCut_1 1 rfl rfl ?_
  obtain ⟨q_1, hq_1, hX⟩ := bnd_some hX
  refine xv_callVi0 (As := [.int x1]) (pc := 2) hC (kX8_isTrunk hl hq_1) fV_X8_isTrunk wf_1699 (rc_X8 (rfl : shR 0 = 1)) rfl ⟨Nat.le_of_ble_eq_true rfl, Nat.le_of_ble_eq_true rfl⟩ rfl (Nat.le_of_ble_eq_true rfl) dX8_cannotCut_2 ⟨Nat.le_of_ble_eq_true rfl, Nat.le_of_ble_eq_true rfl⟩ ?_
  refine xv_if_ne (tgt := 12) (pc := 5) hC dX8_cannotCut_5 (by decide) (fun c_2 => ?_) (fun c_2 => ?_)
  · replace hX := if_f c_2 hX
    refine xv_aload_n (pc := 12) hC dX8_cannotCut_12 0 rfl rfl ?_
    refine xv_iload_n (pc := 13) hC dX8_cannotCut_13 1 rfl rfl ?_
    refine xv_iconst (v := 3) (pc := 14) hC dX8_cannotCut_14 (by decide) ?_
    obtain ⟨q_3, hq_3, hX⟩ := bnd_some hX
    refine xv_callVi0 (As := [.int x1, .int 3]) (pc := 15) hC (kX8_t hl hq_3) fV_X8_t wf_1703 (rc_X8 (rfl : shR 0 = 1)) rfl ⟨Nat.le_of_ble_eq_true rfl, Nat.le_of_ble_eq_true rfl⟩ rfl (Nat.le_of_ble_eq_true rfl) dX8_cannotCut_15 ⟨Nat.le_of_ble_eq_true rfl, Nat.le_of_ble_eq_true rfl⟩ ?_
    refine xv_iconst (v := 1) (pc := 18) hC dX8_cannotCut_18 (by decide) ?_
    refine xv_icmp_ne (tgt := 26) (pc := 19) hC dX8_cannotCut_19 (by decide) (fun c_4 => ?_) (fun c_4 => ?_)
    · replace hX := if_f c_4 hX
      refine xv_iconst (v := 0) (pc := 26) hC dX8_cannotCut_26 (by decide) ?_
      obtain ⟨h1, h2⟩ := some_pair hX
      exact xv_eqi (W := cwR dA a) h1 h2 (hR _ _ _ _ (Nat.le_of_ble_eq_true rfl) (Nat.le_of_ble_eq_true rfl) dX8_cannotCut_27)
    · replace hX := if_t c_4 hX
      refine xv_iconst (v := 2) (pc := 22) hC dX8_cannotCut_22 (by decide) ?_
      refine xv_goto (tgt := 27) (pc := 23) hC dX8_cannotCut_23 (by decide) ?_
      obtain ⟨h1, h2⟩ := some_pair hX
      exact xv_eqi (W := cwR dA a) h1 h2 (hR _ _ _ _ (Nat.le_of_ble_eq_true rfl) (Nat.le_of_ble_eq_true rfl) dX8_cannotCut_27)
  · replace hX := if_t c_2 hX
    refine xv_iconst (v := 1) (pc := 8) hC dX8_cannotCut_8 (by decide) ?_
    refine xv_goto (tgt := 27) (pc := 9) hC dX8_cannotCut_9 (by decide) ?_
    obtain ⟨h1, h2⟩ := some_pair hX
    exact xv_eqi (W := cwR dA a) h1 h2 (hR _ _ _ _ (Nat.le_of_ble_eq_true rfl) (Nat.le_of_ble_eq_true rfl) dX8_cannotCut_27)
def sX8_cuts (x1 : Int32) (Z : ZZ) : Option (Int32 × ZZ) :=
  bnd (sX8_callOn x1 Z) <| fun q_1 =>
  nm (q_1.1) <| fun y_2 =>
  bnd (sX8_setTrunk x1 3 1 q_1.2) <| fun q_3 =>
  if y_2 = (-1) then (
    some (0, q_3)) else (
    bnd (sX8_c y_2 0 q_3) <| fun q_5 =>
    bnd (sX8_u q_5.1 0 q_5.2) <| fun q_6 =>
    bnd (sX8_c y_2 1 q_6.2) <| fun q_7 =>
    bnd (sX8_u q_7.1 0 q_7.2) <| fun q_8 =>
    bnd (sX8_finds q_6.1 q_8.1 y_2 q_8.2) <| fun q_9 =>
    if q_9.1 = 0 then (
      bnd (sX8_ends y_2 q_9.2) <| fun q_12 =>
      nm (q_12.1) <| fun y_13 =>
      some (1, q_12.2)) else (
      bnd (sX8_takesRoute y_2 q_9.2) <| fun q_11 =>
      some (0, q_11)))
abbrev rmX8_cuts : Room := { frames := 6, cells := 0, slots := 0, locals := 139 }
set_option maxHeartbeats 4000000 in
set_option maxRecDepth 100000 in
theorem kX8_cuts {l : Launch} {D : va_G} {dA : Nat → ClassId} {sa : String → Nat → Nat} {a : Nat → Nat} (hl : l.stackTraces = false) {x1 : Int32} {Z Z' : ZZ} {v : Int32} (hX : sX8_cuts x1 Z = some (v, Z')) : CTi l D dA sa yX8_cuts (wz yX8_cuts cX8_cuts 4 (some .int)) rmX8_cuts [.ref (a 0), .int x1] (cwR dA a Z) v (cwR dA a Z') := by
  refine xm_i hl (by decide +kernel) (Nat.le_of_ble_eq_true rfl) rfl ?_
  intro p e s m args below meth c A Q hC hR
  unfold sX8_cuts at hX
  show xv p l e rmX8_cuts s m args below meth c D A 4 Q (cwR dA a Z) 0 0 0 [(0, .ref (a 0)), (1, .int x1)] []
  refine xv_aload_n (pc := 0) hC dX8_cuts_0 0 rfl rfl ?_
  refine xv_iload_n (pc := 1) hC dX8_cuts_1 1 rfl rfl ?_
  obtain ⟨q_1, hq_1, hX⟩ := bnd_some hX
  refine xv_callVi0 (As := [.int x1]) (pc := 2) hC (kX8_callOn hl hq_1) fV_X8_callOn wf_1711 (rc_X8 (rfl : shR 0 = 1)) rfl ⟨Nat.le_of_ble_eq_true rfl, Nat.le_of_ble_eq_true rfl⟩ rfl (Nat.le_of_ble_eq_true rfl) dX8_cuts_2 ⟨Nat.le_of_ble_eq_true rfl, Nat.le_of_ble_eq_true rfl⟩ ?_
  obtain ⟨y_2, hy_2, hX⟩ := nm_some hX
  refine xv_nmi hy_2 ?_
  refine xv_istore_n (pc := 5) (lv' := [(2, .int y_2), (0, .ref (a 0)), (1, .int x1)]) hC dX8_cuts_5 rfl (by decide) rfl ?_
  refine xv_aload_n (pc := 6) hC dX8_cuts_6 1 rfl rfl ?_
  refine xv_iload_n (pc := 7) hC dX8_cuts_7 2 rfl rfl ?_
  refine xv_iconst (v := 3) (pc := 8) hC dX8_cuts_8 (by decide) ?_
  refine xv_iconst (v := 1) (pc := 9) hC dX8_cuts_9 (by decide) ?_
  obtain ⟨q_3, hq_3, hX⟩ := bnd_some hX
  refine xv_callVv0 (As := [.int x1, .int 3, .int 1]) (pc := 10) hC (kX8_setTrunk hl hq_3) fV_X8_setTrunk wf_1675 (rc_X8 (rfl : shR 0 = 1)) rfl ⟨Nat.le_of_ble_eq_true rfl, Nat.le_of_ble_eq_true rfl⟩ rfl (Nat.le_of_ble_eq_true rfl) dX8_cuts_10 ⟨Nat.le_of_ble_eq_true rfl, Nat.le_of_ble_eq_true rfl⟩ ?_
  refine xv_iload_n (pc := 13) hC dX8_cuts_13 0 rfl rfl ?_
  refine xv_iconst (v := (-1)) (pc := 14) hC dX8_cuts_14 (by decide) ?_
  refine xv_icmp_ne (tgt := 20) (pc := 15) hC dX8_cuts_15 (by decide) (fun c_4 => ?_) (fun c_4 => ?_)
  · replace hX := if_f c_4 hX
    refine xv_aload_n (pc := 20) hC dX8_cuts_20 1 rfl rfl ?_
    refine xv_aload_n (pc := 21) hC dX8_cuts_21 1 rfl rfl ?_
    refine xv_aload_n (pc := 22) hC dX8_cuts_22 1 rfl rfl ?_
    refine xv_iload_n (pc := 23) hC dX8_cuts_23 0 rfl rfl ?_
    refine xv_iconst (v := 0) (pc := 24) hC dX8_cuts_24 (by decide) ?_
    obtain ⟨q_5, hq_5, hX⟩ := bnd_some hX
    refine xv_callVi0 (As := [.int y_2, .int 0]) (pc := 25) hC (kX8_c hl hq_5) fV_X8_c wf_1719 (rc_X8 (rfl : shR 0 = 1)) rfl ⟨Nat.le_of_ble_eq_true rfl, Nat.le_of_ble_eq_true rfl⟩ rfl (Nat.le_of_ble_eq_true rfl) dX8_cuts_25 ⟨Nat.le_of_ble_eq_true rfl, Nat.le_of_ble_eq_true rfl⟩ ?_
    refine xv_iconst (v := 0) (pc := 28) hC dX8_cuts_28 (by decide) ?_
    obtain ⟨q_6, hq_6, hX⟩ := bnd_some hX
    refine xv_callVi0 (As := [.int q_5.1, .int 0]) (pc := 29) hC (kX8_u hl hq_6) fV_X8_u wf_1723 (rc_X8 (rfl : shR 0 = 1)) rfl ⟨Nat.le_of_ble_eq_true rfl, Nat.le_of_ble_eq_true rfl⟩ rfl (Nat.le_of_ble_eq_true rfl) dX8_cuts_29 ⟨Nat.le_of_ble_eq_true rfl, Nat.le_of_ble_eq_true rfl⟩ ?_
    refine xv_aload_n (pc := 32) hC dX8_cuts_32 1 rfl rfl ?_
    refine xv_aload_n (pc := 33) hC dX8_cuts_33 1 rfl rfl ?_
    refine xv_iload_n (pc := 34) hC dX8_cuts_34 0 rfl rfl ?_
    refine xv_iconst (v := 1) (pc := 35) hC dX8_cuts_35 (by decide) ?_
    obtain ⟨q_7, hq_7, hX⟩ := bnd_some hX
    refine xv_callVi0 (As := [.int y_2, .int 1]) (pc := 36) hC (kX8_c hl hq_7) fV_X8_c wf_1719 (rc_X8 (rfl : shR 0 = 1)) rfl ⟨Nat.le_of_ble_eq_true rfl, Nat.le_of_ble_eq_true rfl⟩ rfl (Nat.le_of_ble_eq_true rfl) dX8_cuts_36 ⟨Nat.le_of_ble_eq_true rfl, Nat.le_of_ble_eq_true rfl⟩ ?_
    refine xv_iconst (v := 0) (pc := 39) hC dX8_cuts_39 (by decide) ?_
    obtain ⟨q_8, hq_8, hX⟩ := bnd_some hX
    refine xv_callVi0 (As := [.int q_7.1, .int 0]) (pc := 40) hC (kX8_u hl hq_8) fV_X8_u wf_1723 (rc_X8 (rfl : shR 0 = 1)) rfl ⟨Nat.le_of_ble_eq_true rfl, Nat.le_of_ble_eq_true rfl⟩ rfl (Nat.le_of_ble_eq_true rfl) dX8_cuts_40 ⟨Nat.le_of_ble_eq_true rfl, Nat.le_of_ble_eq_true rfl⟩ ?_
    refine xv_iload_n (pc := 43) hC dX8_cuts_43 0 rfl rfl ?_
    obtain ⟨q_9, hq_9, hX⟩ := bnd_some hX
    refine xv_callVi0 (As := [.int q_6.1, .int q_8.1, .int y_2]) (pc := 44) hC (kX8_finds hl hq_9) fV_X8_finds wf_1727 (rc_X8 (rfl : shR 0 = 1)) rfl ⟨Nat.le_of_ble_eq_true rfl, Nat.le_of_ble_eq_true rfl⟩ rfl (Nat.le_of_ble_eq_true rfl) dX8_cuts_44 ⟨Nat.le_of_ble_eq_true rfl, Nat.le_of_ble_eq_true rfl⟩ ?_
    refine xv_if_ne (tgt := 58) (pc := 47) hC dX8_cuts_47 (by decide) (fun c_10 => ?_) (fun c_10 => ?_)
    · replace hX := if_f c_10 hX
      refine xv_aload_n (pc := 58) hC dX8_cuts_58 1 rfl rfl ?_
      refine xv_iload_n (pc := 59) hC dX8_cuts_59 0 rfl rfl ?_
      obtain ⟨q_11, hq_11, hX⟩ := bnd_some hX
      refine xv_callVv0 (As := [.int y_2]) (pc := 60) hC (kX8_takesRoute hl hq_11) fV_X8_takesRoute wf_1767 (rc_X8 (rfl : shR 0 = 1)) rfl ⟨Nat.le_of_ble_eq_true rfl, Nat.le_of_ble_eq_true rfl⟩ rfl (Nat.le_of_ble_eq_true rfl) dX8_cuts_60 ⟨Nat.le_of_ble_eq_true rfl, Nat.le_of_ble_eq_true rfl⟩ ?_
      refine xv_iconst (v := 0) (pc := 63) hC dX8_cuts_63 (by decide) ?_
      obtain ⟨h1, h2⟩ := some_pair hX
      exact xv_eqi (W := cwR dA a) h1 h2 (hR _ _ _ _ (Nat.le_of_ble_eq_true rfl) (Nat.le_of_ble_eq_true rfl) dX8_cuts_64)
    · replace hX := if_t c_10 hX
      refine xv_aload_n (pc := 50) hC dX8_cuts_50 1 rfl rfl ?_
      refine xv_iload_n (pc := 51) hC dX8_cuts_51 0 rfl rfl ?_
      obtain ⟨q_12, hq_12, hX⟩ := bnd_some hX
      refine xv_callVi0 (As := [.int y_2]) (pc := 52) hC (kX8_ends hl hq_12) fV_X8_ends wf_1751 (rc_X8 (rfl : shR 0 = 1)) rfl ⟨Nat.le_of_ble_eq_true rfl, Nat.le_of_ble_eq_true rfl⟩ rfl (Nat.le_of_ble_eq_true rfl) dX8_cuts_52 ⟨Nat.le_of_ble_eq_true rfl, Nat.le_of_ble_eq_true rfl⟩ ?_
      obtain ⟨y_13, hy_13, hX⟩ := nm_some hX
      refine xv_nmi hy_13 ?_
      refine xv_istore_n (pc := 55) (lv' := [(3, .int y_13), (2, .int y_2), (0, .ref (a 0)), (1, .int x1)]) hC dX8_cuts_55 rfl (by decide) rfl ?_
      refine xv_iconst (v := 1) (pc := 56) hC dX8_cuts_56 (by decide) ?_
      obtain ⟨h1, h2⟩ := some_pair hX
      exact xv_eqi (W := cwR dA a) h1 h2 (hR _ _ _ _ (Nat.le_of_ble_eq_true rfl) (Nat.le_of_ble_eq_true rfl) dX8_cuts_57)
  · replace hX := if_t c_4 hX
    refine xv_iconst (v := 0) (pc := 18) hC dX8_cuts_18 (by decide) ?_
    obtain ⟨h1, h2⟩ := some_pair hX
    exact xv_eqi (W := cwR dA a) h1 h2 (hR _ _ _ _ (Nat.le_of_ble_eq_true rfl) (Nat.le_of_ble_eq_true rfl) dX8_cuts_19)
def sX8_cut (x1 : Int32) (Z : ZZ) : Option (Int32 × ZZ) :=
  bnd (sX8_begin Z) <| fun q_1 =>
  bnd (sX8_cannotCut x1 q_1) <| fun q_2 =>
  nm (q_2.1) <| fun y_3 =>
  if y_3 ≤ 0 then (
    bnd (sX8_cuts x1 q_2.2) <| fun q_5 =>
    bnd (sX8_commit q_5.1 q_5.2) <| fun q_6 =>
    if q_6.1 = 1 then (
      some (1, q_6.2)) else (
      some (0, q_6.2))) else (
    bnd (sX8_fail y_3 q_2.2) <| fun q_8 =>
    if q_8.1 = 1 then (
      some (1, q_8.2)) else (
      some (0, q_8.2)))
abbrev rmX8_cut : Room := { frames := 7, cells := 0, slots := 0, locals := 162 }
set_option maxHeartbeats 4000000 in
set_option maxRecDepth 100000 in
theorem kX8_cut {l : Launch} {D : va_G} {dA : Nat → ClassId} {sa : String → Nat → Nat} {a : Nat → Nat} (hl : l.stackTraces = false) {x1 : Int32} {Z Z' : ZZ} {v : Int32} (hX : sX8_cut x1 Z = some (v, Z')) : CTi l D dA sa yX8_cut (wz yX8_cut cX8_cut 3 (some .boolean)) rmX8_cut [.ref (a 0), .int x1] (cwR dA a Z) v (cwR dA a Z') := by
  refine xm_z hl (by decide +kernel) (Nat.le_of_ble_eq_true rfl) rfl ?_
  intro p e s m args below meth c A Q hC hR
  unfold sX8_cut at hX
  show xv p l e rmX8_cut s m args below meth c D A 3 Q (cwR dA a Z) 0 0 0 [(0, .ref (a 0)), (1, .int x1)] []
  refine xv_aload_n (pc := 0) hC dX8_cut_0 0 rfl rfl ?_
  obtain ⟨q_1, hq_1, hX⟩ := bnd_some hX
  refine xv_callVv0 (As := []) (pc := 1) hC (kX8_begin hl hq_1) fV_X8_begin wf_1637 (rc_X8 (rfl : shR 0 = 1)) rfl ⟨Nat.le_of_ble_eq_true rfl, Nat.le_of_ble_eq_true rfl⟩ rfl (Nat.le_of_ble_eq_true rfl) dX8_cut_1 ⟨Nat.le_of_ble_eq_true rfl, Nat.le_of_ble_eq_true rfl⟩ ?_
  refine xv_aload_n (pc := 4) hC dX8_cut_4 0 rfl rfl ?_
  refine xv_iload_n (pc := 5) hC dX8_cut_5 1 rfl rfl ?_
  obtain ⟨q_2, hq_2, hX⟩ := bnd_some hX
  refine xv_callVi0 (As := [.int x1]) (pc := 6) hC (kX8_cannotCut hl hq_2) fV_X8_cannotCut wf_1695 (rc_X8 (rfl : shR 0 = 1)) rfl ⟨Nat.le_of_ble_eq_true rfl, Nat.le_of_ble_eq_true rfl⟩ rfl (Nat.le_of_ble_eq_true rfl) dX8_cut_6 ⟨Nat.le_of_ble_eq_true rfl, Nat.le_of_ble_eq_true rfl⟩ ?_
  obtain ⟨y_3, hy_3, hX⟩ := nm_some hX
  refine xv_nmi hy_3 ?_
  refine xv_istore_n (pc := 9) (lv' := [(2, .int y_3), (0, .ref (a 0)), (1, .int x1)]) hC dX8_cut_9 rfl (by decide) rfl ?_
  refine xv_iload_n (pc := 10) hC dX8_cut_10 0 rfl rfl ?_
  refine xv_if_le (tgt := 22) (pc := 11) hC dX8_cut_11 (by decide) (fun c_4 => ?_) (fun c_4 => ?_)
  · replace hX := if_t c_4 hX
    refine xv_aload_n (pc := 22) hC dX8_cut_22 1 rfl rfl ?_
    refine xv_aload_n (pc := 23) hC dX8_cut_23 1 rfl rfl ?_
    refine xv_iload_n (pc := 24) hC dX8_cut_24 2 rfl rfl ?_
    obtain ⟨q_5, hq_5, hX⟩ := bnd_some hX
    refine xv_callVi0 (As := [.int x1]) (pc := 25) hC (kX8_cuts hl hq_5) fV_X8_cuts wf_1707 (rc_X8 (rfl : shR 0 = 1)) rfl ⟨Nat.le_of_ble_eq_true rfl, Nat.le_of_ble_eq_true rfl⟩ rfl (Nat.le_of_ble_eq_true rfl) dX8_cut_25 ⟨Nat.le_of_ble_eq_true rfl, Nat.le_of_ble_eq_true rfl⟩ ?_
    obtain ⟨q_6, hq_6, hX⟩ := bnd_some hX
    refine xv_callVi0 (As := [.int q_5.1]) (pc := 28) hC (kX8_commit hl hq_6) fV_X8_commit wf_1652 (rc_X8 (rfl : shR 0 = 1)) rfl ⟨Nat.le_of_ble_eq_true rfl, Nat.le_of_ble_eq_true rfl⟩ rfl (Nat.le_of_ble_eq_true rfl) dX8_cut_28 ⟨Nat.le_of_ble_eq_true rfl, Nat.le_of_ble_eq_true rfl⟩ ?_
    refine xv_iconst (v := 1) (pc := 31) hC dX8_cut_31 (by decide) ?_
    refine xv_icmp_ne (tgt := 39) (pc := 32) hC dX8_cut_32 (by decide) (fun c_7 => ?_) (fun c_7 => ?_)
    · replace hX := if_f c_7 hX
      refine xv_iconst (v := 0) (pc := 39) hC dX8_cut_39 (by decide) ?_
      obtain ⟨h1, h2⟩ := some_pair hX
      exact xv_eqi (W := cwR dA a) h1 h2 (hR _ _ _ _ (by rw [← h1]; exact (by decide)) (Nat.le_of_ble_eq_true rfl) (Nat.le_of_ble_eq_true rfl) dX8_cut_40)
    · replace hX := if_t c_7 hX
      refine xv_iconst (v := 1) (pc := 35) hC dX8_cut_35 (by decide) ?_
      refine xv_goto (tgt := 40) (pc := 36) hC dX8_cut_36 (by decide) ?_
      obtain ⟨h1, h2⟩ := some_pair hX
      exact xv_eqi (W := cwR dA a) h1 h2 (hR _ _ _ _ (by rw [← h1]; exact (by decide)) (Nat.le_of_ble_eq_true rfl) (Nat.le_of_ble_eq_true rfl) dX8_cut_40)
  · replace hX := if_f c_4 hX
    refine xv_aload_n (pc := 14) hC dX8_cut_14 1 rfl rfl ?_
    refine xv_iload_n (pc := 15) hC dX8_cut_15 0 rfl rfl ?_
    obtain ⟨q_8, hq_8, hX⟩ := bnd_some hX
    refine xv_callVi0 (As := [.int y_3]) (pc := 16) hC (kX8_fail hl hq_8) fV_X8_fail wf_1644 (rc_X8 (rfl : shR 0 = 1)) rfl ⟨Nat.le_of_ble_eq_true rfl, Nat.le_of_ble_eq_true rfl⟩ rfl (Nat.le_of_ble_eq_true rfl) dX8_cut_16 ⟨Nat.le_of_ble_eq_true rfl, Nat.le_of_ble_eq_true rfl⟩ ?_
    refine xv_goto (tgt := 31) (pc := 19) hC dX8_cut_19 (by decide) ?_
    refine xv_iconst (v := 1) (pc := 31) hC dX8_cut_31 (by decide) ?_
    refine xv_icmp_ne (tgt := 39) (pc := 32) hC dX8_cut_32 (by decide) (fun c_9 => ?_) (fun c_9 => ?_)
    · replace hX := if_f c_9 hX
      refine xv_iconst (v := 0) (pc := 39) hC dX8_cut_39 (by decide) ?_
      obtain ⟨h1, h2⟩ := some_pair hX
      exact xv_eqi (W := cwR dA a) h1 h2 (hR _ _ _ _ (by rw [← h1]; exact (by decide)) (Nat.le_of_ble_eq_true rfl) (Nat.le_of_ble_eq_true rfl) dX8_cut_40)
    · replace hX := if_t c_9 hX
      refine xv_iconst (v := 1) (pc := 35) hC dX8_cut_35 (by decide) ?_
      refine xv_goto (tgt := 40) (pc := 36) hC dX8_cut_36 (by decide) ?_
      obtain ⟨h1, h2⟩ := some_pair hX
      exact xv_eqi (W := cwR dA a) h1 h2 (hR _ _ _ _ (by rw [← h1]; exact (by decide)) (Nat.le_of_ble_eq_true rfl) (Nat.le_of_ble_eq_true rfl) dX8_cut_40)
def sX8_cannotMend (x1 : Int32) (Z : ZZ) : Option (Int32 × ZZ) :=
  bnd (sX8_isTrunk x1 Z) <| fun q_1 =>
  if q_1.1 = 0 then (
    some (1, q_1.2)) else (
    bnd (sX8_t x1 3 q_1.2) <| fun q_3 =>
    if q_3.1 = 0 then (
      some (2, q_3.2)) else (
      some (0, q_3.2)))
abbrev rmX8_cannotMend : Room := { frames := 2, cells := 0, slots := 0, locals := 43 }
set_option maxHeartbeats 4000000 in
set_option maxRecDepth 100000 in
theorem kX8_cannotMend {l : Launch} {D : va_G} {dA : Nat → ClassId} {sa : String → Nat → Nat} {a : Nat → Nat} (hl : l.stackTraces = false) {x1 : Int32} {Z Z' : ZZ} {v : Int32} (hX : sX8_cannotMend x1 Z = some (v, Z')) : CTi l D dA sa yX8_cannotMend (wz yX8_cannotMend cX8_cannotMend 2 (some .int)) rmX8_cannotMend [.ref (a 0), .int x1] (cwR dA a Z) v (cwR dA a Z') := by
  refine xm_i hl (by decide +kernel) (Nat.le_of_ble_eq_true rfl) rfl ?_
  intro p e s m args below meth c A Q hC hR
  unfold sX8_cannotMend at hX
  show xv p l e rmX8_cannotMend s m args below meth c D A 2 Q (cwR dA a Z) 0 0 0 [(0, .ref (a 0)), (1, .int x1)] []
  refine xv_aload_n (pc := 0) hC dX8_cannotMend_0 0 rfl rfl ?_
  refine xv_iload_n (pc := 1) hC dX8_cannotMend_1 1 rfl rfl ?_
  obtain ⟨q_1, hq_1, hX⟩ := bnd_some hX
  refine xv_callVi0 (As := [.int x1]) (pc := 2) hC (kX8_isTrunk hl hq_1) fV_X8_isTrunk wf_1699 (rc_X8 (rfl : shR 0 = 1)) rfl ⟨Nat.le_of_ble_eq_true rfl, Nat.le_of_ble_eq_true rfl⟩ rfl (Nat.le_of_ble_eq_true rfl) dX8_cannotMend_2 ⟨Nat.le_of_ble_eq_true rfl, Nat.le_of_ble_eq_true rfl⟩ ?_
  refine xv_if_ne (tgt := 12) (pc := 5) hC dX8_cannotMend_5 (by decide) (fun c_2 => ?_) (fun c_2 => ?_)
  · replace hX := if_f c_2 hX
    refine xv_aload_n (pc := 12) hC dX8_cannotMend_12 0 rfl rfl ?_
    refine xv_iload_n (pc := 13) hC dX8_cannotMend_13 1 rfl rfl ?_
    refine xv_iconst (v := 3) (pc := 14) hC dX8_cannotMend_14 (by decide) ?_
    obtain ⟨q_3, hq_3, hX⟩ := bnd_some hX
    refine xv_callVi0 (As := [.int x1, .int 3]) (pc := 15) hC (kX8_t hl hq_3) fV_X8_t wf_1703 (rc_X8 (rfl : shR 0 = 1)) rfl ⟨Nat.le_of_ble_eq_true rfl, Nat.le_of_ble_eq_true rfl⟩ rfl (Nat.le_of_ble_eq_true rfl) dX8_cannotMend_15 ⟨Nat.le_of_ble_eq_true rfl, Nat.le_of_ble_eq_true rfl⟩ ?_
    refine xv_if_ne (tgt := 25) (pc := 18) hC dX8_cannotMend_18 (by decide) (fun c_4 => ?_) (fun c_4 => ?_)
    · replace hX := if_f c_4 hX
      refine xv_iconst (v := 0) (pc := 25) hC dX8_cannotMend_25 (by decide) ?_
      obtain ⟨h1, h2⟩ := some_pair hX
      exact xv_eqi (W := cwR dA a) h1 h2 (hR _ _ _ _ (Nat.le_of_ble_eq_true rfl) (Nat.le_of_ble_eq_true rfl) dX8_cannotMend_26)
    · replace hX := if_t c_4 hX
      refine xv_iconst (v := 2) (pc := 21) hC dX8_cannotMend_21 (by decide) ?_
      refine xv_goto (tgt := 26) (pc := 22) hC dX8_cannotMend_22 (by decide) ?_
      obtain ⟨h1, h2⟩ := some_pair hX
      exact xv_eqi (W := cwR dA a) h1 h2 (hR _ _ _ _ (Nat.le_of_ble_eq_true rfl) (Nat.le_of_ble_eq_true rfl) dX8_cannotMend_26)
  · replace hX := if_t c_2 hX
    refine xv_iconst (v := 1) (pc := 8) hC dX8_cannotMend_8 (by decide) ?_
    refine xv_goto (tgt := 26) (pc := 9) hC dX8_cannotMend_9 (by decide) ?_
    obtain ⟨h1, h2⟩ := some_pair hX
    exact xv_eqi (W := cwR dA a) h1 h2 (hR _ _ _ _ (Nat.le_of_ble_eq_true rfl) (Nat.le_of_ble_eq_true rfl) dX8_cannotMend_26)
def sX8_mends_L11 (x1 : Int32) : Nat → Int32 → Int32 → ZZ → Option (Int32 × ZZ)
  | 0, _, _, _ => none
  | n + 1, y2, y3, Z =>
  gd (vin 1 180 = true) <|
  if (gI Z 1 (1 : Int32).toNatClampNeg) ≤ y3 then (
    some (y2, Z)) else (
    bnd (sX8_t y3 3 Z) <| fun q_3 =>
    nm (y2 + q_3.1) <| fun y_4 =>
    nm (y3 + 1) <| fun y_5 =>
    sX8_mends_L11 x1 n y_4 y_5 q_3.2)
def sX8_mends (x1 : Int32) (Z : ZZ) : Option (Int32 × ZZ) :=
  bnd (sX8_setTrunk x1 3 0 Z) <| fun q_6 =>
  sX8_mends_L11 x1 3000 0 0 q_6
abbrev rmX8_mends : Room := { frames := 1, cells := 0, slots := 0, locals := 23 }
set_option maxHeartbeats 4000000 in
set_option maxRecDepth 100000 in
theorem kX8_mends {l : Launch} {D : va_G} {dA : Nat → ClassId} {sa : String → Nat → Nat} {a : Nat → Nat} (hl : l.stackTraces = false) {x1 : Int32} {Z Z' : ZZ} {v : Int32} (hX : sX8_mends x1 Z = some (v, Z')) : CTi l D dA sa yX8_mends (wz yX8_mends cX8_mends 4 (some .int)) rmX8_mends [.ref (a 0), .int x1] (cwR dA a Z) v (cwR dA a Z') := by
  refine xm_i hl (by decide +kernel) (Nat.le_of_ble_eq_true rfl) rfl ?_
  intro p e s m args below meth c A Q hC hR
  unfold sX8_mends at hX
  have v11 : ∀ (n : Nat) (y2 : Int32) (y3 : Int32) (Z : ZZ), sX8_mends_L11 x1 n y2 y3 Z = some (v, Z') → xv p l e rmX8_mends s m args below meth c D A 4 Q (cwR dA a Z) 0 0 11 [(0, .ref (a 0)), (1, .int x1), (2, .int y2), (3, .int y3)] [] := by
    intro n
    induction n with
    | zero =>
      intro y2 y3 Z hX
      exact absurd hX (by simp [sX8_mends_L11])
    | succ n ih =>
      intro y2 y3 Z hX
      rw [sX8_mends_L11] at hX
      refine xv_iload_n (pc := 11) hC dX8_mends_11 3 rfl rfl ?_
      refine xv_aload_n (pc := 12) hC dX8_mends_12 0 rfl rfl ?_
      refine xgX8 (v := .ref (a 1)) (pc := 13) hC dX8_mends_13 (rfl : shR 0 = 1) 0 (by decide) wf_1553 rfl ?_
      refine xv_iconst (v := 1) (pc := 16) hC dX8_mends_16 (by decide) ?_
      obtain ⟨h_1, hX⟩ := gd_some hX
      refine xl_R2 (pc := 17) hC dX8_mends_17 (rfl : shR 1 = 2) h_1 ?_
      refine xv_icmp_ge (tgt := 36) (pc := 18) hC dX8_mends_18 (by decide) (fun c_2 => ?_) (fun c_2 => ?_)
      · replace hX := if_t c_2 hX
        refine xv_iload_n (pc := 36) hC dX8_mends_36 2 rfl rfl ?_
        obtain ⟨h1, h2⟩ := some_pair hX
        exact xv_eqi (W := cwR dA a) h1 h2 (hR _ _ _ _ (Nat.le_of_ble_eq_true rfl) (Nat.le_of_ble_eq_true rfl) dX8_mends_37)
      · replace hX := if_f c_2 hX
        refine xv_iload_n (pc := 21) hC dX8_mends_21 2 rfl rfl ?_
        refine xv_aload_n (pc := 22) hC dX8_mends_22 0 rfl rfl ?_
        refine xv_iload_n (pc := 23) hC dX8_mends_23 3 rfl rfl ?_
        refine xv_iconst (v := 3) (pc := 24) hC dX8_mends_24 (by decide) ?_
        obtain ⟨q_3, hq_3, hX⟩ := bnd_some hX
        refine xv_callVi0 (As := [.int y3, .int 3]) (pc := 25) hC (kX8_t hl hq_3) fV_X8_t wf_1703 (rc_X8 (rfl : shR 0 = 1)) rfl ⟨Nat.le_of_ble_eq_true rfl, Nat.le_of_ble_eq_true rfl⟩ rfl (Nat.le_of_ble_eq_true rfl) dX8_mends_25 ⟨Nat.le_of_ble_eq_true rfl, Nat.le_of_ble_eq_true rfl⟩ ?_
        refine xv_iadd (pc := 28) hC dX8_mends_28 ?_
        obtain ⟨y_4, hy_4, hX⟩ := nm_some hX
        refine xv_nmi hy_4 ?_
        refine xv_istore_n (pc := 29) (lv' := [(2, .int y_4), (0, .ref (a 0)), (1, .int x1), (3, .int y3)]) hC dX8_mends_29 rfl (by decide) rfl ?_
        obtain ⟨y_5, hy_5, hX⟩ := nm_some hX
        refine xv_iinc (pc := 30) (v := y_5) (lv' := [(3, .int y_5), (2, .int y_4), (0, .ref (a 0)), (1, .int x1)]) hC dX8_mends_30 3 rfl (by rw [hy_5]; rfl) (by decide) rfl ?_
        refine xv_goto (tgt := 11) (pc := 33) hC dX8_mends_33 (by decide) ?_
        refine xv_sub (lv' := [(0, .ref (a 0)), (1, .int x1), (2, .int y_4), (3, .int y_5)]) [2, 3, 1, 0] rfl ?_
        exact ih y_4 y_5 q_3.2 hX
  show xv p l e rmX8_mends s m args below meth c D A 4 Q (cwR dA a Z) 0 0 0 [(0, .ref (a 0)), (1, .int x1)] []
  refine xv_aload_n (pc := 0) hC dX8_mends_0 0 rfl rfl ?_
  refine xv_iload_n (pc := 1) hC dX8_mends_1 1 rfl rfl ?_
  refine xv_iconst (v := 3) (pc := 2) hC dX8_mends_2 (by decide) ?_
  refine xv_iconst (v := 0) (pc := 3) hC dX8_mends_3 (by decide) ?_
  obtain ⟨q_6, hq_6, hX⟩ := bnd_some hX
  refine xv_callVv0 (As := [.int x1, .int 3, .int 0]) (pc := 4) hC (kX8_setTrunk hl hq_6) fV_X8_setTrunk wf_1675 (rc_X8 (rfl : shR 0 = 1)) rfl ⟨Nat.le_of_ble_eq_true rfl, Nat.le_of_ble_eq_true rfl⟩ rfl (Nat.le_of_ble_eq_true rfl) dX8_mends_4 ⟨Nat.le_of_ble_eq_true rfl, Nat.le_of_ble_eq_true rfl⟩ ?_
  refine xv_iconst (v := 0) (pc := 7) hC dX8_mends_7 (by decide) ?_
  refine xv_istore_n (pc := 8) (lv' := [(2, .int 0), (0, .ref (a 0)), (1, .int x1)]) hC dX8_mends_8 rfl (by decide) rfl ?_
  refine xv_iconst (v := 0) (pc := 9) hC dX8_mends_9 (by decide) ?_
  refine xv_istore_n (pc := 10) (lv' := [(3, .int 0), (2, .int 0), (0, .ref (a 0)), (1, .int x1)]) hC dX8_mends_10 rfl (by decide) rfl ?_
  refine xv_sub (lv' := [(0, .ref (a 0)), (1, .int x1), (2, .int 0), (3, .int 0)]) [2, 3, 1, 0] rfl ?_
  exact v11 3000 0 0 q_6 hX
def sX8_mend (x1 : Int32) (Z : ZZ) : Option (Int32 × ZZ) :=
  bnd (sX8_begin Z) <| fun q_1 =>
  bnd (sX8_cannotMend x1 q_1) <| fun q_2 =>
  nm (q_2.1) <| fun y_3 =>
  if y_3 ≤ 0 then (
    bnd (sX8_mends x1 q_2.2) <| fun q_5 =>
    bnd (sX8_commit q_5.1 q_5.2) <| fun q_6 =>
    some (q_6.1, q_6.2)) else (
    bnd (sX8_fail y_3 q_2.2) <| fun q_7 =>
    some (q_7.1, q_7.2))
abbrev rmX8_mend : Room := { frames := 3, cells := 0, slots := 0, locals := 64 }
set_option maxHeartbeats 4000000 in
set_option maxRecDepth 100000 in
theorem kX8_mend {l : Launch} {D : va_G} {dA : Nat → ClassId} {sa : String → Nat → Nat} {a : Nat → Nat} (hl : l.stackTraces = false) {x1 : Int32} {Z Z' : ZZ} {v : Int32} (hX : sX8_mend x1 Z = some (v, Z')) : CTi l D dA sa yX8_mend (wz yX8_mend cX8_mend 3 (some .int)) rmX8_mend [.ref (a 0), .int x1] (cwR dA a Z) v (cwR dA a Z') := by
  refine xm_i hl (by decide +kernel) (Nat.le_of_ble_eq_true rfl) rfl ?_
  intro p e s m args below meth c A Q hC hR
  unfold sX8_mend at hX
  show xv p l e rmX8_mend s m args below meth c D A 3 Q (cwR dA a Z) 0 0 0 [(0, .ref (a 0)), (1, .int x1)] []
  refine xv_aload_n (pc := 0) hC dX8_mend_0 0 rfl rfl ?_
  obtain ⟨q_1, hq_1, hX⟩ := bnd_some hX
  refine xv_callVv0 (As := []) (pc := 1) hC (kX8_begin hl hq_1) fV_X8_begin wf_1637 (rc_X8 (rfl : shR 0 = 1)) rfl ⟨Nat.le_of_ble_eq_true rfl, Nat.le_of_ble_eq_true rfl⟩ rfl (Nat.le_of_ble_eq_true rfl) dX8_mend_1 ⟨Nat.le_of_ble_eq_true rfl, Nat.le_of_ble_eq_true rfl⟩ ?_
  refine xv_aload_n (pc := 4) hC dX8_mend_4 0 rfl rfl ?_
  refine xv_iload_n (pc := 5) hC dX8_mend_5 1 rfl rfl ?_
  obtain ⟨q_2, hq_2, hX⟩ := bnd_some hX
  refine xv_callVi0 (As := [.int x1]) (pc := 6) hC (kX8_cannotMend hl hq_2) fV_X8_cannotMend wf_1775 (rc_X8 (rfl : shR 0 = 1)) rfl ⟨Nat.le_of_ble_eq_true rfl, Nat.le_of_ble_eq_true rfl⟩ rfl (Nat.le_of_ble_eq_true rfl) dX8_mend_6 ⟨Nat.le_of_ble_eq_true rfl, Nat.le_of_ble_eq_true rfl⟩ ?_
  obtain ⟨y_3, hy_3, hX⟩ := nm_some hX
  refine xv_nmi hy_3 ?_
  refine xv_istore_n (pc := 9) (lv' := [(2, .int y_3), (0, .ref (a 0)), (1, .int x1)]) hC dX8_mend_9 rfl (by decide) rfl ?_
  refine xv_iload_n (pc := 10) hC dX8_mend_10 0 rfl rfl ?_
  refine xv_if_le (tgt := 22) (pc := 11) hC dX8_mend_11 (by decide) (fun c_4 => ?_) (fun c_4 => ?_)
  · replace hX := if_t c_4 hX
    refine xv_aload_n (pc := 22) hC dX8_mend_22 1 rfl rfl ?_
    refine xv_aload_n (pc := 23) hC dX8_mend_23 1 rfl rfl ?_
    refine xv_iload_n (pc := 24) hC dX8_mend_24 2 rfl rfl ?_
    obtain ⟨q_5, hq_5, hX⟩ := bnd_some hX
    refine xv_callVi0 (As := [.int x1]) (pc := 25) hC (kX8_mends hl hq_5) fV_X8_mends wf_1779 (rc_X8 (rfl : shR 0 = 1)) rfl ⟨Nat.le_of_ble_eq_true rfl, Nat.le_of_ble_eq_true rfl⟩ rfl (Nat.le_of_ble_eq_true rfl) dX8_mend_25 ⟨Nat.le_of_ble_eq_true rfl, Nat.le_of_ble_eq_true rfl⟩ ?_
    obtain ⟨q_6, hq_6, hX⟩ := bnd_some hX
    refine xv_callVi0 (As := [.int q_5.1]) (pc := 28) hC (kX8_commit hl hq_6) fV_X8_commit wf_1652 (rc_X8 (rfl : shR 0 = 1)) rfl ⟨Nat.le_of_ble_eq_true rfl, Nat.le_of_ble_eq_true rfl⟩ rfl (Nat.le_of_ble_eq_true rfl) dX8_mend_28 ⟨Nat.le_of_ble_eq_true rfl, Nat.le_of_ble_eq_true rfl⟩ ?_
    obtain ⟨h1, h2⟩ := some_pair hX
    exact xv_eqi (W := cwR dA a) h1 h2 (hR _ _ _ _ (Nat.le_of_ble_eq_true rfl) (Nat.le_of_ble_eq_true rfl) dX8_mend_31)
  · replace hX := if_f c_4 hX
    refine xv_aload_n (pc := 14) hC dX8_mend_14 1 rfl rfl ?_
    refine xv_iload_n (pc := 15) hC dX8_mend_15 0 rfl rfl ?_
    obtain ⟨q_7, hq_7, hX⟩ := bnd_some hX
    refine xv_callVi0 (As := [.int y_3]) (pc := 16) hC (kX8_fail hl hq_7) fV_X8_fail wf_1644 (rc_X8 (rfl : shR 0 = 1)) rfl ⟨Nat.le_of_ble_eq_true rfl, Nat.le_of_ble_eq_true rfl⟩ rfl (Nat.le_of_ble_eq_true rfl) dX8_mend_16 ⟨Nat.le_of_ble_eq_true rfl, Nat.le_of_ble_eq_true rfl⟩ ?_
    refine xv_goto (tgt := 31) (pc := 19) hC dX8_mend_19 (by decide) ?_
    obtain ⟨h1, h2⟩ := some_pair hX
    exact xv_eqi (W := cwR dA a) h1 h2 (hR _ _ _ _ (Nat.le_of_ble_eq_true rfl) (Nat.le_of_ble_eq_true rfl) dX8_mend_31)
def sX8_cannotCall (x1 : Int32) (x2 : Int32) (Z : ZZ) : Option (Int32 × ZZ) :=
  bnd (sX8_isUser x1 Z) <| fun q_1 =>
  if q_1.1 = 0 then (
    some (1, q_1.2)) else (
    bnd (sX8_isUser x2 q_1.2) <| fun q_3 =>
    if q_3.1 = 0 then (
      some (1, q_3.2)) else (
      if x1 = x2 then (
        some (2, q_3.2)) else (
        bnd (sX8_callOf x1 q_3.2) <| fun q_6 =>
        if (0 : Int32) ≤ q_6.1 then (
          some (3, q_6.2)) else (
          bnd (sX8_callOf x2 q_6.2) <| fun q_8 =>
          if q_8.1 < 0 then (
            bnd (sX8_u x1 0 q_8.2) <| fun q_10 =>
            bnd (sX8_u x2 0 q_10.2) <| fun q_11 =>
            bnd (sX8_finds q_10.1 q_11.1 (-1) q_11.2) <| fun q_12 =>
            if q_12.1 = 0 then (
              some (4, q_12.2)) else (
              some (0, q_12.2))) else (
            some (3, q_8.2))))))
abbrev rmX8_cannotCall : Room := { frames := 6, cells := 0, slots := 0, locals := 139 }
set_option maxHeartbeats 4000000 in
set_option maxRecDepth 100000 in
theorem kX8_cannotCall {l : Launch} {D : va_G} {dA : Nat → ClassId} {sa : String → Nat → Nat} {a : Nat → Nat} (hl : l.stackTraces = false) {x1 : Int32} {x2 : Int32} {Z Z' : ZZ} {v : Int32} (hX : sX8_cannotCall x1 x2 Z = some (v, Z')) : CTi l D dA sa yX8_cannotCall (wz yX8_cannotCall cX8_cannotCall 3 (some .int)) rmX8_cannotCall [.ref (a 0), .int x1, .int x2] (cwR dA a Z) v (cwR dA a Z') := by
  refine xm_i hl (by decide +kernel) (Nat.le_of_ble_eq_true rfl) rfl ?_
  intro p e s m args below meth c A Q hC hR
  unfold sX8_cannotCall at hX
  show xv p l e rmX8_cannotCall s m args below meth c D A 3 Q (cwR dA a Z) 0 0 0 [(0, .ref (a 0)), (1, .int x1), (2, .int x2)] []
  refine xv_aload_n (pc := 0) hC dX8_cannotCall_0 0 rfl rfl ?_
  refine xv_iload_n (pc := 1) hC dX8_cannotCall_1 1 rfl rfl ?_
  obtain ⟨q_1, hq_1, hX⟩ := bnd_some hX
  refine xv_callVi0 (As := [.int x1]) (pc := 2) hC (kX8_isUser hl hq_1) fV_X8_isUser wf_1791 (rc_X8 (rfl : shR 0 = 1)) rfl ⟨Nat.le_of_ble_eq_true rfl, Nat.le_of_ble_eq_true rfl⟩ rfl (Nat.le_of_ble_eq_true rfl) dX8_cannotCall_2 ⟨Nat.le_of_ble_eq_true rfl, Nat.le_of_ble_eq_true rfl⟩ ?_
  refine xv_if_eq (tgt := 16) (pc := 5) hC dX8_cannotCall_5 (by decide) (fun c_2 => ?_) (fun c_2 => ?_)
  · replace hX := if_t c_2 hX
    refine xv_iconst (v := 1) (pc := 16) hC dX8_cannotCall_16 (by decide) ?_
    obtain ⟨h1, h2⟩ := some_pair hX
    exact xv_eqi (W := cwR dA a) h1 h2 (hR _ _ _ _ (Nat.le_of_ble_eq_true rfl) (Nat.le_of_ble_eq_true rfl) dX8_cannotCall_17)
  · replace hX := if_f c_2 hX
    refine xv_aload_n (pc := 8) hC dX8_cannotCall_8 0 rfl rfl ?_
    refine xv_iload_n (pc := 9) hC dX8_cannotCall_9 2 rfl rfl ?_
    obtain ⟨q_3, hq_3, hX⟩ := bnd_some hX
    refine xv_callVi0 (As := [.int x2]) (pc := 10) hC (kX8_isUser hl hq_3) fV_X8_isUser wf_1791 (rc_X8 (rfl : shR 0 = 1)) rfl ⟨Nat.le_of_ble_eq_true rfl, Nat.le_of_ble_eq_true rfl⟩ rfl (Nat.le_of_ble_eq_true rfl) dX8_cannotCall_10 ⟨Nat.le_of_ble_eq_true rfl, Nat.le_of_ble_eq_true rfl⟩ ?_
    refine xv_if_ne (tgt := 18) (pc := 13) hC dX8_cannotCall_13 (by decide) (fun c_4 => ?_) (fun c_4 => ?_)
    · replace hX := if_f c_4 hX
      refine xv_iload_n (pc := 18) hC dX8_cannotCall_18 1 rfl rfl ?_
      refine xv_iload_n (pc := 19) hC dX8_cannotCall_19 2 rfl rfl ?_
      refine xv_icmp_ne (tgt := 25) (pc := 20) hC dX8_cannotCall_20 (by decide) (fun c_5 => ?_) (fun c_5 => ?_)
      · replace hX := if_f c_5 hX
        refine xv_aload_n (pc := 25) hC dX8_cannotCall_25 0 rfl rfl ?_
        refine xv_iload_n (pc := 26) hC dX8_cannotCall_26 1 rfl rfl ?_
        obtain ⟨q_6, hq_6, hX⟩ := bnd_some hX
        refine xv_callVi0 (As := [.int x1]) (pc := 27) hC (kX8_callOf hl hq_6) fV_X8_callOf wf_1795 (rc_X8 (rfl : shR 0 = 1)) rfl ⟨Nat.le_of_ble_eq_true rfl, Nat.le_of_ble_eq_true rfl⟩ rfl (Nat.le_of_ble_eq_true rfl) dX8_cannotCall_27 ⟨Nat.le_of_ble_eq_true rfl, Nat.le_of_ble_eq_true rfl⟩ ?_
        refine xv_if_ge (tgt := 41) (pc := 30) hC dX8_cannotCall_30 (by decide) (fun c_7 => ?_) (fun c_7 => ?_)
        · replace hX := if_t c_7 hX
          refine xv_iconst (v := 3) (pc := 41) hC dX8_cannotCall_41 (by decide) ?_
          obtain ⟨h1, h2⟩ := some_pair hX
          exact xv_eqi (W := cwR dA a) h1 h2 (hR _ _ _ _ (Nat.le_of_ble_eq_true rfl) (Nat.le_of_ble_eq_true rfl) dX8_cannotCall_42)
        · replace hX := if_f c_7 hX
          refine xv_aload_n (pc := 33) hC dX8_cannotCall_33 0 rfl rfl ?_
          refine xv_iload_n (pc := 34) hC dX8_cannotCall_34 2 rfl rfl ?_
          obtain ⟨q_8, hq_8, hX⟩ := bnd_some hX
          refine xv_callVi0 (As := [.int x2]) (pc := 35) hC (kX8_callOf hl hq_8) fV_X8_callOf wf_1795 (rc_X8 (rfl : shR 0 = 1)) rfl ⟨Nat.le_of_ble_eq_true rfl, Nat.le_of_ble_eq_true rfl⟩ rfl (Nat.le_of_ble_eq_true rfl) dX8_cannotCall_35 ⟨Nat.le_of_ble_eq_true rfl, Nat.le_of_ble_eq_true rfl⟩ ?_
          refine xv_if_lt (tgt := 43) (pc := 38) hC dX8_cannotCall_38 (by decide) (fun c_9 => ?_) (fun c_9 => ?_)
          · replace hX := if_t c_9 hX
            refine xv_aload_n (pc := 43) hC dX8_cannotCall_43 0 rfl rfl ?_
            refine xv_aload_n (pc := 44) hC dX8_cannotCall_44 0 rfl rfl ?_
            refine xv_iload_n (pc := 45) hC dX8_cannotCall_45 1 rfl rfl ?_
            refine xv_iconst (v := 0) (pc := 46) hC dX8_cannotCall_46 (by decide) ?_
            obtain ⟨q_10, hq_10, hX⟩ := bnd_some hX
            refine xv_callVi0 (As := [.int x1, .int 0]) (pc := 47) hC (kX8_u hl hq_10) fV_X8_u wf_1723 (rc_X8 (rfl : shR 0 = 1)) rfl ⟨Nat.le_of_ble_eq_true rfl, Nat.le_of_ble_eq_true rfl⟩ rfl (Nat.le_of_ble_eq_true rfl) dX8_cannotCall_47 ⟨Nat.le_of_ble_eq_true rfl, Nat.le_of_ble_eq_true rfl⟩ ?_
            refine xv_aload_n (pc := 50) hC dX8_cannotCall_50 0 rfl rfl ?_
            refine xv_iload_n (pc := 51) hC dX8_cannotCall_51 2 rfl rfl ?_
            refine xv_iconst (v := 0) (pc := 52) hC dX8_cannotCall_52 (by decide) ?_
            obtain ⟨q_11, hq_11, hX⟩ := bnd_some hX
            refine xv_callVi0 (As := [.int x2, .int 0]) (pc := 53) hC (kX8_u hl hq_11) fV_X8_u wf_1723 (rc_X8 (rfl : shR 0 = 1)) rfl ⟨Nat.le_of_ble_eq_true rfl, Nat.le_of_ble_eq_true rfl⟩ rfl (Nat.le_of_ble_eq_true rfl) dX8_cannotCall_53 ⟨Nat.le_of_ble_eq_true rfl, Nat.le_of_ble_eq_true rfl⟩ ?_
            refine xv_iconst (v := (-1)) (pc := 56) hC dX8_cannotCall_56 (by decide) ?_
            obtain ⟨q_12, hq_12, hX⟩ := bnd_some hX
            refine xv_callVi0 (As := [.int q_10.1, .int q_11.1, .int (-1)]) (pc := 57) hC (kX8_finds hl hq_12) fV_X8_finds wf_1727 (rc_X8 (rfl : shR 0 = 1)) rfl ⟨Nat.le_of_ble_eq_true rfl, Nat.le_of_ble_eq_true rfl⟩ rfl (Nat.le_of_ble_eq_true rfl) dX8_cannotCall_57 ⟨Nat.le_of_ble_eq_true rfl, Nat.le_of_ble_eq_true rfl⟩ ?_
            refine xv_if_eq (tgt := 67) (pc := 60) hC dX8_cannotCall_60 (by decide) (fun c_13 => ?_) (fun c_13 => ?_)
            · replace hX := if_t c_13 hX
              refine xv_iconst (v := 4) (pc := 67) hC dX8_cannotCall_67 (by decide) ?_
              obtain ⟨h1, h2⟩ := some_pair hX
              exact xv_eqi (W := cwR dA a) h1 h2 (hR _ _ _ _ (Nat.le_of_ble_eq_true rfl) (Nat.le_of_ble_eq_true rfl) dX8_cannotCall_68)
            · replace hX := if_f c_13 hX
              refine xv_iconst (v := 0) (pc := 63) hC dX8_cannotCall_63 (by decide) ?_
              refine xv_goto (tgt := 68) (pc := 64) hC dX8_cannotCall_64 (by decide) ?_
              obtain ⟨h1, h2⟩ := some_pair hX
              exact xv_eqi (W := cwR dA a) h1 h2 (hR _ _ _ _ (Nat.le_of_ble_eq_true rfl) (Nat.le_of_ble_eq_true rfl) dX8_cannotCall_68)
          · replace hX := if_f c_9 hX
            refine xv_iconst (v := 3) (pc := 41) hC dX8_cannotCall_41 (by decide) ?_
            obtain ⟨h1, h2⟩ := some_pair hX
            exact xv_eqi (W := cwR dA a) h1 h2 (hR _ _ _ _ (Nat.le_of_ble_eq_true rfl) (Nat.le_of_ble_eq_true rfl) dX8_cannotCall_42)
      · replace hX := if_t c_5 hX
        refine xv_iconst (v := 2) (pc := 23) hC dX8_cannotCall_23 (by decide) ?_
        obtain ⟨h1, h2⟩ := some_pair hX
        exact xv_eqi (W := cwR dA a) h1 h2 (hR _ _ _ _ (Nat.le_of_ble_eq_true rfl) (Nat.le_of_ble_eq_true rfl) dX8_cannotCall_24)
    · replace hX := if_t c_4 hX
      refine xv_iconst (v := 1) (pc := 16) hC dX8_cannotCall_16 (by decide) ?_
      obtain ⟨h1, h2⟩ := some_pair hX
      exact xv_eqi (W := cwR dA a) h1 h2 (hR _ _ _ _ (Nat.le_of_ble_eq_true rfl) (Nat.le_of_ble_eq_true rfl) dX8_cannotCall_17)
def sX8_connects (x1 : Int32) (x2 : Int32) (Z : ZZ) : Option (Int32 × ZZ) :=
  gd (vin 3 180 = true) <|
  nm (gI Z 1 (3 : Int32).toNatClampNeg) <| fun y_2 =>
  bnd (sX8_setCall y_2 0 x1 Z) <| fun q_3 =>
  bnd (sX8_setCall y_2 1 x2 q_3) <| fun q_4 =>
  bnd (sX8_setCall y_2 2 0 q_4) <| fun q_5 =>
  bnd (sX8_takesRoute y_2 q_5) <| fun q_6 =>
  gd (vin 3 180 = true) <|
  gd (vin 3 180 = true) <|
  nm (pI q_6 1 (3 : Int32).toNatClampNeg ((gI q_6 1 (3 : Int32).toNatClampNeg) + 1)) <| fun Z_9 =>
  bnd (sX8_lengthOf y_2 Z_9) <| fun q_10 =>
  some (q_10.1, q_10.2)
abbrev rmX8_connects : Room := { frames := 2, cells := 0, slots := 0, locals := 45 }
set_option maxHeartbeats 4000000 in
set_option maxRecDepth 100000 in
theorem kX8_connects {l : Launch} {D : va_G} {dA : Nat → ClassId} {sa : String → Nat → Nat} {a : Nat → Nat} (hl : l.stackTraces = false) {x1 : Int32} {x2 : Int32} {Z Z' : ZZ} {v : Int32} (hX : sX8_connects x1 x2 Z = some (v, Z')) : CTi l D dA sa yX8_connects (wz yX8_connects cX8_connects 4 (some .int)) rmX8_connects [.ref (a 0), .int x1, .int x2] (cwR dA a Z) v (cwR dA a Z') := by
  refine xm_i hl (by decide +kernel) (Nat.le_of_ble_eq_true rfl) rfl ?_
  intro p e s m args below meth c A Q hC hR
  unfold sX8_connects at hX
  show xv p l e rmX8_connects s m args below meth c D A 4 Q (cwR dA a Z) 0 0 0 [(0, .ref (a 0)), (1, .int x1), (2, .int x2)] []
  refine xv_aload_n (pc := 0) hC dX8_connects_0 0 rfl rfl ?_
  refine xgX8 (v := .ref (a 1)) (pc := 1) hC dX8_connects_1 (rfl : shR 0 = 1) 0 (by decide) wf_1553 rfl ?_
  refine xv_iconst (v := 3) (pc := 4) hC dX8_connects_4 (by decide) ?_
  obtain ⟨h_1, hX⟩ := gd_some hX
  refine xl_R2 (pc := 5) hC dX8_connects_5 (rfl : shR 1 = 2) h_1 ?_
  obtain ⟨y_2, hy_2, hX⟩ := nm_some hX
  refine xv_nmi hy_2 ?_
  refine xv_istore_n (pc := 6) (lv' := [(3, .int y_2), (0, .ref (a 0)), (1, .int x1), (2, .int x2)]) hC dX8_connects_6 rfl (by decide) rfl ?_
  refine xv_aload_n (pc := 7) hC dX8_connects_7 1 rfl rfl ?_
  refine xv_iload_n (pc := 8) hC dX8_connects_8 0 rfl rfl ?_
  refine xv_iconst (v := 0) (pc := 9) hC dX8_connects_9 (by decide) ?_
  refine xv_iload_n (pc := 10) hC dX8_connects_10 2 rfl rfl ?_
  obtain ⟨q_3, hq_3, hX⟩ := bnd_some hX
  refine xv_callVv0 (As := [.int y_2, .int 0, .int x1]) (pc := 11) hC (kX8_setCall hl hq_3) fV_X8_setCall wf_1763 (rc_X8 (rfl : shR 0 = 1)) rfl ⟨Nat.le_of_ble_eq_true rfl, Nat.le_of_ble_eq_true rfl⟩ rfl (Nat.le_of_ble_eq_true rfl) dX8_connects_11 ⟨Nat.le_of_ble_eq_true rfl, Nat.le_of_ble_eq_true rfl⟩ ?_
  refine xv_aload_n (pc := 14) hC dX8_connects_14 1 rfl rfl ?_
  refine xv_iload_n (pc := 15) hC dX8_connects_15 0 rfl rfl ?_
  refine xv_iconst (v := 1) (pc := 16) hC dX8_connects_16 (by decide) ?_
  refine xv_iload_n (pc := 17) hC dX8_connects_17 3 rfl rfl ?_
  obtain ⟨q_4, hq_4, hX⟩ := bnd_some hX
  refine xv_callVv0 (As := [.int y_2, .int 1, .int x2]) (pc := 18) hC (kX8_setCall hl hq_4) fV_X8_setCall wf_1763 (rc_X8 (rfl : shR 0 = 1)) rfl ⟨Nat.le_of_ble_eq_true rfl, Nat.le_of_ble_eq_true rfl⟩ rfl (Nat.le_of_ble_eq_true rfl) dX8_connects_18 ⟨Nat.le_of_ble_eq_true rfl, Nat.le_of_ble_eq_true rfl⟩ ?_
  refine xv_aload_n (pc := 21) hC dX8_connects_21 1 rfl rfl ?_
  refine xv_iload_n (pc := 22) hC dX8_connects_22 0 rfl rfl ?_
  refine xv_iconst (v := 2) (pc := 23) hC dX8_connects_23 (by decide) ?_
  refine xv_iconst (v := 0) (pc := 24) hC dX8_connects_24 (by decide) ?_
  obtain ⟨q_5, hq_5, hX⟩ := bnd_some hX
  refine xv_callVv0 (As := [.int y_2, .int 2, .int 0]) (pc := 25) hC (kX8_setCall hl hq_5) fV_X8_setCall wf_1763 (rc_X8 (rfl : shR 0 = 1)) rfl ⟨Nat.le_of_ble_eq_true rfl, Nat.le_of_ble_eq_true rfl⟩ rfl (Nat.le_of_ble_eq_true rfl) dX8_connects_25 ⟨Nat.le_of_ble_eq_true rfl, Nat.le_of_ble_eq_true rfl⟩ ?_
  refine xv_aload_n (pc := 28) hC dX8_connects_28 1 rfl rfl ?_
  refine xv_iload_n (pc := 29) hC dX8_connects_29 0 rfl rfl ?_
  obtain ⟨q_6, hq_6, hX⟩ := bnd_some hX
  refine xv_callVv0 (As := [.int y_2]) (pc := 30) hC (kX8_takesRoute hl hq_6) fV_X8_takesRoute wf_1767 (rc_X8 (rfl : shR 0 = 1)) rfl ⟨Nat.le_of_ble_eq_true rfl, Nat.le_of_ble_eq_true rfl⟩ rfl (Nat.le_of_ble_eq_true rfl) dX8_connects_30 ⟨Nat.le_of_ble_eq_true rfl, Nat.le_of_ble_eq_true rfl⟩ ?_
  refine xv_aload_n (pc := 33) hC dX8_connects_33 1 rfl rfl ?_
  refine xgX8 (v := .ref (a 1)) (pc := 34) hC dX8_connects_34 (rfl : shR 0 = 1) 0 (by decide) wf_1553 rfl ?_
  refine xv_iconst (v := 3) (pc := 37) hC dX8_connects_37 (by decide) ?_
  refine xv_dup2 (pc := 38) hC dX8_connects_38 rfl rfl ?_
  obtain ⟨h_7, hX⟩ := gd_some hX
  refine xl_R2 (pc := 39) hC dX8_connects_39 (rfl : shR 1 = 2) h_7 ?_
  refine xv_iconst (v := 1) (pc := 40) hC dX8_connects_40 (by decide) ?_
  refine xv_iadd (pc := 41) hC dX8_connects_41 ?_
  obtain ⟨h_8, hX⟩ := gd_some hX
  obtain ⟨Z_9, hZ_9, hX⟩ := nm_some hX
  refine xs_R2 (pc := 42) hC dX8_connects_42 (rfl : shR 1 = 2) h_8 hZ_9 ?_
  refine xv_aload_n (pc := 43) hC dX8_connects_43 1 rfl rfl ?_
  refine xv_iload_n (pc := 44) hC dX8_connects_44 0 rfl rfl ?_
  obtain ⟨q_10, hq_10, hX⟩ := bnd_some hX
  refine xv_callVi0 (As := [.int y_2]) (pc := 45) hC (kX8_lengthOf hl hq_10) fV_X8_lengthOf wf_1759 (rc_X8 (rfl : shR 0 = 1)) rfl ⟨Nat.le_of_ble_eq_true rfl, Nat.le_of_ble_eq_true rfl⟩ rfl (Nat.le_of_ble_eq_true rfl) dX8_connects_45 ⟨Nat.le_of_ble_eq_true rfl, Nat.le_of_ble_eq_true rfl⟩ ?_
  obtain ⟨h1, h2⟩ := some_pair hX
  exact xv_eqi (W := cwR dA a) h1 h2 (hR _ _ _ _ (Nat.le_of_ble_eq_true rfl) (Nat.le_of_ble_eq_true rfl) dX8_connects_48)
def sX8_blocks_B61 (x1 : Int32) (x2 : Int32) (x3 : Int32) (Z : ZZ) : Option (ZZ) :=
  gd (vin (3 * (gI Z 0 12)) 24 = true) <|
  nm (pI Z 5 (3 * (gI Z 0 12)).toNatClampNeg x1) <| fun Z_2 =>
  gd (vin ((3 * (gI Z_2 0 12)) + 1) 24 = true) <|
  nm (pI Z_2 5 ((3 * (gI Z_2 0 12)) + 1).toNatClampNeg x2) <| fun Z_4 =>
  if x3 = 3 then (
    gd (vin ((3 * (gI Z_4 0 12)) + 2) 24 = true) <|
    nm (pI Z_4 5 ((3 * (gI Z_4 0 12)) + 2).toNatClampNeg 98) <| fun Z_10 =>
    nm (pI Z_10 0 12 ((gI Z_10 0 12) + 1)) <| fun Z_11 =>
    some Z_11) else (
    gd (vin ((3 * (gI Z_4 0 12)) + 2) 24 = true) <|
    nm (pI Z_4 5 ((3 * (gI Z_4 0 12)) + 2).toNatClampNeg 114) <| fun Z_7 =>
    nm (pI Z_7 0 12 ((gI Z_7 0 12) + 1)) <| fun Z_8 =>
    some Z_8)
def sX8_blocks_L28 (x1 : Int32) (x2 : Int32) (x3 : Int32) : Nat → Int32 → ZZ → Option (ZZ)
  | 0, _, _ => none
  | n + 1, y4, Z =>
  if (3 * (gI Z 0 12)) ≤ y4 then (
    sX8_blocks_B61 x1 x2 x3 Z) else (
    gd (vin (y4 + 3) 24 = true) <|
    gd (vin y4 24 = true) <|
    nm (pI Z 5 y4.toNatClampNeg (gI Z 5 (y4 + 3).toNatClampNeg)) <| fun Z_15 =>
    nm (y4 + 1) <| fun y_16 =>
    sX8_blocks_L28 x1 x2 x3 n y_16 Z_15)
def sX8_blocks (x1 : Int32) (x2 : Int32) (x3 : Int32) (Z : ZZ) : Option (ZZ) :=
  if (3 : Int32) ≤ x3 then (
    if (gI Z 0 12) = 8 then (
      nm (pI Z 0 12 ((gI Z 0 12) - 1)) <| fun Z_19 =>
      sX8_blocks_L28 x1 x2 x3 3000 0 Z_19) else (
      sX8_blocks_B61 x1 x2 x3 Z)) else (
    some Z)
abbrev rmX8_blocks : Room := { frames := 0, cells := 0, slots := 0, locals := 0 }
set_option maxHeartbeats 4000000 in
set_option maxRecDepth 100000 in
theorem kX8_blocks {l : Launch} {D : va_G} {dA : Nat → ClassId} {sa : String → Nat → Nat} {a : Nat → Nat} (hl : l.stackTraces = false) {x1 : Int32} {x2 : Int32} {x3 : Int32} {Z Z' : ZZ} (hX : sX8_blocks x1 x2 x3 Z = some Z') : CTv l D dA sa yX8_blocks (wz yX8_blocks cX8_blocks 5 none) rmX8_blocks [.ref (a 0), .int x1, .int x2, .int x3] (cwR dA a Z) (cwR dA a Z') := by
  refine xm_v hl (by decide +kernel) (Nat.le_of_ble_eq_true rfl) rfl ?_
  intro p e s m args below meth c A Q hC hR
  unfold sX8_blocks at hX
  have v61 : ∀ (Z : ZZ), sX8_blocks_B61 x1 x2 x3 Z = some Z' → xv p l e rmX8_blocks s m args below meth c D A 5 Q (cwR dA a Z) 0 0 61 [(0, .ref (a 0)), (1, .int x1), (2, .int x2), (3, .int x3)] [] := by
    intro Z hX
    unfold sX8_blocks_B61 at hX
    refine xv_aload_n (pc := 61) hC dX8_blocks_61 0 rfl rfl ?_
    refine xgX8 (v := .ref (a 5)) (pc := 62) hC dX8_blocks_62 (rfl : shR 0 = 1) 4 (by decide) wf_1557 rfl ?_
    refine xv_iconst (v := 3) (pc := 65) hC dX8_blocks_65 (by decide) ?_
    refine xv_aload_n (pc := 66) hC dX8_blocks_66 0 rfl rfl ?_
    refine xgX8 (v := .int (gI Z 0 12)) (pc := 67) hC dX8_blocks_67 (rfl : shR 0 = 1) 12 (by decide) wf_1565 rfl ?_
    refine xv_imul (pc := 70) hC dX8_blocks_70 ?_
    refine xv_iload_n (pc := 71) hC dX8_blocks_71 1 rfl rfl ?_
    obtain ⟨h_1, hX⟩ := gd_some hX
    obtain ⟨Z_2, hZ_2, hX⟩ := nm_some hX
    refine xs_R4 (pc := 72) hC dX8_blocks_72 (rfl : shR 5 = 4) h_1 hZ_2 ?_
    refine xv_aload_n (pc := 73) hC dX8_blocks_73 0 rfl rfl ?_
    refine xgX8 (v := .ref (a 5)) (pc := 74) hC dX8_blocks_74 (rfl : shR 0 = 1) 4 (by decide) wf_1557 rfl ?_
    refine xv_iconst (v := 3) (pc := 77) hC dX8_blocks_77 (by decide) ?_
    refine xv_aload_n (pc := 78) hC dX8_blocks_78 0 rfl rfl ?_
    refine xgX8 (v := .int (gI Z_2 0 12)) (pc := 79) hC dX8_blocks_79 (rfl : shR 0 = 1) 12 (by decide) wf_1565 rfl ?_
    refine xv_imul (pc := 82) hC dX8_blocks_82 ?_
    refine xv_iconst (v := 1) (pc := 83) hC dX8_blocks_83 (by decide) ?_
    refine xv_iadd (pc := 84) hC dX8_blocks_84 ?_
    refine xv_iload_n (pc := 85) hC dX8_blocks_85 2 rfl rfl ?_
    obtain ⟨h_3, hX⟩ := gd_some hX
    obtain ⟨Z_4, hZ_4, hX⟩ := nm_some hX
    refine xs_R4 (pc := 86) hC dX8_blocks_86 (rfl : shR 5 = 4) h_3 hZ_4 ?_
    refine xv_aload_n (pc := 87) hC dX8_blocks_87 0 rfl rfl ?_
    refine xgX8 (v := .ref (a 5)) (pc := 88) hC dX8_blocks_88 (rfl : shR 0 = 1) 4 (by decide) wf_1557 rfl ?_
    refine xv_iconst (v := 3) (pc := 91) hC dX8_blocks_91 (by decide) ?_
    refine xv_aload_n (pc := 92) hC dX8_blocks_92 0 rfl rfl ?_
    refine xgX8 (v := .int (gI Z_4 0 12)) (pc := 93) hC dX8_blocks_93 (rfl : shR 0 = 1) 12 (by decide) wf_1565 rfl ?_
    refine xv_imul (pc := 96) hC dX8_blocks_96 ?_
    refine xv_iconst (v := 2) (pc := 97) hC dX8_blocks_97 (by decide) ?_
    refine xv_iadd (pc := 98) hC dX8_blocks_98 ?_
    refine xv_iload_n (pc := 99) hC dX8_blocks_99 3 rfl rfl ?_
    refine xv_iconst (v := 3) (pc := 100) hC dX8_blocks_100 (by decide) ?_
    refine xv_icmp_ne (tgt := 109) (pc := 101) hC dX8_blocks_101 (by decide) (fun c_5 => ?_) (fun c_5 => ?_)
    · replace hX := if_f c_5 hX
      refine xv_bipush (v := 114) (pc := 109) hC dX8_blocks_109 (by decide) ?_
      obtain ⟨h_6, hX⟩ := gd_some hX
      obtain ⟨Z_7, hZ_7, hX⟩ := nm_some hX
      refine xs_R4 (pc := 111) hC dX8_blocks_111 (rfl : shR 5 = 4) h_6 hZ_7 ?_
      refine xv_aload_n (pc := 112) hC dX8_blocks_112 0 rfl rfl ?_
      refine xv_dup (pc := 113) hC dX8_blocks_113 rfl ?_
      refine xgX8 (v := .int (gI Z_7 0 12)) (pc := 114) hC dX8_blocks_114 (rfl : shR 0 = 1) 12 (by decide) wf_1565 rfl ?_
      refine xv_iconst (v := 1) (pc := 117) hC dX8_blocks_117 (by decide) ?_
      refine xv_iadd (pc := 118) hC dX8_blocks_118 ?_
      obtain ⟨Z_8, hZ_8, hX⟩ := nm_some hX
      refine xpX8 (ty := .int) (pc := 119) hC dX8_blocks_119 (rfl : shR 0 = 1) 12 (by decide) wf_1565 rfl (by decide +kernel) rfl rfl rfl hZ_8 ?_
      exact xv_eqw (W := cwR dA a) (Option.some.inj hX) (hR _ _ _ _ (Nat.le_of_ble_eq_true rfl) (Nat.le_of_ble_eq_true rfl) dX8_blocks_122)
    · replace hX := if_t c_5 hX
      refine xv_bipush (v := 98) (pc := 104) hC dX8_blocks_104 (by decide) ?_
      refine xv_goto (tgt := 111) (pc := 106) hC dX8_blocks_106 (by decide) ?_
      obtain ⟨h_9, hX⟩ := gd_some hX
      obtain ⟨Z_10, hZ_10, hX⟩ := nm_some hX
      refine xs_R4 (pc := 111) hC dX8_blocks_111 (rfl : shR 5 = 4) h_9 hZ_10 ?_
      refine xv_aload_n (pc := 112) hC dX8_blocks_112 0 rfl rfl ?_
      refine xv_dup (pc := 113) hC dX8_blocks_113 rfl ?_
      refine xgX8 (v := .int (gI Z_10 0 12)) (pc := 114) hC dX8_blocks_114 (rfl : shR 0 = 1) 12 (by decide) wf_1565 rfl ?_
      refine xv_iconst (v := 1) (pc := 117) hC dX8_blocks_117 (by decide) ?_
      refine xv_iadd (pc := 118) hC dX8_blocks_118 ?_
      obtain ⟨Z_11, hZ_11, hX⟩ := nm_some hX
      refine xpX8 (ty := .int) (pc := 119) hC dX8_blocks_119 (rfl : shR 0 = 1) 12 (by decide) wf_1565 rfl (by decide +kernel) rfl rfl rfl hZ_11 ?_
      exact xv_eqw (W := cwR dA a) (Option.some.inj hX) (hR _ _ _ _ (Nat.le_of_ble_eq_true rfl) (Nat.le_of_ble_eq_true rfl) dX8_blocks_122)
  have v28 : ∀ (n : Nat) (y4 : Int32) (Z : ZZ), sX8_blocks_L28 x1 x2 x3 n y4 Z = some Z' → xv p l e rmX8_blocks s m args below meth c D A 5 Q (cwR dA a Z) 0 0 28 [(0, .ref (a 0)), (1, .int x1), (2, .int x2), (3, .int x3), (4, .int y4)] [] := by
    intro n
    induction n with
    | zero =>
      intro y4 Z hX
      exact absurd hX (by simp [sX8_blocks_L28])
    | succ n ih =>
      intro y4 Z hX
      rw [sX8_blocks_L28] at hX
      refine xv_iload (pc := 28) hC dX8_blocks_28 4 rfl ?_
      refine xv_iconst (v := 3) (pc := 30) hC dX8_blocks_30 (by decide) ?_
      refine xv_aload_n (pc := 31) hC dX8_blocks_31 0 rfl rfl ?_
      refine xgX8 (v := .int (gI Z 0 12)) (pc := 32) hC dX8_blocks_32 (rfl : shR 0 = 1) 12 (by decide) wf_1565 rfl ?_
      refine xv_imul (pc := 35) hC dX8_blocks_35 ?_
      refine xv_icmp_ge (tgt := 61) (pc := 36) hC dX8_blocks_36 (by decide) (fun c_12 => ?_) (fun c_12 => ?_)
      · replace hX := if_t c_12 hX
        refine xv_sub (lv' := [(0, .ref (a 0)), (1, .int x1), (2, .int x2), (3, .int x3)]) [0, 1, 2, 3] rfl ?_
        exact v61 Z hX
      · replace hX := if_f c_12 hX
        refine xv_aload_n (pc := 39) hC dX8_blocks_39 0 rfl rfl ?_
        refine xgX8 (v := .ref (a 5)) (pc := 40) hC dX8_blocks_40 (rfl : shR 0 = 1) 4 (by decide) wf_1557 rfl ?_
        refine xv_iload (pc := 43) hC dX8_blocks_43 4 rfl ?_
        refine xv_aload_n (pc := 45) hC dX8_blocks_45 0 rfl rfl ?_
        refine xgX8 (v := .ref (a 5)) (pc := 46) hC dX8_blocks_46 (rfl : shR 0 = 1) 4 (by decide) wf_1557 rfl ?_
        refine xv_iload (pc := 49) hC dX8_blocks_49 4 rfl ?_
        refine xv_iconst (v := 3) (pc := 51) hC dX8_blocks_51 (by decide) ?_
        refine xv_iadd (pc := 52) hC dX8_blocks_52 ?_
        obtain ⟨h_13, hX⟩ := gd_some hX
        refine xl_R4 (pc := 53) hC dX8_blocks_53 (rfl : shR 5 = 4) h_13 ?_
        obtain ⟨h_14, hX⟩ := gd_some hX
        obtain ⟨Z_15, hZ_15, hX⟩ := nm_some hX
        refine xs_R4 (pc := 54) hC dX8_blocks_54 (rfl : shR 5 = 4) h_14 hZ_15 ?_
        obtain ⟨y_16, hy_16, hX⟩ := nm_some hX
        refine xv_iinc (pc := 55) (v := y_16) (lv' := [(4, .int y_16), (0, .ref (a 0)), (1, .int x1), (2, .int x2), (3, .int x3)]) hC dX8_blocks_55 4 rfl (by rw [hy_16]; rfl) (by decide) rfl ?_
        refine xv_goto (tgt := 28) (pc := 58) hC dX8_blocks_58 (by decide) ?_
        refine xv_sub (lv' := [(0, .ref (a 0)), (1, .int x1), (2, .int x2), (3, .int x3), (4, .int y_16)]) [1, 2, 3, 4, 0] rfl ?_
        exact ih y_16 Z_15 hX
  show xv p l e rmX8_blocks s m args below meth c D A 5 Q (cwR dA a Z) 0 0 0 [(0, .ref (a 0)), (1, .int x1), (2, .int x2), (3, .int x3)] []
  refine xv_iload_n (pc := 0) hC dX8_blocks_0 3 rfl rfl ?_
  refine xv_iconst (v := 3) (pc := 1) hC dX8_blocks_1 (by decide) ?_
  refine xv_icmp_ge (tgt := 6) (pc := 2) hC dX8_blocks_2 (by decide) (fun c_17 => ?_) (fun c_17 => ?_)
  · replace hX := if_t c_17 hX
    refine xv_aload_n (pc := 6) hC dX8_blocks_6 0 rfl rfl ?_
    refine xgX8 (v := .int (gI Z 0 12)) (pc := 7) hC dX8_blocks_7 (rfl : shR 0 = 1) 12 (by decide) wf_1565 rfl ?_
    refine xv_bipush (v := 8) (pc := 10) hC dX8_blocks_10 (by decide) ?_
    refine xv_icmp_ne (tgt := 61) (pc := 12) hC dX8_blocks_12 (by decide) (fun c_18 => ?_) (fun c_18 => ?_)
    · replace hX := if_f c_18 hX
      exact v61 Z hX
    · replace hX := if_t c_18 hX
      refine xv_aload_n (pc := 15) hC dX8_blocks_15 0 rfl rfl ?_
      refine xv_dup (pc := 16) hC dX8_blocks_16 rfl ?_
      refine xgX8 (v := .int (gI Z 0 12)) (pc := 17) hC dX8_blocks_17 (rfl : shR 0 = 1) 12 (by decide) wf_1565 rfl ?_
      refine xv_iconst (v := 1) (pc := 20) hC dX8_blocks_20 (by decide) ?_
      refine xv_isub (pc := 21) hC dX8_blocks_21 ?_
      obtain ⟨Z_19, hZ_19, hX⟩ := nm_some hX
      refine xpX8 (ty := .int) (pc := 22) hC dX8_blocks_22 (rfl : shR 0 = 1) 12 (by decide) wf_1565 rfl (by decide +kernel) rfl rfl rfl hZ_19 ?_
      refine xv_iconst (v := 0) (pc := 25) hC dX8_blocks_25 (by decide) ?_
      refine xv_istore (pc := 26) (lv' := [(4, .int 0), (0, .ref (a 0)), (1, .int x1), (2, .int x2), (3, .int x3)]) hC dX8_blocks_26 (by decide) rfl ?_
      refine xv_sub (lv' := [(0, .ref (a 0)), (1, .int x1), (2, .int x2), (3, .int x3), (4, .int 0)]) [1, 2, 3, 4, 0] rfl ?_
      exact v28 3000 0 Z_19 hX
  · replace hX := if_f c_17 hX
    exact xv_eqw (W := cwR dA a) (Option.some.inj hX) (hR _ _ _ _ (Nat.le_of_ble_eq_true rfl) (Nat.le_of_ble_eq_true rfl) dX8_blocks_5)
def sX8_call (x1 : Int32) (x2 : Int32) (Z : ZZ) : Option (Int32 × ZZ) :=
  bnd (sX8_begin Z) <| fun q_1 =>
  bnd (sX8_cannotCall x1 x2 q_1) <| fun q_2 =>
  nm (q_2.1) <| fun y_3 =>
  bnd (sX8_blocks x1 x2 y_3 q_2.2) <| fun q_4 =>
  if y_3 ≤ 0 then (
    bnd (sX8_connects x1 x2 q_4) <| fun q_6 =>
    bnd (sX8_commit q_6.1 q_6.2) <| fun q_7 =>
    some (q_7.1, q_7.2)) else (
    bnd (sX8_fail y_3 q_4) <| fun q_8 =>
    some (q_8.1, q_8.2))
abbrev rmX8_call : Room := { frames := 7, cells := 0, slots := 0, locals := 161 }
set_option maxHeartbeats 4000000 in
set_option maxRecDepth 100000 in
theorem kX8_call {l : Launch} {D : va_G} {dA : Nat → ClassId} {sa : String → Nat → Nat} {a : Nat → Nat} (hl : l.stackTraces = false) {x1 : Int32} {x2 : Int32} {Z Z' : ZZ} {v : Int32} (hX : sX8_call x1 x2 Z = some (v, Z')) : CTi l D dA sa yX8_call (wz yX8_call cX8_call 4 (some .int)) rmX8_call [.ref (a 0), .int x1, .int x2] (cwR dA a Z) v (cwR dA a Z') := by
  refine xm_i hl (by decide +kernel) (Nat.le_of_ble_eq_true rfl) rfl ?_
  intro p e s m args below meth c A Q hC hR
  unfold sX8_call at hX
  show xv p l e rmX8_call s m args below meth c D A 4 Q (cwR dA a Z) 0 0 0 [(0, .ref (a 0)), (1, .int x1), (2, .int x2)] []
  refine xv_aload_n (pc := 0) hC dX8_call_0 0 rfl rfl ?_
  obtain ⟨q_1, hq_1, hX⟩ := bnd_some hX
  refine xv_callVv0 (As := []) (pc := 1) hC (kX8_begin hl hq_1) fV_X8_begin wf_1637 (rc_X8 (rfl : shR 0 = 1)) rfl ⟨Nat.le_of_ble_eq_true rfl, Nat.le_of_ble_eq_true rfl⟩ rfl (Nat.le_of_ble_eq_true rfl) dX8_call_1 ⟨Nat.le_of_ble_eq_true rfl, Nat.le_of_ble_eq_true rfl⟩ ?_
  refine xv_aload_n (pc := 4) hC dX8_call_4 0 rfl rfl ?_
  refine xv_iload_n (pc := 5) hC dX8_call_5 1 rfl rfl ?_
  refine xv_iload_n (pc := 6) hC dX8_call_6 2 rfl rfl ?_
  obtain ⟨q_2, hq_2, hX⟩ := bnd_some hX
  refine xv_callVi0 (As := [.int x1, .int x2]) (pc := 7) hC (kX8_cannotCall hl hq_2) fV_X8_cannotCall wf_1787 (rc_X8 (rfl : shR 0 = 1)) rfl ⟨Nat.le_of_ble_eq_true rfl, Nat.le_of_ble_eq_true rfl⟩ rfl (Nat.le_of_ble_eq_true rfl) dX8_call_7 ⟨Nat.le_of_ble_eq_true rfl, Nat.le_of_ble_eq_true rfl⟩ ?_
  obtain ⟨y_3, hy_3, hX⟩ := nm_some hX
  refine xv_nmi hy_3 ?_
  refine xv_istore_n (pc := 10) (lv' := [(3, .int y_3), (0, .ref (a 0)), (1, .int x1), (2, .int x2)]) hC dX8_call_10 rfl (by decide) rfl ?_
  refine xv_aload_n (pc := 11) hC dX8_call_11 1 rfl rfl ?_
  refine xv_iload_n (pc := 12) hC dX8_call_12 2 rfl rfl ?_
  refine xv_iload_n (pc := 13) hC dX8_call_13 3 rfl rfl ?_
  refine xv_iload_n (pc := 14) hC dX8_call_14 0 rfl rfl ?_
  obtain ⟨q_4, hq_4, hX⟩ := bnd_some hX
  refine xv_callVv0 (As := [.int x1, .int x2, .int y_3]) (pc := 15) hC (kX8_blocks hl hq_4) fV_X8_blocks wf_1799 (rc_X8 (rfl : shR 0 = 1)) rfl ⟨Nat.le_of_ble_eq_true rfl, Nat.le_of_ble_eq_true rfl⟩ rfl (Nat.le_of_ble_eq_true rfl) dX8_call_15 ⟨Nat.le_of_ble_eq_true rfl, Nat.le_of_ble_eq_true rfl⟩ ?_
  refine xv_iload_n (pc := 18) hC dX8_call_18 0 rfl rfl ?_
  refine xv_if_le (tgt := 30) (pc := 19) hC dX8_call_19 (by decide) (fun c_5 => ?_) (fun c_5 => ?_)
  · replace hX := if_t c_5 hX
    refine xv_aload_n (pc := 30) hC dX8_call_30 1 rfl rfl ?_
    refine xv_aload_n (pc := 31) hC dX8_call_31 1 rfl rfl ?_
    refine xv_iload_n (pc := 32) hC dX8_call_32 2 rfl rfl ?_
    refine xv_iload_n (pc := 33) hC dX8_call_33 3 rfl rfl ?_
    obtain ⟨q_6, hq_6, hX⟩ := bnd_some hX
    refine xv_callVi0 (As := [.int x1, .int x2]) (pc := 34) hC (kX8_connects hl hq_6) fV_X8_connects wf_1803 (rc_X8 (rfl : shR 0 = 1)) rfl ⟨Nat.le_of_ble_eq_true rfl, Nat.le_of_ble_eq_true rfl⟩ rfl (Nat.le_of_ble_eq_true rfl) dX8_call_34 ⟨Nat.le_of_ble_eq_true rfl, Nat.le_of_ble_eq_true rfl⟩ ?_
    obtain ⟨q_7, hq_7, hX⟩ := bnd_some hX
    refine xv_callVi0 (As := [.int q_6.1]) (pc := 37) hC (kX8_commit hl hq_7) fV_X8_commit wf_1652 (rc_X8 (rfl : shR 0 = 1)) rfl ⟨Nat.le_of_ble_eq_true rfl, Nat.le_of_ble_eq_true rfl⟩ rfl (Nat.le_of_ble_eq_true rfl) dX8_call_37 ⟨Nat.le_of_ble_eq_true rfl, Nat.le_of_ble_eq_true rfl⟩ ?_
    obtain ⟨h1, h2⟩ := some_pair hX
    exact xv_eqi (W := cwR dA a) h1 h2 (hR _ _ _ _ (Nat.le_of_ble_eq_true rfl) (Nat.le_of_ble_eq_true rfl) dX8_call_40)
  · replace hX := if_f c_5 hX
    refine xv_aload_n (pc := 22) hC dX8_call_22 1 rfl rfl ?_
    refine xv_iload_n (pc := 23) hC dX8_call_23 0 rfl rfl ?_
    obtain ⟨q_8, hq_8, hX⟩ := bnd_some hX
    refine xv_callVi0 (As := [.int y_3]) (pc := 24) hC (kX8_fail hl hq_8) fV_X8_fail wf_1644 (rc_X8 (rfl : shR 0 = 1)) rfl ⟨Nat.le_of_ble_eq_true rfl, Nat.le_of_ble_eq_true rfl⟩ rfl (Nat.le_of_ble_eq_true rfl) dX8_call_24 ⟨Nat.le_of_ble_eq_true rfl, Nat.le_of_ble_eq_true rfl⟩ ?_
    refine xv_goto (tgt := 40) (pc := 27) hC dX8_call_27 (by decide) ?_
    obtain ⟨h1, h2⟩ := some_pair hX
    exact xv_eqi (W := cwR dA a) h1 h2 (hR _ _ _ _ (Nat.le_of_ble_eq_true rfl) (Nat.le_of_ble_eq_true rfl) dX8_call_40)
def sX8_cannotHang (x1 : Int32) (Z : ZZ) : Option (Int32 × ZZ) :=
  bnd (sX8_isUser x1 Z) <| fun q_1 =>
  if q_1.1 = 0 then (
    some (1, q_1.2)) else (
    bnd (sX8_callOf x1 q_1.2) <| fun q_3 =>
    if (0 : Int32) ≤ q_3.1 then (
      some (0, q_3.2)) else (
      some (2, q_3.2)))
abbrev rmX8_cannotHang : Room := { frames := 2, cells := 0, slots := 0, locals := 44 }
set_option maxHeartbeats 4000000 in
set_option maxRecDepth 100000 in
theorem kX8_cannotHang {l : Launch} {D : va_G} {dA : Nat → ClassId} {sa : String → Nat → Nat} {a : Nat → Nat} (hl : l.stackTraces = false) {x1 : Int32} {Z Z' : ZZ} {v : Int32} (hX : sX8_cannotHang x1 Z = some (v, Z')) : CTi l D dA sa yX8_cannotHang (wz yX8_cannotHang cX8_cannotHang 2 (some .int)) rmX8_cannotHang [.ref (a 0), .int x1] (cwR dA a Z) v (cwR dA a Z') := by
  refine xm_i hl (by decide +kernel) (Nat.le_of_ble_eq_true rfl) rfl ?_
  intro p e s m args below meth c A Q hC hR
  unfold sX8_cannotHang at hX
  show xv p l e rmX8_cannotHang s m args below meth c D A 2 Q (cwR dA a Z) 0 0 0 [(0, .ref (a 0)), (1, .int x1)] []
  refine xv_aload_n (pc := 0) hC dX8_cannotHang_0 0 rfl rfl ?_
  refine xv_iload_n (pc := 1) hC dX8_cannotHang_1 1 rfl rfl ?_
  obtain ⟨q_1, hq_1, hX⟩ := bnd_some hX
  refine xv_callVi0 (As := [.int x1]) (pc := 2) hC (kX8_isUser hl hq_1) fV_X8_isUser wf_1791 (rc_X8 (rfl : shR 0 = 1)) rfl ⟨Nat.le_of_ble_eq_true rfl, Nat.le_of_ble_eq_true rfl⟩ rfl (Nat.le_of_ble_eq_true rfl) dX8_cannotHang_2 ⟨Nat.le_of_ble_eq_true rfl, Nat.le_of_ble_eq_true rfl⟩ ?_
  refine xv_if_ne (tgt := 12) (pc := 5) hC dX8_cannotHang_5 (by decide) (fun c_2 => ?_) (fun c_2 => ?_)
  · replace hX := if_f c_2 hX
    refine xv_aload_n (pc := 12) hC dX8_cannotHang_12 0 rfl rfl ?_
    refine xv_iload_n (pc := 13) hC dX8_cannotHang_13 1 rfl rfl ?_
    obtain ⟨q_3, hq_3, hX⟩ := bnd_some hX
    refine xv_callVi0 (As := [.int x1]) (pc := 14) hC (kX8_callOf hl hq_3) fV_X8_callOf wf_1795 (rc_X8 (rfl : shR 0 = 1)) rfl ⟨Nat.le_of_ble_eq_true rfl, Nat.le_of_ble_eq_true rfl⟩ rfl (Nat.le_of_ble_eq_true rfl) dX8_cannotHang_14 ⟨Nat.le_of_ble_eq_true rfl, Nat.le_of_ble_eq_true rfl⟩ ?_
    refine xv_if_ge (tgt := 24) (pc := 17) hC dX8_cannotHang_17 (by decide) (fun c_4 => ?_) (fun c_4 => ?_)
    · replace hX := if_t c_4 hX
      refine xv_iconst (v := 0) (pc := 24) hC dX8_cannotHang_24 (by decide) ?_
      obtain ⟨h1, h2⟩ := some_pair hX
      exact xv_eqi (W := cwR dA a) h1 h2 (hR _ _ _ _ (Nat.le_of_ble_eq_true rfl) (Nat.le_of_ble_eq_true rfl) dX8_cannotHang_25)
    · replace hX := if_f c_4 hX
      refine xv_iconst (v := 2) (pc := 20) hC dX8_cannotHang_20 (by decide) ?_
      refine xv_goto (tgt := 25) (pc := 21) hC dX8_cannotHang_21 (by decide) ?_
      obtain ⟨h1, h2⟩ := some_pair hX
      exact xv_eqi (W := cwR dA a) h1 h2 (hR _ _ _ _ (Nat.le_of_ble_eq_true rfl) (Nat.le_of_ble_eq_true rfl) dX8_cannotHang_25)
  · replace hX := if_t c_2 hX
    refine xv_iconst (v := 1) (pc := 8) hC dX8_cannotHang_8 (by decide) ?_
    refine xv_goto (tgt := 25) (pc := 9) hC dX8_cannotHang_9 (by decide) ?_
    obtain ⟨h1, h2⟩ := some_pair hX
    exact xv_eqi (W := cwR dA a) h1 h2 (hR _ _ _ _ (Nat.le_of_ble_eq_true rfl) (Nat.le_of_ble_eq_true rfl) dX8_cannotHang_25)
def sX8_hangUp (x1 : Int32) (Z : ZZ) : Option (Int32 × ZZ) :=
  bnd (sX8_begin Z) <| fun q_1 =>
  bnd (sX8_cannotHang x1 q_1) <| fun q_2 =>
  nm (q_2.1) <| fun y_3 =>
  if y_3 ≤ 0 then (
    bnd (sX8_callOf x1 q_2.2) <| fun q_5 =>
    bnd (sX8_ends q_5.1 q_5.2) <| fun q_6 =>
    bnd (sX8_commit q_6.1 q_6.2) <| fun q_7 =>
    some (q_7.1, q_7.2)) else (
    bnd (sX8_fail y_3 q_2.2) <| fun q_8 =>
    some (q_8.1, q_8.2))
abbrev rmX8_hangUp : Room := { frames := 4, cells := 0, slots := 0, locals := 91 }
set_option maxHeartbeats 4000000 in
set_option maxRecDepth 100000 in
theorem kX8_hangUp {l : Launch} {D : va_G} {dA : Nat → ClassId} {sa : String → Nat → Nat} {a : Nat → Nat} (hl : l.stackTraces = false) {x1 : Int32} {Z Z' : ZZ} {v : Int32} (hX : sX8_hangUp x1 Z = some (v, Z')) : CTi l D dA sa yX8_hangUp (wz yX8_hangUp cX8_hangUp 3 (some .int)) rmX8_hangUp [.ref (a 0), .int x1] (cwR dA a Z) v (cwR dA a Z') := by
  refine xm_i hl (by decide +kernel) (Nat.le_of_ble_eq_true rfl) rfl ?_
  intro p e s m args below meth c A Q hC hR
  unfold sX8_hangUp at hX
  show xv p l e rmX8_hangUp s m args below meth c D A 3 Q (cwR dA a Z) 0 0 0 [(0, .ref (a 0)), (1, .int x1)] []
  refine xv_aload_n (pc := 0) hC dX8_hangUp_0 0 rfl rfl ?_
  obtain ⟨q_1, hq_1, hX⟩ := bnd_some hX
  refine xv_callVv0 (As := []) (pc := 1) hC (kX8_begin hl hq_1) fV_X8_begin wf_1637 (rc_X8 (rfl : shR 0 = 1)) rfl ⟨Nat.le_of_ble_eq_true rfl, Nat.le_of_ble_eq_true rfl⟩ rfl (Nat.le_of_ble_eq_true rfl) dX8_hangUp_1 ⟨Nat.le_of_ble_eq_true rfl, Nat.le_of_ble_eq_true rfl⟩ ?_
  refine xv_aload_n (pc := 4) hC dX8_hangUp_4 0 rfl rfl ?_
  refine xv_iload_n (pc := 5) hC dX8_hangUp_5 1 rfl rfl ?_
  obtain ⟨q_2, hq_2, hX⟩ := bnd_some hX
  refine xv_callVi0 (As := [.int x1]) (pc := 6) hC (kX8_cannotHang hl hq_2) fV_X8_cannotHang wf_1811 (rc_X8 (rfl : shR 0 = 1)) rfl ⟨Nat.le_of_ble_eq_true rfl, Nat.le_of_ble_eq_true rfl⟩ rfl (Nat.le_of_ble_eq_true rfl) dX8_hangUp_6 ⟨Nat.le_of_ble_eq_true rfl, Nat.le_of_ble_eq_true rfl⟩ ?_
  obtain ⟨y_3, hy_3, hX⟩ := nm_some hX
  refine xv_nmi hy_3 ?_
  refine xv_istore_n (pc := 9) (lv' := [(2, .int y_3), (0, .ref (a 0)), (1, .int x1)]) hC dX8_hangUp_9 rfl (by decide) rfl ?_
  refine xv_iload_n (pc := 10) hC dX8_hangUp_10 0 rfl rfl ?_
  refine xv_if_le (tgt := 22) (pc := 11) hC dX8_hangUp_11 (by decide) (fun c_4 => ?_) (fun c_4 => ?_)
  · replace hX := if_t c_4 hX
    refine xv_aload_n (pc := 22) hC dX8_hangUp_22 1 rfl rfl ?_
    refine xv_aload_n (pc := 23) hC dX8_hangUp_23 1 rfl rfl ?_
    refine xv_aload_n (pc := 24) hC dX8_hangUp_24 1 rfl rfl ?_
    refine xv_iload_n (pc := 25) hC dX8_hangUp_25 2 rfl rfl ?_
    obtain ⟨q_5, hq_5, hX⟩ := bnd_some hX
    refine xv_callVi0 (As := [.int x1]) (pc := 26) hC (kX8_callOf hl hq_5) fV_X8_callOf wf_1795 (rc_X8 (rfl : shR 0 = 1)) rfl ⟨Nat.le_of_ble_eq_true rfl, Nat.le_of_ble_eq_true rfl⟩ rfl (Nat.le_of_ble_eq_true rfl) dX8_hangUp_26 ⟨Nat.le_of_ble_eq_true rfl, Nat.le_of_ble_eq_true rfl⟩ ?_
    obtain ⟨q_6, hq_6, hX⟩ := bnd_some hX
    refine xv_callVi0 (As := [.int q_5.1]) (pc := 29) hC (kX8_ends hl hq_6) fV_X8_ends wf_1751 (rc_X8 (rfl : shR 0 = 1)) rfl ⟨Nat.le_of_ble_eq_true rfl, Nat.le_of_ble_eq_true rfl⟩ rfl (Nat.le_of_ble_eq_true rfl) dX8_hangUp_29 ⟨Nat.le_of_ble_eq_true rfl, Nat.le_of_ble_eq_true rfl⟩ ?_
    obtain ⟨q_7, hq_7, hX⟩ := bnd_some hX
    refine xv_callVi0 (As := [.int q_6.1]) (pc := 32) hC (kX8_commit hl hq_7) fV_X8_commit wf_1652 (rc_X8 (rfl : shR 0 = 1)) rfl ⟨Nat.le_of_ble_eq_true rfl, Nat.le_of_ble_eq_true rfl⟩ rfl (Nat.le_of_ble_eq_true rfl) dX8_hangUp_32 ⟨Nat.le_of_ble_eq_true rfl, Nat.le_of_ble_eq_true rfl⟩ ?_
    obtain ⟨h1, h2⟩ := some_pair hX
    exact xv_eqi (W := cwR dA a) h1 h2 (hR _ _ _ _ (Nat.le_of_ble_eq_true rfl) (Nat.le_of_ble_eq_true rfl) dX8_hangUp_35)
  · replace hX := if_f c_4 hX
    refine xv_aload_n (pc := 14) hC dX8_hangUp_14 1 rfl rfl ?_
    refine xv_iload_n (pc := 15) hC dX8_hangUp_15 0 rfl rfl ?_
    obtain ⟨q_8, hq_8, hX⟩ := bnd_some hX
    refine xv_callVi0 (As := [.int y_3]) (pc := 16) hC (kX8_fail hl hq_8) fV_X8_fail wf_1644 (rc_X8 (rfl : shR 0 = 1)) rfl ⟨Nat.le_of_ble_eq_true rfl, Nat.le_of_ble_eq_true rfl⟩ rfl (Nat.le_of_ble_eq_true rfl) dX8_hangUp_16 ⟨Nat.le_of_ble_eq_true rfl, Nat.le_of_ble_eq_true rfl⟩ ?_
    refine xv_goto (tgt := 35) (pc := 19) hC dX8_hangUp_19 (by decide) ?_
    obtain ⟨h1, h2⟩ := some_pair hX
    exact xv_eqi (W := cwR dA a) h1 h2 (hR _ _ _ _ (Nat.le_of_ble_eq_true rfl) (Nat.le_of_ble_eq_true rfl) dX8_hangUp_35)
def sX8_passes_B78 (x1 : Int32) (Z : ZZ) : Option (Int32 × ZZ) :=
  gd (vin 3 180 = true) <|
  some (gI Z 1 (3 : Int32).toNatClampNeg, Z)
def sX8_passes_L28 (x1 : Int32) (k2 : Int32 → ZZ → Option (Int32 × ZZ)) : Nat → Int32 → Int32 → ZZ → Option (Int32 × ZZ)
  | 0, _, _, _ => none
  | n + 1, y2, y3, Z =>
  bnd (sX8_c y2 3 Z) <| fun q_2 =>
  if q_2.1 ≤ y3 then (
    nm (y2 + 1) <| fun y_4 =>
    k2 y_4 q_2.2) else (
    bnd (sX8_c y2 (4 + y3) q_2.2) <| fun q_5 =>
    bnd (sX8_c y2 (4 + y3) q_5.2) <| fun q_6 =>
    bnd (sX8_t q_6.1 4 q_6.2) <| fun q_7 =>
    bnd (sX8_setTrunk q_5.1 4 (q_7.1 + x1) q_7.2) <| fun q_8 =>
    nm (y3 + 1) <| fun y_9 =>
    sX8_passes_L28 x1 k2 n y2 y_9 q_8)
def sX8_passes_L2 (x1 : Int32) : Nat → Int32 → ZZ → Option (Int32 × ZZ)
  | 0, _, _ => none
  | n + 1, y2, Z =>
  gd (vin 3 180 = true) <|
  if (gI Z 1 (3 : Int32).toNatClampNeg) ≤ y2 then (
    sX8_passes_B78 x1 Z) else (
    bnd (sX8_c y2 2 Z) <| fun q_12 =>
    bnd (sX8_setCall y2 2 (q_12.1 + x1) q_12.2) <| fun q_13 =>
    sX8_passes_L28 x1 (fun y2 Z => sX8_passes_L2 x1 n y2 Z) 3000 y2 0 q_13)
def sX8_passes (x1 : Int32) (Z : ZZ) : Option (Int32 × ZZ) :=
  sX8_passes_L2 x1 3000 0 Z
abbrev rmX8_passes : Room := { frames := 1, cells := 0, slots := 0, locals := 23 }
set_option maxHeartbeats 4000000 in
set_option maxRecDepth 100000 in
theorem kX8_passes {l : Launch} {D : va_G} {dA : Nat → ClassId} {sa : String → Nat → Nat} {a : Nat → Nat} (hl : l.stackTraces = false) {x1 : Int32} {Z Z' : ZZ} {v : Int32} (hX : sX8_passes x1 Z = some (v, Z')) : CTi l D dA sa yX8_passes (wz yX8_passes cX8_passes 4 (some .int)) rmX8_passes [.ref (a 0), .int x1] (cwR dA a Z) v (cwR dA a Z') := by
  refine xm_i hl (by decide +kernel) (Nat.le_of_ble_eq_true rfl) rfl ?_
  intro p e s m args below meth c A Q hC hR
  unfold sX8_passes at hX
  have v78 : ∀ (Z : ZZ), sX8_passes_B78 x1 Z = some (v, Z') → xv p l e rmX8_passes s m args below meth c D A 4 Q (cwR dA a Z) 0 0 78 [(0, .ref (a 0)), (1, .int x1)] [] := by
    intro Z hX
    unfold sX8_passes_B78 at hX
    refine xv_aload_n (pc := 78) hC dX8_passes_78 0 rfl rfl ?_
    refine xgX8 (v := .ref (a 1)) (pc := 79) hC dX8_passes_79 (rfl : shR 0 = 1) 0 (by decide) wf_1553 rfl ?_
    refine xv_iconst (v := 3) (pc := 82) hC dX8_passes_82 (by decide) ?_
    obtain ⟨h_1, hX⟩ := gd_some hX
    refine xl_R2 (pc := 83) hC dX8_passes_83 (rfl : shR 1 = 2) h_1 ?_
    obtain ⟨h1, h2⟩ := some_pair hX
    exact xv_eqi (W := cwR dA a) h1 h2 (hR _ _ _ _ (Nat.le_of_ble_eq_true rfl) (Nat.le_of_ble_eq_true rfl) dX8_passes_84)
  have v28 : ∀ (k2 : Int32 → ZZ → Option (Int32 × ZZ)) (hk2 : ∀ (y2 : Int32) (Z : ZZ), k2 y2 Z = some (v, Z') → xv p l e rmX8_passes s m args below meth c D A 4 Q (cwR dA a Z) 0 0 2 [(0, .ref (a 0)), (1, .int x1), (2, .int y2)] []) (n : Nat) (y2 : Int32) (y3 : Int32) (Z : ZZ), sX8_passes_L28 x1 k2 n y2 y3 Z = some (v, Z') → xv p l e rmX8_passes s m args below meth c D A 4 Q (cwR dA a Z) 0 0 28 [(0, .ref (a 0)), (1, .int x1), (2, .int y2), (3, .int y3)] [] := by
    intro k2 hk2 n
    induction n with
    | zero =>
      intro y2 y3 Z hX
      exact absurd hX (by simp [sX8_passes_L28])
    | succ n ih =>
      intro y2 y3 Z hX
      rw [sX8_passes_L28] at hX
      refine xv_iload_n (pc := 28) hC dX8_passes_28 3 rfl rfl ?_
      refine xv_aload_n (pc := 29) hC dX8_passes_29 0 rfl rfl ?_
      refine xv_iload_n (pc := 30) hC dX8_passes_30 2 rfl rfl ?_
      refine xv_iconst (v := 3) (pc := 31) hC dX8_passes_31 (by decide) ?_
      obtain ⟨q_2, hq_2, hX⟩ := bnd_some hX
      refine xv_callVi0 (As := [.int y2, .int 3]) (pc := 32) hC (kX8_c hl hq_2) fV_X8_c wf_1719 (rc_X8 (rfl : shR 0 = 1)) rfl ⟨Nat.le_of_ble_eq_true rfl, Nat.le_of_ble_eq_true rfl⟩ rfl (Nat.le_of_ble_eq_true rfl) dX8_passes_32 ⟨Nat.le_of_ble_eq_true rfl, Nat.le_of_ble_eq_true rfl⟩ ?_
      refine xv_icmp_ge (tgt := 72) (pc := 35) hC dX8_passes_35 (by decide) (fun c_3 => ?_) (fun c_3 => ?_)
      · replace hX := if_t c_3 hX
        obtain ⟨y_4, hy_4, hX⟩ := nm_some hX
        refine xv_iinc (pc := 72) (v := y_4) (lv' := [(2, .int y_4), (0, .ref (a 0)), (1, .int x1), (3, .int y3)]) hC dX8_passes_72 2 rfl (by rw [hy_4]; rfl) (by decide) rfl ?_
        refine xv_goto (tgt := 2) (pc := 75) hC dX8_passes_75 (by decide) ?_
        refine xv_sub (lv' := [(0, .ref (a 0)), (1, .int x1), (2, .int y_4)]) [1, 2, 0] rfl ?_
        exact hk2 y_4 q_2.2 hX
      · replace hX := if_f c_3 hX
        refine xv_aload_n (pc := 38) hC dX8_passes_38 0 rfl rfl ?_
        refine xv_aload_n (pc := 39) hC dX8_passes_39 0 rfl rfl ?_
        refine xv_iload_n (pc := 40) hC dX8_passes_40 2 rfl rfl ?_
        refine xv_iconst (v := 4) (pc := 41) hC dX8_passes_41 (by decide) ?_
        refine xv_iload_n (pc := 42) hC dX8_passes_42 3 rfl rfl ?_
        refine xv_iadd (pc := 43) hC dX8_passes_43 ?_
        obtain ⟨q_5, hq_5, hX⟩ := bnd_some hX
        refine xv_callVi0 (As := [.int y2, .int (4 + y3)]) (pc := 44) hC (kX8_c hl hq_5) fV_X8_c wf_1719 (rc_X8 (rfl : shR 0 = 1)) rfl ⟨Nat.le_of_ble_eq_true rfl, Nat.le_of_ble_eq_true rfl⟩ rfl (Nat.le_of_ble_eq_true rfl) dX8_passes_44 ⟨Nat.le_of_ble_eq_true rfl, Nat.le_of_ble_eq_true rfl⟩ ?_
        refine xv_iconst (v := 4) (pc := 47) hC dX8_passes_47 (by decide) ?_
        refine xv_aload_n (pc := 48) hC dX8_passes_48 0 rfl rfl ?_
        refine xv_aload_n (pc := 49) hC dX8_passes_49 0 rfl rfl ?_
        refine xv_iload_n (pc := 50) hC dX8_passes_50 2 rfl rfl ?_
        refine xv_iconst (v := 4) (pc := 51) hC dX8_passes_51 (by decide) ?_
        refine xv_iload_n (pc := 52) hC dX8_passes_52 3 rfl rfl ?_
        refine xv_iadd (pc := 53) hC dX8_passes_53 ?_
        obtain ⟨q_6, hq_6, hX⟩ := bnd_some hX
        refine xv_callVi0 (As := [.int y2, .int (4 + y3)]) (pc := 54) hC (kX8_c hl hq_6) fV_X8_c wf_1719 (rc_X8 (rfl : shR 0 = 1)) rfl ⟨Nat.le_of_ble_eq_true rfl, Nat.le_of_ble_eq_true rfl⟩ rfl (Nat.le_of_ble_eq_true rfl) dX8_passes_54 ⟨Nat.le_of_ble_eq_true rfl, Nat.le_of_ble_eq_true rfl⟩ ?_
        refine xv_iconst (v := 4) (pc := 57) hC dX8_passes_57 (by decide) ?_
        obtain ⟨q_7, hq_7, hX⟩ := bnd_some hX
        refine xv_callVi0 (As := [.int q_6.1, .int 4]) (pc := 58) hC (kX8_t hl hq_7) fV_X8_t wf_1703 (rc_X8 (rfl : shR 0 = 1)) rfl ⟨Nat.le_of_ble_eq_true rfl, Nat.le_of_ble_eq_true rfl⟩ rfl (Nat.le_of_ble_eq_true rfl) dX8_passes_58 ⟨Nat.le_of_ble_eq_true rfl, Nat.le_of_ble_eq_true rfl⟩ ?_
        refine xv_iload_n (pc := 61) hC dX8_passes_61 1 rfl rfl ?_
        refine xv_iadd (pc := 62) hC dX8_passes_62 ?_
        obtain ⟨q_8, hq_8, hX⟩ := bnd_some hX
        refine xv_callVv0 (As := [.int q_5.1, .int 4, .int (q_7.1 + x1)]) (pc := 63) hC (kX8_setTrunk hl hq_8) fV_X8_setTrunk wf_1675 (rc_X8 (rfl : shR 0 = 1)) rfl ⟨Nat.le_of_ble_eq_true rfl, Nat.le_of_ble_eq_true rfl⟩ rfl (Nat.le_of_ble_eq_true rfl) dX8_passes_63 ⟨Nat.le_of_ble_eq_true rfl, Nat.le_of_ble_eq_true rfl⟩ ?_
        obtain ⟨y_9, hy_9, hX⟩ := nm_some hX
        refine xv_iinc (pc := 66) (v := y_9) (lv' := [(3, .int y_9), (0, .ref (a 0)), (1, .int x1), (2, .int y2)]) hC dX8_passes_66 3 rfl (by rw [hy_9]; rfl) (by decide) rfl ?_
        refine xv_goto (tgt := 28) (pc := 69) hC dX8_passes_69 (by decide) ?_
        refine xv_sub (lv' := [(0, .ref (a 0)), (1, .int x1), (2, .int y2), (3, .int y_9)]) [1, 2, 3, 0] rfl ?_
        exact ih y2 y_9 q_8 hX
  have v2 : ∀ (n : Nat) (y2 : Int32) (Z : ZZ), sX8_passes_L2 x1 n y2 Z = some (v, Z') → xv p l e rmX8_passes s m args below meth c D A 4 Q (cwR dA a Z) 0 0 2 [(0, .ref (a 0)), (1, .int x1), (2, .int y2)] [] := by
    intro n
    induction n with
    | zero =>
      intro y2 Z hX
      exact absurd hX (by simp [sX8_passes_L2])
    | succ n ih =>
      intro y2 Z hX
      rw [sX8_passes_L2] at hX
      refine xv_iload_n (pc := 2) hC dX8_passes_2 2 rfl rfl ?_
      refine xv_aload_n (pc := 3) hC dX8_passes_3 0 rfl rfl ?_
      refine xgX8 (v := .ref (a 1)) (pc := 4) hC dX8_passes_4 (rfl : shR 0 = 1) 0 (by decide) wf_1553 rfl ?_
      refine xv_iconst (v := 3) (pc := 7) hC dX8_passes_7 (by decide) ?_
      obtain ⟨h_10, hX⟩ := gd_some hX
      refine xl_R2 (pc := 8) hC dX8_passes_8 (rfl : shR 1 = 2) h_10 ?_
      refine xv_icmp_ge (tgt := 78) (pc := 9) hC dX8_passes_9 (by decide) (fun c_11 => ?_) (fun c_11 => ?_)
      · replace hX := if_t c_11 hX
        refine xv_sub (lv' := [(0, .ref (a 0)), (1, .int x1)]) [0, 1] rfl ?_
        exact v78 Z hX
      · replace hX := if_f c_11 hX
        refine xv_aload_n (pc := 12) hC dX8_passes_12 0 rfl rfl ?_
        refine xv_iload_n (pc := 13) hC dX8_passes_13 2 rfl rfl ?_
        refine xv_iconst (v := 2) (pc := 14) hC dX8_passes_14 (by decide) ?_
        refine xv_aload_n (pc := 15) hC dX8_passes_15 0 rfl rfl ?_
        refine xv_iload_n (pc := 16) hC dX8_passes_16 2 rfl rfl ?_
        refine xv_iconst (v := 2) (pc := 17) hC dX8_passes_17 (by decide) ?_
        obtain ⟨q_12, hq_12, hX⟩ := bnd_some hX
        refine xv_callVi0 (As := [.int y2, .int 2]) (pc := 18) hC (kX8_c hl hq_12) fV_X8_c wf_1719 (rc_X8 (rfl : shR 0 = 1)) rfl ⟨Nat.le_of_ble_eq_true rfl, Nat.le_of_ble_eq_true rfl⟩ rfl (Nat.le_of_ble_eq_true rfl) dX8_passes_18 ⟨Nat.le_of_ble_eq_true rfl, Nat.le_of_ble_eq_true rfl⟩ ?_
        refine xv_iload_n (pc := 21) hC dX8_passes_21 1 rfl rfl ?_
        refine xv_iadd (pc := 22) hC dX8_passes_22 ?_
        obtain ⟨q_13, hq_13, hX⟩ := bnd_some hX
        refine xv_callVv0 (As := [.int y2, .int 2, .int (q_12.1 + x1)]) (pc := 23) hC (kX8_setCall hl hq_13) fV_X8_setCall wf_1763 (rc_X8 (rfl : shR 0 = 1)) rfl ⟨Nat.le_of_ble_eq_true rfl, Nat.le_of_ble_eq_true rfl⟩ rfl (Nat.le_of_ble_eq_true rfl) dX8_passes_23 ⟨Nat.le_of_ble_eq_true rfl, Nat.le_of_ble_eq_true rfl⟩ ?_
        refine xv_iconst (v := 0) (pc := 26) hC dX8_passes_26 (by decide) ?_
        refine xv_istore_n (pc := 27) (lv' := [(3, .int 0), (0, .ref (a 0)), (1, .int x1), (2, .int y2)]) hC dX8_passes_27 rfl (by decide) rfl ?_
        refine xv_sub (lv' := [(0, .ref (a 0)), (1, .int x1), (2, .int y2), (3, .int 0)]) [1, 2, 3, 0] rfl ?_
        exact v28 _ ih 3000 y2 0 q_13 hX
  show xv p l e rmX8_passes s m args below meth c D A 4 Q (cwR dA a Z) 0 0 0 [(0, .ref (a 0)), (1, .int x1)] []
  refine xv_iconst (v := 0) (pc := 0) hC dX8_passes_0 (by decide) ?_
  refine xv_istore_n (pc := 1) (lv' := [(2, .int 0), (0, .ref (a 0)), (1, .int x1)]) hC dX8_passes_1 rfl (by decide) rfl ?_
  refine xv_sub (lv' := [(0, .ref (a 0)), (1, .int x1), (2, .int 0)]) [1, 2, 0] rfl ?_
  exact v2 3000 0 Z hX
