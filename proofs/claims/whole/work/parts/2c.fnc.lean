def sX5_hasRoom (t1 : Nat) (x2 : Int32) (x3 : Int32) (Z : ZZ) : Option (Int32 × ZZ) :=
  gd (shC t1 = 14) <|
  gd (vin x2 16 = true) <|
  if (gI Z (t1 + 1) x2.toNatClampNeg) = x3 then (
    gd (vin x2 16 = true) <|
    if (1 : Int32) ≤ (gI Z 16 x2.toNatClampNeg) then (
      some (0, Z)) else (
      some (1, Z))) else (
    gd (vin x2 16 = true) <|
    if (gI Z 16 x2.toNatClampNeg) ≤ (-1) then (
      some (0, Z)) else (
      some (1, Z)))
abbrev rmX5_hasRoom : Room := { frames := 0, cells := 0, slots := 0, locals := 0 }
set_option maxHeartbeats 4000000 in
set_option maxRecDepth 100000 in
theorem kX5_hasRoom {l : Launch} {D : va_G} {dA : Nat → ClassId} {sa : String → Nat → Nat} {a : Nat → Nat} (hl : l.stackTraces = false) {t1 : Nat} {x2 : Int32} {x3 : Int32} {Z Z' : ZZ} {v : Int32} (hX : sX5_hasRoom t1 x2 x3 Z = some (v, Z')) : CTi l D dA sa yX5_hasRoom (wz yX5_hasRoom cX5_hasRoom 4 (some .boolean)) rmX5_hasRoom [.ref (a 13), .ref (a t1), .int x2, .int x3] (cwC dA a Z) v (cwC dA a Z') := by
  refine xm_z hl (by decide +kernel) (Nat.le_of_ble_eq_true rfl) rfl ?_
  intro p e s m args below meth c A Q hC hR
  unfold sX5_hasRoom at hX
  obtain ⟨g1, hX⟩ := gd_some hX
  show xv p l e rmX5_hasRoom s m args below meth c D A 4 Q (cwC dA a Z) 0 0 0 [(0, .ref (a 13)), (1, .ref (a t1)), (2, .int x2), (3, .int x3)] []
  refine xv_aload_n (pc := 0) hC dX5_hasRoom_0 1 rfl rfl ?_
  refine xgX3 (v := .ref (a (t1 + 1))) (pc := 1) hC dX5_hasRoom_1 g1 2 (by decide) wf_60 rfl ?_
  refine xv_iload_n (pc := 4) hC dX5_hasRoom_4 2 rfl rfl ?_
  obtain ⟨h_1, hX⟩ := gd_some hX
  refine xl_C12 (pc := 5) hC dX5_hasRoom_5 (sh_X3_ones g1) h_1 ?_
  refine xv_iload_n (pc := 6) hC dX5_hasRoom_6 3 rfl rfl ?_
  refine xv_icmp_ne (tgt := 28) (pc := 7) hC dX5_hasRoom_7 (by decide) (fun c_2 => ?_) (fun c_2 => ?_)
  · replace hX := if_f c_2 hX
    refine xv_aload_n (pc := 28) hC dX5_hasRoom_28 0 rfl rfl ?_
    refine xgX5 (v := .ref (a 16)) (pc := 29) hC dX5_hasRoom_29 (rfl : shC 13 = 10) 4 (by decide) wf_259 rfl ?_
    refine xv_iload_n (pc := 32) hC dX5_hasRoom_32 2 rfl rfl ?_
    obtain ⟨h_3, hX⟩ := gd_some hX
    refine xl_C12 (pc := 33) hC dX5_hasRoom_33 (rfl : shC 16 = 12) h_3 ?_
    refine xv_iconst (v := (-1)) (pc := 34) hC dX5_hasRoom_34 (by decide) ?_
    refine xv_icmp_le (tgt := 42) (pc := 35) hC dX5_hasRoom_35 (by decide) (fun c_4 => ?_) (fun c_4 => ?_)
    · replace hX := if_t c_4 hX
      refine xv_iconst (v := 0) (pc := 42) hC dX5_hasRoom_42 (by decide) ?_
      obtain ⟨h1, h2⟩ := some_pair hX
      exact xv_eqi (W := cwC dA a) h1 h2 (hR _ _ _ _ (by rw [← h1]; exact (by decide)) (Nat.le_of_ble_eq_true rfl) (Nat.le_of_ble_eq_true rfl) dX5_hasRoom_43)
    · replace hX := if_f c_4 hX
      refine xv_iconst (v := 1) (pc := 38) hC dX5_hasRoom_38 (by decide) ?_
      refine xv_goto (tgt := 43) (pc := 39) hC dX5_hasRoom_39 (by decide) ?_
      obtain ⟨h1, h2⟩ := some_pair hX
      exact xv_eqi (W := cwC dA a) h1 h2 (hR _ _ _ _ (by rw [← h1]; exact (by decide)) (Nat.le_of_ble_eq_true rfl) (Nat.le_of_ble_eq_true rfl) dX5_hasRoom_43)
  · replace hX := if_t c_2 hX
    refine xv_aload_n (pc := 10) hC dX5_hasRoom_10 0 rfl rfl ?_
    refine xgX5 (v := .ref (a 16)) (pc := 11) hC dX5_hasRoom_11 (rfl : shC 13 = 10) 4 (by decide) wf_259 rfl ?_
    refine xv_iload_n (pc := 14) hC dX5_hasRoom_14 2 rfl rfl ?_
    obtain ⟨h_5, hX⟩ := gd_some hX
    refine xl_C12 (pc := 15) hC dX5_hasRoom_15 (rfl : shC 16 = 12) h_5 ?_
    refine xv_iconst (v := 1) (pc := 16) hC dX5_hasRoom_16 (by decide) ?_
    refine xv_icmp_ge (tgt := 24) (pc := 17) hC dX5_hasRoom_17 (by decide) (fun c_6 => ?_) (fun c_6 => ?_)
    · replace hX := if_t c_6 hX
      refine xv_iconst (v := 0) (pc := 24) hC dX5_hasRoom_24 (by decide) ?_
      refine xv_goto (tgt := 43) (pc := 25) hC dX5_hasRoom_25 (by decide) ?_
      obtain ⟨h1, h2⟩ := some_pair hX
      exact xv_eqi (W := cwC dA a) h1 h2 (hR _ _ _ _ (by rw [← h1]; exact (by decide)) (Nat.le_of_ble_eq_true rfl) (Nat.le_of_ble_eq_true rfl) dX5_hasRoom_43)
    · replace hX := if_f c_6 hX
      refine xv_iconst (v := 1) (pc := 20) hC dX5_hasRoom_20 (by decide) ?_
      refine xv_goto (tgt := 43) (pc := 21) hC dX5_hasRoom_21 (by decide) ?_
      obtain ⟨h1, h2⟩ := some_pair hX
      exact xv_eqi (W := cwC dA a) h1 h2 (hR _ _ _ _ (by rw [← h1]; exact (by decide)) (Nat.le_of_ble_eq_true rfl) (Nat.le_of_ble_eq_true rfl) dX5_hasRoom_43)
def sX5_search_B154 (t1 : Nat) (x2 : Int32) (x3 : Int32) (x4 : Int32) (y5 : Int32) (Z : ZZ) : Option (Int32 × ZZ) :=
  bnd (sX7_hasBit y5 x4 Z) <| fun q_1 =>
  gd (bq q_1.1 = true) <|
  some (q_1.1, q_1.2)
def sX5_search_L45 (t1 : Nat) (x2 : Int32) (x3 : Int32) (x4 : Int32) (k19 : Int32 → Int32 → Int32 → ZZ → Option (Int32 × ZZ)) : Nat → Int32 → Int32 → Int32 → Int32 → Int32 → ZZ → Option (Int32 × ZZ)
  | 0, _, _, _, _, _, _ => none
  | n + 1, y5, y6, y7, y8, y9, Z =>
  if (gI Z t1 1) ≤ y9 then (
    nm (y7 + 1) <| fun y_4 =>
    k19 y5 y6 y_4 Z) else (
    bnd (sX3_acrossFrom t1 y9 y8 Z) <| fun q_5 =>
    nm (q_5.1) <| fun y_6 =>
    bnd (sX7_hasBit x2 y9 q_5.2) <| fun q_7 =>
    if q_7.1 = 0 then (
      nm (y9 + 1) <| fun y_9 =>
      sX5_search_L45 t1 x2 x3 x4 k19 n y5 y6 y7 y8 y_9 q_7.2) else (
      bnd (sX5_hasRoom t1 y9 y8 q_7.2) <| fun q_10 =>
      if q_10.1 = 0 then (
        nm (y9 + 1) <| fun y_12 =>
        sX5_search_L45 t1 x2 x3 x4 k19 n y5 y6 y7 y8 y_12 q_10.2) else (
        bnd (sX3_hasSwitch t1 y_6 q_10.2) <| fun q_13 =>
        if q_13.1 = 0 then (
          nm (y9 + 1) <| fun y_15 =>
          sX5_search_L45 t1 x2 x3 x4 k19 n y5 y6 y7 y8 y_15 q_13.2) else (
          bnd (sX7_hasBit y5 y_6 q_13.2) <| fun q_16 =>
          if q_16.1 = 0 then (
            if (8 : Int32) ≤ y6 then (
              nm (y9 + 1) <| fun y_20 =>
              sX5_search_L45 t1 x2 x3 x4 k19 n y5 y6 y7 y8 y_20 q_16.2) else (
              bnd (sX7_bit y_6 q_16.2) <| fun q_21 =>
              nm (y5 ||| q_21.1) <| fun y_22 =>
              gd (vin y_6 8 = true) <|
              nm (pI q_21.2 18 y_6.toNatClampNeg y9) <| fun Z_24 =>
              gd (vin y6 8 = true) <|
              nm (pI Z_24 17 y6.toNatClampNeg y_6) <| fun Z_26 =>
              nm (y6 + 1) <| fun y_27 =>
              nm (y9 + 1) <| fun y_28 =>
              sX5_search_L45 t1 x2 x3 x4 k19 n y_22 y_27 y7 y8 y_28 Z_26)) else (
            nm (y9 + 1) <| fun y_18 =>
            sX5_search_L45 t1 x2 x3 x4 k19 n y5 y6 y7 y8 y_18 q_16.2)))))
def sX5_search_L19 (t1 : Nat) (x2 : Int32) (x3 : Int32) (x4 : Int32) : Nat → Int32 → Int32 → Int32 → ZZ → Option (Int32 × ZZ)
  | 0, _, _, _, _ => none
  | n + 1, y5, y6, y7, Z =>
  if (8 : Int32) ≤ y7 then (
    sX5_search_B154 t1 x2 x3 x4 y5 Z) else (
    if y6 ≤ y7 then (
      sX5_search_B154 t1 x2 x3 x4 y5 Z) else (
      gd (vin y7 8 = true) <|
      nm (gI Z 17 y7.toNatClampNeg) <| fun y_32 =>
      sX5_search_L45 t1 x2 x3 x4 (fun y5 y6 y7 Z => sX5_search_L19 t1 x2 x3 x4 n y5 y6 y7 Z) 3000 y5 y6 y7 y_32 0 Z))
def sX5_search (t1 : Nat) (x2 : Int32) (x3 : Int32) (x4 : Int32) (Z : ZZ) : Option (Int32 × ZZ) :=
  gd (shC t1 = 14) <|
  bnd (sX7_bit x3 Z) <| fun q_33 =>
  nm (q_33.1) <| fun y_34 =>
  gd (vin 0 8 = true) <|
  nm (pI q_33.2 17 (0 : Int32).toNatClampNeg x3) <| fun Z_36 =>
  sX5_search_L19 t1 x2 x3 x4 3000 y_34 1 0 Z_36
abbrev rmX5_search : Room := { frames := 1, cells := 0, slots := 0, locals := 23 }
set_option maxHeartbeats 4000000 in
set_option maxRecDepth 100000 in
theorem kX5_search {l : Launch} {D : va_G} {dA : Nat → ClassId} {sa : String → Nat → Nat} {a : Nat → Nat} (hl : l.stackTraces = false) {t1 : Nat} {x2 : Int32} {x3 : Int32} {x4 : Int32} {Z Z' : ZZ} {v : Int32} (hX : sX5_search t1 x2 x3 x4 Z = some (v, Z')) : CTi l D dA sa yX5_search (wz yX5_search cX5_search 11 (some .boolean)) rmX5_search [.ref (a 13), .ref (a t1), .int x2, .int x3, .int x4] (cwC dA a Z) v (cwC dA a Z') := by
  refine xm_z hl (by decide +kernel) (Nat.le_of_ble_eq_true rfl) rfl ?_
  intro p e s m args below meth c A Q hC hR
  unfold sX5_search at hX
  obtain ⟨g1, hX⟩ := gd_some hX
  have v154 : ∀ (y5 : Int32) (Z : ZZ), sX5_search_B154 t1 x2 x3 x4 y5 Z = some (v, Z') → xv p l e rmX5_search s m args below meth c D A 11 Q (cwC dA a Z) 0 0 154 [(0, .ref (a 13)), (1, .ref (a t1)), (2, .int x2), (3, .int x3), (4, .int x4), (5, .int y5)] [] := by
    intro y5 Z hX
    unfold sX5_search_B154 at hX
    refine xv_iload (pc := 154) hC dX5_search_154 5 rfl ?_
    refine xv_iload (pc := 156) hC dX5_search_156 4 rfl ?_
    obtain ⟨q_1, hq_1, hX⟩ := bnd_some hX
    refine xv_callNi0 (As := [.int y5, .int x4]) (host := "Switchboard") (pc := 158) hC (kX7_hasBit hl hq_1) fS_X7_hasBit (by decide +kernel) rfl ⟨Nat.le_of_ble_eq_true rfl, Nat.le_of_ble_eq_true rfl⟩ rfl (Nat.le_of_ble_eq_true rfl) dX5_search_158 ⟨Nat.le_of_ble_eq_true rfl, Nat.le_of_ble_eq_true rfl⟩ ?_
    obtain ⟨h_2, hX⟩ := gd_some hX
    obtain ⟨h1, h2⟩ := some_pair hX
    exact xv_eqi (W := cwC dA a) h1 h2 (hR _ _ _ _ (by rw [← h1]; exact (bq_n h_2)) (Nat.le_of_ble_eq_true rfl) (Nat.le_of_ble_eq_true rfl) dX5_search_161)
  have v45 : ∀ (k19 : Int32 → Int32 → Int32 → ZZ → Option (Int32 × ZZ)) (hk19 : ∀ (y5 : Int32) (y6 : Int32) (y7 : Int32) (Z : ZZ), k19 y5 y6 y7 Z = some (v, Z') → xv p l e rmX5_search s m args below meth c D A 11 Q (cwC dA a Z) 0 0 19 [(0, .ref (a 13)), (1, .ref (a t1)), (2, .int x2), (3, .int x3), (4, .int x4), (5, .int y5), (6, .int y6), (7, .int y7)] []) (n : Nat) (y5 : Int32) (y6 : Int32) (y7 : Int32) (y8 : Int32) (y9 : Int32) (Z : ZZ), sX5_search_L45 t1 x2 x3 x4 k19 n y5 y6 y7 y8 y9 Z = some (v, Z') → xv p l e rmX5_search s m args below meth c D A 11 Q (cwC dA a Z) 0 0 45 [(0, .ref (a 13)), (1, .ref (a t1)), (2, .int x2), (3, .int x3), (4, .int x4), (5, .int y5), (6, .int y6), (7, .int y7), (8, .int y8), (9, .int y9)] [] := by
    intro k19 hk19 n
    induction n with
    | zero =>
      intro y5 y6 y7 y8 y9 Z hX
      exact absurd hX (by simp [sX5_search_L45])
    | succ n ih =>
      intro y5 y6 y7 y8 y9 Z hX
      rw [sX5_search_L45] at hX
      refine xv_iload (pc := 45) hC dX5_search_45 9 rfl ?_
      refine xv_aload_n (pc := 47) hC dX5_search_47 1 rfl rfl ?_
      refine xgX3 (v := .int (gI Z t1 1)) (pc := 48) hC dX5_search_48 g1 1 (by decide) wf_56 rfl ?_
      refine xv_icmp_ge (tgt := 148) (pc := 51) hC dX5_search_51 (by decide) (fun c_3 => ?_) (fun c_3 => ?_)
      · replace hX := if_t c_3 hX
        obtain ⟨y_4, hy_4, hX⟩ := nm_some hX
        refine xv_iinc (pc := 148) (v := y_4) (lv' := [(7, .int y_4), (0, .ref (a 13)), (1, .ref (a t1)), (2, .int x2), (3, .int x3), (4, .int x4), (5, .int y5), (6, .int y6), (8, .int y8), (9, .int y9)]) hC dX5_search_148 7 rfl (by rw [hy_4]; rfl) (by decide) rfl ?_
        refine xv_goto (tgt := 19) (pc := 151) hC dX5_search_151 (by decide) ?_
        refine xv_sub (lv' := [(0, .ref (a 13)), (1, .ref (a t1)), (2, .int x2), (3, .int x3), (4, .int x4), (5, .int y5), (6, .int y6), (7, .int y_4)]) [1, 2, 3, 4, 5, 6, 7, 0] rfl ?_
        exact hk19 y5 y6 y_4 Z hX
      · replace hX := if_f c_3 hX
        refine xv_aload_n (pc := 54) hC dX5_search_54 1 rfl rfl ?_
        refine xv_iload (pc := 55) hC dX5_search_55 9 rfl ?_
        refine xv_iload (pc := 57) hC dX5_search_57 8 rfl ?_
        obtain ⟨q_5, hq_5, hX⟩ := bnd_some hX
        refine xv_callVi0 (As := [.int y9, .int y8]) (pc := 59) hC (kX3_acrossFrom hl hq_5) fV_X3_acrossFrom wf_427 (rc_X3 g1) rfl ⟨Nat.le_of_ble_eq_true rfl, Nat.le_of_ble_eq_true rfl⟩ rfl (Nat.le_of_ble_eq_true rfl) dX5_search_59 ⟨Nat.le_of_ble_eq_true rfl, Nat.le_of_ble_eq_true rfl⟩ ?_
        obtain ⟨y_6, hy_6, hX⟩ := nm_some hX
        refine xv_nmi hy_6 ?_
        refine xv_istore (pc := 62) (lv' := [(10, .int y_6), (0, .ref (a 13)), (1, .ref (a t1)), (2, .int x2), (3, .int x3), (4, .int x4), (5, .int y5), (6, .int y6), (7, .int y7), (8, .int y8), (9, .int y9)]) hC dX5_search_62 (by decide) rfl ?_
        refine xv_iload_n (pc := 64) hC dX5_search_64 3 rfl rfl ?_
        refine xv_iload (pc := 65) hC dX5_search_65 10 rfl ?_
        obtain ⟨q_7, hq_7, hX⟩ := bnd_some hX
        refine xv_callNi0 (As := [.int x2, .int y9]) (host := "Switchboard") (pc := 67) hC (kX7_hasBit hl hq_7) fS_X7_hasBit (by decide +kernel) rfl ⟨Nat.le_of_ble_eq_true rfl, Nat.le_of_ble_eq_true rfl⟩ rfl (Nat.le_of_ble_eq_true rfl) dX5_search_67 ⟨Nat.le_of_ble_eq_true rfl, Nat.le_of_ble_eq_true rfl⟩ ?_
        refine xv_if_eq (tgt := 142) (pc := 70) hC dX5_search_70 (by decide) (fun c_8 => ?_) (fun c_8 => ?_)
        · replace hX := if_t c_8 hX
          obtain ⟨y_9, hy_9, hX⟩ := nm_some hX
          refine xv_iinc (pc := 142) (v := y_9) (lv' := [(9, .int y_9), (10, .int y_6), (0, .ref (a 13)), (1, .ref (a t1)), (2, .int x2), (3, .int x3), (4, .int x4), (5, .int y5), (6, .int y6), (7, .int y7), (8, .int y8)]) hC dX5_search_142 10 rfl (by rw [hy_9]; rfl) (by decide) rfl ?_
          refine xv_goto (tgt := 45) (pc := 145) hC dX5_search_145 (by decide) ?_
          refine xv_sub (lv' := [(0, .ref (a 13)), (1, .ref (a t1)), (2, .int x2), (3, .int x3), (4, .int x4), (5, .int y5), (6, .int y6), (7, .int y7), (8, .int y8), (9, .int y_9)]) [2, 3, 4, 5, 6, 7, 8, 9, 10, 0] rfl ?_
          exact ih y5 y6 y7 y8 y_9 q_7.2 hX
        · replace hX := if_f c_8 hX
          refine xv_aload_n (pc := 73) hC dX5_search_73 1 rfl rfl ?_
          refine xv_aload_n (pc := 74) hC dX5_search_74 2 rfl rfl ?_
          refine xv_iload (pc := 75) hC dX5_search_75 10 rfl ?_
          refine xv_iload (pc := 77) hC dX5_search_77 9 rfl ?_
          obtain ⟨q_10, hq_10, hX⟩ := bnd_some hX
          refine xv_callVi0 (As := [.ref (a t1), .int y9, .int y8]) (pc := 79) hC (kX5_hasRoom hl hq_10) fV_X5_hasRoom wf_450 (rc_X5 (rfl : shC 13 = 10)) rfl ⟨Nat.le_of_ble_eq_true rfl, Nat.le_of_ble_eq_true rfl⟩ rfl (Nat.le_of_ble_eq_true rfl) dX5_search_79 ⟨Nat.le_of_ble_eq_true rfl, Nat.le_of_ble_eq_true rfl⟩ ?_
          refine xv_if_eq (tgt := 142) (pc := 82) hC dX5_search_82 (by decide) (fun c_11 => ?_) (fun c_11 => ?_)
          · replace hX := if_t c_11 hX
            obtain ⟨y_12, hy_12, hX⟩ := nm_some hX
            refine xv_iinc (pc := 142) (v := y_12) (lv' := [(9, .int y_12), (10, .int y_6), (0, .ref (a 13)), (1, .ref (a t1)), (2, .int x2), (3, .int x3), (4, .int x4), (5, .int y5), (6, .int y6), (7, .int y7), (8, .int y8)]) hC dX5_search_142 10 rfl (by rw [hy_12]; rfl) (by decide) rfl ?_
            refine xv_goto (tgt := 45) (pc := 145) hC dX5_search_145 (by decide) ?_
            refine xv_sub (lv' := [(0, .ref (a 13)), (1, .ref (a t1)), (2, .int x2), (3, .int x3), (4, .int x4), (5, .int y5), (6, .int y6), (7, .int y7), (8, .int y8), (9, .int y_12)]) [2, 3, 4, 5, 6, 7, 8, 9, 10, 0] rfl ?_
            exact ih y5 y6 y7 y8 y_12 q_10.2 hX
          · replace hX := if_f c_11 hX
            refine xv_aload_n (pc := 85) hC dX5_search_85 2 rfl rfl ?_
            refine xv_iload (pc := 86) hC dX5_search_86 0 rfl ?_
            obtain ⟨q_13, hq_13, hX⟩ := bnd_some hX
            refine xv_callVi0 (As := [.int y_6]) (pc := 88) hC (kX3_hasSwitch hl hq_13) fV_X3_hasSwitch wf_454 (rc_X3 g1) rfl ⟨Nat.le_of_ble_eq_true rfl, Nat.le_of_ble_eq_true rfl⟩ rfl (Nat.le_of_ble_eq_true rfl) dX5_search_88 ⟨Nat.le_of_ble_eq_true rfl, Nat.le_of_ble_eq_true rfl⟩ ?_
            refine xv_if_eq (tgt := 142) (pc := 91) hC dX5_search_91 (by decide) (fun c_14 => ?_) (fun c_14 => ?_)
            · replace hX := if_t c_14 hX
              obtain ⟨y_15, hy_15, hX⟩ := nm_some hX
              refine xv_iinc (pc := 142) (v := y_15) (lv' := [(9, .int y_15), (10, .int y_6), (0, .ref (a 13)), (1, .ref (a t1)), (2, .int x2), (3, .int x3), (4, .int x4), (5, .int y5), (6, .int y6), (7, .int y7), (8, .int y8)]) hC dX5_search_142 10 rfl (by rw [hy_15]; rfl) (by decide) rfl ?_
              refine xv_goto (tgt := 45) (pc := 145) hC dX5_search_145 (by decide) ?_
              refine xv_sub (lv' := [(0, .ref (a 13)), (1, .ref (a t1)), (2, .int x2), (3, .int x3), (4, .int x4), (5, .int y5), (6, .int y6), (7, .int y7), (8, .int y8), (9, .int y_15)]) [2, 3, 4, 5, 6, 7, 8, 9, 10, 0] rfl ?_
              exact ih y5 y6 y7 y8 y_15 q_13.2 hX
            · replace hX := if_f c_14 hX
              refine xv_iload (pc := 94) hC dX5_search_94 6 rfl ?_
              refine xv_iload (pc := 96) hC dX5_search_96 0 rfl ?_
              obtain ⟨q_16, hq_16, hX⟩ := bnd_some hX
              refine xv_callNi0 (As := [.int y5, .int y_6]) (host := "Switchboard") (pc := 98) hC (kX7_hasBit hl hq_16) fS_X7_hasBit (by decide +kernel) rfl ⟨Nat.le_of_ble_eq_true rfl, Nat.le_of_ble_eq_true rfl⟩ rfl (Nat.le_of_ble_eq_true rfl) dX5_search_98 ⟨Nat.le_of_ble_eq_true rfl, Nat.le_of_ble_eq_true rfl⟩ ?_
              refine xv_if_ne (tgt := 142) (pc := 101) hC dX5_search_101 (by decide) (fun c_17 => ?_) (fun c_17 => ?_)
              · replace hX := if_f c_17 hX
                obtain ⟨y_18, hy_18, hX⟩ := nm_some hX
                refine xv_iinc (pc := 142) (v := y_18) (lv' := [(9, .int y_18), (10, .int y_6), (0, .ref (a 13)), (1, .ref (a t1)), (2, .int x2), (3, .int x3), (4, .int x4), (5, .int y5), (6, .int y6), (7, .int y7), (8, .int y8)]) hC dX5_search_142 10 rfl (by rw [hy_18]; rfl) (by decide) rfl ?_
                refine xv_goto (tgt := 45) (pc := 145) hC dX5_search_145 (by decide) ?_
                refine xv_sub (lv' := [(0, .ref (a 13)), (1, .ref (a t1)), (2, .int x2), (3, .int x3), (4, .int x4), (5, .int y5), (6, .int y6), (7, .int y7), (8, .int y8), (9, .int y_18)]) [2, 3, 4, 5, 6, 7, 8, 9, 10, 0] rfl ?_
                exact ih y5 y6 y7 y8 y_18 q_16.2 hX
              · replace hX := if_t c_17 hX
                refine xv_iload (pc := 104) hC dX5_search_104 7 rfl ?_
                refine xv_bipush (v := 8) (pc := 106) hC dX5_search_106 (by decide) ?_
                refine xv_icmp_ge (tgt := 142) (pc := 108) hC dX5_search_108 (by decide) (fun c_19 => ?_) (fun c_19 => ?_)
                · replace hX := if_t c_19 hX
                  obtain ⟨y_20, hy_20, hX⟩ := nm_some hX
                  refine xv_iinc (pc := 142) (v := y_20) (lv' := [(9, .int y_20), (10, .int y_6), (0, .ref (a 13)), (1, .ref (a t1)), (2, .int x2), (3, .int x3), (4, .int x4), (5, .int y5), (6, .int y6), (7, .int y7), (8, .int y8)]) hC dX5_search_142 10 rfl (by rw [hy_20]; rfl) (by decide) rfl ?_
                  refine xv_goto (tgt := 45) (pc := 145) hC dX5_search_145 (by decide) ?_
                  refine xv_sub (lv' := [(0, .ref (a 13)), (1, .ref (a t1)), (2, .int x2), (3, .int x3), (4, .int x4), (5, .int y5), (6, .int y6), (7, .int y7), (8, .int y8), (9, .int y_20)]) [2, 3, 4, 5, 6, 7, 8, 9, 10, 0] rfl ?_
                  exact ih y5 y6 y7 y8 y_20 q_16.2 hX
                · replace hX := if_f c_19 hX
                  refine xv_iload (pc := 111) hC dX5_search_111 6 rfl ?_
                  refine xv_iload (pc := 113) hC dX5_search_113 0 rfl ?_
                  obtain ⟨q_21, hq_21, hX⟩ := bnd_some hX
                  refine xv_callNi0 (As := [.int y_6]) (host := "Switchboard") (pc := 115) hC (kX7_bit hl hq_21) fS_X7_bit (by decide +kernel) rfl ⟨Nat.le_of_ble_eq_true rfl, Nat.le_of_ble_eq_true rfl⟩ rfl (Nat.le_of_ble_eq_true rfl) dX5_search_115 ⟨Nat.le_of_ble_eq_true rfl, Nat.le_of_ble_eq_true rfl⟩ ?_
                  refine xv_ior (pc := 118) hC dX5_search_118 ?_
                  obtain ⟨y_22, hy_22, hX⟩ := nm_some hX
                  refine xv_nmi hy_22 ?_
                  refine xv_istore (pc := 119) (lv' := [(5, .int y_22), (10, .int y_6), (0, .ref (a 13)), (1, .ref (a t1)), (2, .int x2), (3, .int x3), (4, .int x4), (6, .int y6), (7, .int y7), (8, .int y8), (9, .int y9)]) hC dX5_search_119 (by decide) rfl ?_
                  refine xv_aload_n (pc := 121) hC dX5_search_121 2 rfl rfl ?_
                  refine xgX5 (v := .ref (a 18)) (pc := 122) hC dX5_search_122 (rfl : shC 13 = 10) 6 (by decide) wf_261 rfl ?_
                  refine xv_iload (pc := 125) hC dX5_search_125 1 rfl ?_
                  refine xv_iload (pc := 127) hC dX5_search_127 10 rfl ?_
                  obtain ⟨h_23, hX⟩ := gd_some hX
                  obtain ⟨Z_24, hZ_24, hX⟩ := nm_some hX
                  refine xs_C5 (pc := 129) hC dX5_search_129 (rfl : shC 18 = 5) h_23 hZ_24 ?_
                  refine xv_aload_n (pc := 130) hC dX5_search_130 2 rfl rfl ?_
                  refine xgX5 (v := .ref (a 17)) (pc := 131) hC dX5_search_131 (rfl : shC 13 = 10) 5 (by decide) wf_260 rfl ?_
                  refine xv_iload (pc := 134) hC dX5_search_134 7 rfl ?_
                  refine xv_iload (pc := 136) hC dX5_search_136 1 rfl ?_
                  obtain ⟨h_25, hX⟩ := gd_some hX
                  obtain ⟨Z_26, hZ_26, hX⟩ := nm_some hX
                  refine xs_C5 (pc := 138) hC dX5_search_138 (rfl : shC 17 = 5) h_25 hZ_26 ?_
                  obtain ⟨y_27, hy_27, hX⟩ := nm_some hX
                  refine xv_iinc (pc := 139) (v := y_27) (lv' := [(6, .int y_27), (5, .int y_22), (10, .int y_6), (0, .ref (a 13)), (1, .ref (a t1)), (2, .int x2), (3, .int x3), (4, .int x4), (7, .int y7), (8, .int y8), (9, .int y9)]) hC dX5_search_139 7 rfl (by rw [hy_27]; rfl) (by decide) rfl ?_
                  obtain ⟨y_28, hy_28, hX⟩ := nm_some hX
                  refine xv_iinc (pc := 142) (v := y_28) (lv' := [(9, .int y_28), (6, .int y_27), (5, .int y_22), (10, .int y_6), (0, .ref (a 13)), (1, .ref (a t1)), (2, .int x2), (3, .int x3), (4, .int x4), (7, .int y7), (8, .int y8)]) hC dX5_search_142 10 rfl (by rw [hy_28]; rfl) (by decide) rfl ?_
                  refine xv_goto (tgt := 45) (pc := 145) hC dX5_search_145 (by decide) ?_
                  refine xv_sub (lv' := [(0, .ref (a 13)), (1, .ref (a t1)), (2, .int x2), (3, .int x3), (4, .int x4), (5, .int y_22), (6, .int y_27), (7, .int y7), (8, .int y8), (9, .int y_28)]) [4, 5, 6, 7, 8, 2, 1, 9, 10, 0] rfl ?_
                  exact ih y_22 y_27 y7 y8 y_28 Z_26 hX
  have v19 : ∀ (n : Nat) (y5 : Int32) (y6 : Int32) (y7 : Int32) (Z : ZZ), sX5_search_L19 t1 x2 x3 x4 n y5 y6 y7 Z = some (v, Z') → xv p l e rmX5_search s m args below meth c D A 11 Q (cwC dA a Z) 0 0 19 [(0, .ref (a 13)), (1, .ref (a t1)), (2, .int x2), (3, .int x3), (4, .int x4), (5, .int y5), (6, .int y6), (7, .int y7)] [] := by
    intro n
    induction n with
    | zero =>
      intro y5 y6 y7 Z hX
      exact absurd hX (by simp [sX5_search_L19])
    | succ n ih =>
      intro y5 y6 y7 Z hX
      rw [sX5_search_L19] at hX
      refine xv_iload (pc := 19) hC dX5_search_19 7 rfl ?_
      refine xv_bipush (v := 8) (pc := 21) hC dX5_search_21 (by decide) ?_
      refine xv_icmp_ge (tgt := 154) (pc := 23) hC dX5_search_23 (by decide) (fun c_29 => ?_) (fun c_29 => ?_)
      · replace hX := if_t c_29 hX
        refine xv_sub (lv' := [(0, .ref (a 13)), (1, .ref (a t1)), (2, .int x2), (3, .int x3), (4, .int x4), (5, .int y5)]) [0, 1, 2, 3, 4, 5] rfl ?_
        exact v154 y5 Z hX
      · replace hX := if_f c_29 hX
        refine xv_iload (pc := 26) hC dX5_search_26 7 rfl ?_
        refine xv_iload (pc := 28) hC dX5_search_28 6 rfl ?_
        refine xv_icmp_ge (tgt := 154) (pc := 30) hC dX5_search_30 (by decide) (fun c_30 => ?_) (fun c_30 => ?_)
        · replace hX := if_t c_30 hX
          refine xv_sub (lv' := [(0, .ref (a 13)), (1, .ref (a t1)), (2, .int x2), (3, .int x3), (4, .int x4), (5, .int y5)]) [0, 1, 2, 3, 4, 5] rfl ?_
          exact v154 y5 Z hX
        · replace hX := if_f c_30 hX
          refine xv_aload_n (pc := 33) hC dX5_search_33 0 rfl rfl ?_
          refine xgX5 (v := .ref (a 17)) (pc := 34) hC dX5_search_34 (rfl : shC 13 = 10) 5 (by decide) wf_260 rfl ?_
          refine xv_iload (pc := 37) hC dX5_search_37 7 rfl ?_
          obtain ⟨h_31, hX⟩ := gd_some hX
          refine xl_C5 (pc := 39) hC dX5_search_39 (rfl : shC 17 = 5) h_31 ?_
          obtain ⟨y_32, hy_32, hX⟩ := nm_some hX
          refine xv_nmi hy_32 ?_
          refine xv_istore (pc := 40) (lv' := [(8, .int y_32), (0, .ref (a 13)), (1, .ref (a t1)), (2, .int x2), (3, .int x3), (4, .int x4), (5, .int y5), (6, .int y6), (7, .int y7)]) hC dX5_search_40 (by decide) rfl ?_
          refine xv_iconst (v := 0) (pc := 42) hC dX5_search_42 (by decide) ?_
          refine xv_istore (pc := 43) (lv' := [(9, .int 0), (8, .int y_32), (0, .ref (a 13)), (1, .ref (a t1)), (2, .int x2), (3, .int x3), (4, .int x4), (5, .int y5), (6, .int y6), (7, .int y7)]) hC dX5_search_43 (by decide) rfl ?_
          refine xv_sub (lv' := [(0, .ref (a 13)), (1, .ref (a t1)), (2, .int x2), (3, .int x3), (4, .int x4), (5, .int y5), (6, .int y6), (7, .int y7), (8, .int y_32), (9, .int 0)]) [2, 3, 4, 5, 6, 7, 8, 9, 1, 0] rfl ?_
          exact v45 _ ih 3000 y5 y6 y7 y_32 0 Z hX
  show xv p l e rmX5_search s m args below meth c D A 11 Q (cwC dA a Z) 0 0 0 [(0, .ref (a 13)), (1, .ref (a t1)), (2, .int x2), (3, .int x3), (4, .int x4)] []
  refine xv_iload_n (pc := 0) hC dX5_search_0 3 rfl rfl ?_
  obtain ⟨q_33, hq_33, hX⟩ := bnd_some hX
  refine xv_callNi0 (As := [.int x3]) (host := "Switchboard") (pc := 1) hC (kX7_bit hl hq_33) fS_X7_bit (by decide +kernel) rfl ⟨Nat.le_of_ble_eq_true rfl, Nat.le_of_ble_eq_true rfl⟩ rfl (Nat.le_of_ble_eq_true rfl) dX5_search_1 ⟨Nat.le_of_ble_eq_true rfl, Nat.le_of_ble_eq_true rfl⟩ ?_
  obtain ⟨y_34, hy_34, hX⟩ := nm_some hX
  refine xv_nmi hy_34 ?_
  refine xv_istore (pc := 4) (lv' := [(5, .int y_34), (0, .ref (a 13)), (1, .ref (a t1)), (2, .int x2), (3, .int x3), (4, .int x4)]) hC dX5_search_4 (by decide) rfl ?_
  refine xv_aload_n (pc := 6) hC dX5_search_6 1 rfl rfl ?_
  refine xgX5 (v := .ref (a 17)) (pc := 7) hC dX5_search_7 (rfl : shC 13 = 10) 5 (by decide) wf_260 rfl ?_
  refine xv_iconst (v := 0) (pc := 10) hC dX5_search_10 (by decide) ?_
  refine xv_iload_n (pc := 11) hC dX5_search_11 4 rfl rfl ?_
  obtain ⟨h_35, hX⟩ := gd_some hX
  obtain ⟨Z_36, hZ_36, hX⟩ := nm_some hX
  refine xs_C5 (pc := 12) hC dX5_search_12 (rfl : shC 17 = 5) h_35 hZ_36 ?_
  refine xv_iconst (v := 1) (pc := 13) hC dX5_search_13 (by decide) ?_
  refine xv_istore (pc := 14) (lv' := [(6, .int 1), (5, .int y_34), (0, .ref (a 13)), (1, .ref (a t1)), (2, .int x2), (3, .int x3), (4, .int x4)]) hC dX5_search_14 (by decide) rfl ?_
  refine xv_iconst (v := 0) (pc := 16) hC dX5_search_16 (by decide) ?_
  refine xv_istore (pc := 17) (lv' := [(7, .int 0), (6, .int 1), (5, .int y_34), (0, .ref (a 13)), (1, .ref (a t1)), (2, .int x2), (3, .int x3), (4, .int x4)]) hC dX5_search_17 (by decide) rfl ?_
  refine xv_sub (lv' := [(0, .ref (a 13)), (1, .ref (a t1)), (2, .int x2), (3, .int x3), (4, .int x4), (5, .int y_34), (6, .int 1), (7, .int 0)]) [3, 4, 5, 6, 7, 2, 1, 0] rfl ?_
  exact v19 3000 y_34 1 0 Z_36 hX
def sX5_augment_L6 (t1 : Nat) (x2 : Int32) (x3 : Int32) : Nat → Int32 → Int32 → ZZ → Option (ZZ)
  | 0, _, _, _ => none
  | n + 1, y4, y5, Z =>
  if (7 : Int32) ≤ y5 then (
    some Z) else (
    if y4 = x2 then (
      some Z) else (
      bnd (sX3_hasSwitch t1 y4 Z) <| fun q_3 =>
      if q_3.1 = 0 then (
        some q_3.2) else (
        gd (vin y4 8 = true) <|
        nm (gI q_3.2 18 y4.toNatClampNeg) <| fun y_6 =>
        bnd (sX3_acrossFrom t1 y_6 y4 q_3.2) <| fun q_7 =>
        nm (q_7.1) <| fun y_8 =>
        bnd (sX3_hasTrunk t1 y_6 q_7.2) <| fun q_9 =>
        if q_9.1 = 0 then (
          nm (y5 + 1) <| fun y_11 =>
          sX5_augment_L6 t1 x2 x3 n y_8 y_11 q_9.2) else (
          gd (vin y_6 16 = true) <|
          gd (vin y_6 16 = true) <|
          if (gI q_9.2 (t1 + 1) y_6.toNatClampNeg) = y_8 then (
            gd (vin y_6 16 = true) <|
            nm (pI q_9.2 16 y_6.toNatClampNeg ((gI q_9.2 16 y_6.toNatClampNeg) + 1)) <| fun Z_19 =>
            nm (y5 + 1) <| fun y_20 =>
            sX5_augment_L6 t1 x2 x3 n y_8 y_20 Z_19) else (
            gd (vin y_6 16 = true) <|
            nm (pI q_9.2 16 y_6.toNatClampNeg ((gI q_9.2 16 y_6.toNatClampNeg) + (-1))) <| fun Z_16 =>
            nm (y5 + 1) <| fun y_17 =>
            sX5_augment_L6 t1 x2 x3 n y_8 y_17 Z_16)))))
def sX5_augment (t1 : Nat) (x2 : Int32) (x3 : Int32) (Z : ZZ) : Option (ZZ) :=
  gd (shC t1 = 14) <|
  sX5_augment_L6 t1 x2 x3 3000 x3 0 Z
abbrev rmX5_augment : Room := { frames := 1, cells := 0, slots := 0, locals := 22 }
set_option maxHeartbeats 4000000 in
set_option maxRecDepth 100000 in
theorem kX5_augment {l : Launch} {D : va_G} {dA : Nat → ClassId} {sa : String → Nat → Nat} {a : Nat → Nat} (hl : l.stackTraces = false) {t1 : Nat} {x2 : Int32} {x3 : Int32} {Z Z' : ZZ} (hX : sX5_augment t1 x2 x3 Z = some Z') : CTv l D dA sa yX5_augment (wz yX5_augment cX5_augment 8 none) rmX5_augment [.ref (a 13), .ref (a t1), .int x2, .int x3] (cwC dA a Z) (cwC dA a Z') := by
  refine xm_v hl (by decide +kernel) (Nat.le_of_ble_eq_true rfl) rfl ?_
  intro p e s m args below meth c A Q hC hR
  unfold sX5_augment at hX
  obtain ⟨g1, hX⟩ := gd_some hX
  have v6 : ∀ (n : Nat) (y4 : Int32) (y5 : Int32) (Z : ZZ), sX5_augment_L6 t1 x2 x3 n y4 y5 Z = some Z' → xv p l e rmX5_augment s m args below meth c D A 8 Q (cwC dA a Z) 0 0 6 [(0, .ref (a 13)), (1, .ref (a t1)), (2, .int x2), (3, .int x3), (4, .int y4), (5, .int y5)] [] := by
    intro n
    induction n with
    | zero =>
      intro y4 y5 Z hX
      exact absurd hX (by simp [sX5_augment_L6])
    | succ n ih =>
      intro y4 y5 Z hX
      rw [sX5_augment_L6] at hX
      refine xv_iload (pc := 6) hC dX5_augment_6 5 rfl ?_
      refine xv_bipush (v := 7) (pc := 8) hC dX5_augment_8 (by decide) ?_
      refine xv_icmp_ge (tgt := 93) (pc := 10) hC dX5_augment_10 (by decide) (fun c_1 => ?_) (fun c_1 => ?_)
      · replace hX := if_t c_1 hX
        exact xv_eqw (W := cwC dA a) (Option.some.inj hX) (hR _ _ _ _ (Nat.le_of_ble_eq_true rfl) (Nat.le_of_ble_eq_true rfl) dX5_augment_93)
      · replace hX := if_f c_1 hX
        refine xv_iload (pc := 13) hC dX5_augment_13 4 rfl ?_
        refine xv_iload_n (pc := 15) hC dX5_augment_15 2 rfl rfl ?_
        refine xv_icmp_eq (tgt := 93) (pc := 16) hC dX5_augment_16 (by decide) (fun c_2 => ?_) (fun c_2 => ?_)
        · replace hX := if_t c_2 hX
          exact xv_eqw (W := cwC dA a) (Option.some.inj hX) (hR _ _ _ _ (Nat.le_of_ble_eq_true rfl) (Nat.le_of_ble_eq_true rfl) dX5_augment_93)
        · replace hX := if_f c_2 hX
          refine xv_aload_n (pc := 19) hC dX5_augment_19 1 rfl rfl ?_
          refine xv_iload (pc := 20) hC dX5_augment_20 4 rfl ?_
          obtain ⟨q_3, hq_3, hX⟩ := bnd_some hX
          refine xv_callVi0 (As := [.int y4]) (pc := 22) hC (kX3_hasSwitch hl hq_3) fV_X3_hasSwitch wf_454 (rc_X3 g1) rfl ⟨Nat.le_of_ble_eq_true rfl, Nat.le_of_ble_eq_true rfl⟩ rfl (Nat.le_of_ble_eq_true rfl) dX5_augment_22 ⟨Nat.le_of_ble_eq_true rfl, Nat.le_of_ble_eq_true rfl⟩ ?_
          refine xv_if_eq (tgt := 93) (pc := 25) hC dX5_augment_25 (by decide) (fun c_4 => ?_) (fun c_4 => ?_)
          · replace hX := if_t c_4 hX
            exact xv_eqw (W := cwC dA a) (Option.some.inj hX) (hR _ _ _ _ (Nat.le_of_ble_eq_true rfl) (Nat.le_of_ble_eq_true rfl) dX5_augment_93)
          · replace hX := if_f c_4 hX
            refine xv_aload_n (pc := 28) hC dX5_augment_28 0 rfl rfl ?_
            refine xgX5 (v := .ref (a 18)) (pc := 29) hC dX5_augment_29 (rfl : shC 13 = 10) 6 (by decide) wf_261 rfl ?_
            refine xv_iload (pc := 32) hC dX5_augment_32 4 rfl ?_
            obtain ⟨h_5, hX⟩ := gd_some hX
            refine xl_C5 (pc := 34) hC dX5_augment_34 (rfl : shC 18 = 5) h_5 ?_
            obtain ⟨y_6, hy_6, hX⟩ := nm_some hX
            refine xv_nmi hy_6 ?_
            refine xv_istore (pc := 35) (lv' := [(6, .int y_6), (0, .ref (a 13)), (1, .ref (a t1)), (2, .int x2), (3, .int x3), (4, .int y4), (5, .int y5)]) hC dX5_augment_35 (by decide) rfl ?_
            refine xv_aload_n (pc := 37) hC dX5_augment_37 2 rfl rfl ?_
            refine xv_iload (pc := 38) hC dX5_augment_38 0 rfl ?_
            refine xv_iload (pc := 40) hC dX5_augment_40 5 rfl ?_
            obtain ⟨q_7, hq_7, hX⟩ := bnd_some hX
            refine xv_callVi0 (As := [.int y_6, .int y4]) (pc := 42) hC (kX3_acrossFrom hl hq_7) fV_X3_acrossFrom wf_427 (rc_X3 g1) rfl ⟨Nat.le_of_ble_eq_true rfl, Nat.le_of_ble_eq_true rfl⟩ rfl (Nat.le_of_ble_eq_true rfl) dX5_augment_42 ⟨Nat.le_of_ble_eq_true rfl, Nat.le_of_ble_eq_true rfl⟩ ?_
            obtain ⟨y_8, hy_8, hX⟩ := nm_some hX
            refine xv_nmi hy_8 ?_
            refine xv_istore (pc := 45) (lv' := [(7, .int y_8), (6, .int y_6), (0, .ref (a 13)), (1, .ref (a t1)), (2, .int x2), (3, .int x3), (4, .int y4), (5, .int y5)]) hC dX5_augment_45 (by decide) rfl ?_
            refine xv_aload_n (pc := 47) hC dX5_augment_47 3 rfl rfl ?_
            refine xv_iload (pc := 48) hC dX5_augment_48 1 rfl ?_
            obtain ⟨q_9, hq_9, hX⟩ := bnd_some hX
            refine xv_callVi0 (As := [.int y_6]) (pc := 50) hC (kX3_hasTrunk hl hq_9) fV_X3_hasTrunk wf_462 (rc_X3 g1) rfl ⟨Nat.le_of_ble_eq_true rfl, Nat.le_of_ble_eq_true rfl⟩ rfl (Nat.le_of_ble_eq_true rfl) dX5_augment_50 ⟨Nat.le_of_ble_eq_true rfl, Nat.le_of_ble_eq_true rfl⟩ ?_
            refine xv_if_eq (tgt := 83) (pc := 53) hC dX5_augment_53 (by decide) (fun c_10 => ?_) (fun c_10 => ?_)
            · replace hX := if_t c_10 hX
              refine xv_iload (pc := 83) hC dX5_augment_83 0 rfl ?_
              refine xv_istore (pc := 85) (lv' := [(4, .int y_8), (7, .int y_8), (6, .int y_6), (0, .ref (a 13)), (1, .ref (a t1)), (2, .int x2), (3, .int x3), (5, .int y5)]) hC dX5_augment_85 (by decide) rfl ?_
              obtain ⟨y_11, hy_11, hX⟩ := nm_some hX
              refine xv_iinc (pc := 87) (v := y_11) (lv' := [(5, .int y_11), (4, .int y_8), (7, .int y_8), (6, .int y_6), (0, .ref (a 13)), (1, .ref (a t1)), (2, .int x2), (3, .int x3)]) hC dX5_augment_87 7 rfl (by rw [hy_11]; rfl) (by decide) rfl ?_
              refine xv_goto (tgt := 6) (pc := 90) hC dX5_augment_90 (by decide) ?_
              refine xv_sub (lv' := [(0, .ref (a 13)), (1, .ref (a t1)), (2, .int x2), (3, .int x3), (4, .int y_8), (5, .int y_11)]) [4, 5, 6, 7, 1, 0] rfl ?_
              exact ih y_8 y_11 q_9.2 hX
            · replace hX := if_f c_10 hX
              refine xv_aload_n (pc := 56) hC dX5_augment_56 2 rfl rfl ?_
              refine xgX5 (v := .ref (a 16)) (pc := 57) hC dX5_augment_57 (rfl : shC 13 = 10) 4 (by decide) wf_259 rfl ?_
              refine xv_iload (pc := 60) hC dX5_augment_60 1 rfl ?_
              refine xv_dup2 (pc := 62) hC dX5_augment_62 rfl rfl ?_
              obtain ⟨h_12, hX⟩ := gd_some hX
              refine xl_C12 (pc := 63) hC dX5_augment_63 (rfl : shC 16 = 12) h_12 ?_
              refine xv_aload_n (pc := 64) hC dX5_augment_64 3 rfl rfl ?_
              refine xgX3 (v := .ref (a (t1 + 1))) (pc := 65) hC dX5_augment_65 g1 2 (by decide) wf_60 rfl ?_
              refine xv_iload (pc := 68) hC dX5_augment_68 1 rfl ?_
              obtain ⟨h_13, hX⟩ := gd_some hX
              refine xl_C12 (pc := 70) hC dX5_augment_70 (sh_X3_ones g1) h_13 ?_
              refine xv_iload (pc := 71) hC dX5_augment_71 0 rfl ?_
              refine xv_icmp_ne (tgt := 80) (pc := 73) hC dX5_augment_73 (by decide) (fun c_14 => ?_) (fun c_14 => ?_)
              · replace hX := if_f c_14 hX
                refine xv_iconst (v := (-1)) (pc := 80) hC dX5_augment_80 (by decide) ?_
                refine xv_iadd (pc := 81) hC dX5_augment_81 ?_
                obtain ⟨h_15, hX⟩ := gd_some hX
                obtain ⟨Z_16, hZ_16, hX⟩ := nm_some hX
                refine xs_C12 (pc := 82) hC dX5_augment_82 (rfl : shC 16 = 12) h_15 hZ_16 ?_
                refine xv_iload (pc := 83) hC dX5_augment_83 0 rfl ?_
                refine xv_istore (pc := 85) (lv' := [(4, .int y_8), (7, .int y_8), (6, .int y_6), (0, .ref (a 13)), (1, .ref (a t1)), (2, .int x2), (3, .int x3), (5, .int y5)]) hC dX5_augment_85 (by decide) rfl ?_
                obtain ⟨y_17, hy_17, hX⟩ := nm_some hX
                refine xv_iinc (pc := 87) (v := y_17) (lv' := [(5, .int y_17), (4, .int y_8), (7, .int y_8), (6, .int y_6), (0, .ref (a 13)), (1, .ref (a t1)), (2, .int x2), (3, .int x3)]) hC dX5_augment_87 7 rfl (by rw [hy_17]; rfl) (by decide) rfl ?_
                refine xv_goto (tgt := 6) (pc := 90) hC dX5_augment_90 (by decide) ?_
                refine xv_sub (lv' := [(0, .ref (a 13)), (1, .ref (a t1)), (2, .int x2), (3, .int x3), (4, .int y_8), (5, .int y_17)]) [4, 5, 6, 7, 1, 0] rfl ?_
                exact ih y_8 y_17 Z_16 hX
              · replace hX := if_t c_14 hX
                refine xv_iconst (v := 1) (pc := 76) hC dX5_augment_76 (by decide) ?_
                refine xv_goto (tgt := 81) (pc := 77) hC dX5_augment_77 (by decide) ?_
                refine xv_iadd (pc := 81) hC dX5_augment_81 ?_
                obtain ⟨h_18, hX⟩ := gd_some hX
                obtain ⟨Z_19, hZ_19, hX⟩ := nm_some hX
                refine xs_C12 (pc := 82) hC dX5_augment_82 (rfl : shC 16 = 12) h_18 hZ_19 ?_
                refine xv_iload (pc := 83) hC dX5_augment_83 0 rfl ?_
                refine xv_istore (pc := 85) (lv' := [(4, .int y_8), (7, .int y_8), (6, .int y_6), (0, .ref (a 13)), (1, .ref (a t1)), (2, .int x2), (3, .int x3), (5, .int y5)]) hC dX5_augment_85 (by decide) rfl ?_
                obtain ⟨y_20, hy_20, hX⟩ := nm_some hX
                refine xv_iinc (pc := 87) (v := y_20) (lv' := [(5, .int y_20), (4, .int y_8), (7, .int y_8), (6, .int y_6), (0, .ref (a 13)), (1, .ref (a t1)), (2, .int x2), (3, .int x3)]) hC dX5_augment_87 7 rfl (by rw [hy_20]; rfl) (by decide) rfl ?_
                refine xv_goto (tgt := 6) (pc := 90) hC dX5_augment_90 (by decide) ?_
                refine xv_sub (lv' := [(0, .ref (a 13)), (1, .ref (a t1)), (2, .int x2), (3, .int x3), (4, .int y_8), (5, .int y_20)]) [4, 5, 6, 7, 1, 0] rfl ?_
                exact ih y_8 y_20 Z_19 hX
  show xv p l e rmX5_augment s m args below meth c D A 8 Q (cwC dA a Z) 0 0 0 [(0, .ref (a 13)), (1, .ref (a t1)), (2, .int x2), (3, .int x3)] []
  refine xv_iload_n (pc := 0) hC dX5_augment_0 3 rfl rfl ?_
  refine xv_istore (pc := 1) (lv' := [(4, .int x3), (0, .ref (a 13)), (1, .ref (a t1)), (2, .int x2), (3, .int x3)]) hC dX5_augment_1 (by decide) rfl ?_
  refine xv_iconst (v := 0) (pc := 3) hC dX5_augment_3 (by decide) ?_
  refine xv_istore (pc := 4) (lv' := [(5, .int 0), (4, .int x3), (0, .ref (a 13)), (1, .ref (a t1)), (2, .int x2), (3, .int x3)]) hC dX5_augment_4 (by decide) rfl ?_
  refine xv_sub (lv' := [(0, .ref (a 13)), (1, .ref (a t1)), (2, .int x2), (3, .int x3), (4, .int x3), (5, .int 0)]) [2, 3, 4, 5, 1, 0] rfl ?_
  exact v6 3000 x3 0 Z hX
def sJ_fill_12_L5 (t0 : Nat) (x1 : Int32) : Nat → Int32 → Int32 → ZZ → Option (ZZ)
  | 0, _, _, _ => none
  | n + 1, y2, y3, Z =>
  if y3 ≤ y2 then (
    some Z) else (
    gd (vin y2 16 = true) <|
    nm (pI Z t0 y2.toNatClampNeg x1) <| fun Z_3 =>
    nm (y2 + 1) <| fun y_4 =>
    sJ_fill_12_L5 t0 x1 n y_4 y3 Z_3)
def sJ_fill_12 (t0 : Nat) (x1 : Int32) (Z : ZZ) : Option (ZZ) :=
  gd (shC t0 = 12) <|
  sJ_fill_12_L5 t0 x1 3000 0 16 Z
abbrev rmJ_fill_12 : Room := { frames := 0, cells := 0, slots := 0, locals := 0 }
set_option maxHeartbeats 4000000 in
set_option maxRecDepth 100000 in
theorem kJ_fill_12 {l : Launch} {D : va_G} {dA : Nat → ClassId} {sa : String → Nat → Nat} {a : Nat → Nat} (hl : l.stackTraces = false) {t0 : Nat} {x1 : Int32} {Z Z' : ZZ} (hX : sJ_fill_12 t0 x1 Z = some Z') : CTv l D dA sa ⟨"java/util/Arrays", "fill", "([II)V"⟩ (wz ⟨"java/util/Arrays", "fill", "([II)V"⟩ prog_37_method_103_code 4 none) rmJ_fill_12 [.ref (a t0), .int x1] (cwC dA a Z) (cwC dA a Z') := by
  refine xm_v hl (by decide +kernel) (Nat.le_of_ble_eq_true rfl) rfl ?_
  intro p e s m args below meth c A Q hC hR
  unfold sJ_fill_12 at hX
  obtain ⟨g0, hX⟩ := gd_some hX
  have v5 : ∀ (n : Nat) (y2 : Int32) (y3 : Int32) (Z : ZZ), sJ_fill_12_L5 t0 x1 n y2 y3 Z = some Z' → xv p l e rmJ_fill_12 s m args below meth c D A 4 Q (cwC dA a Z) 0 0 5 [(0, .ref (a t0)), (1, .int x1), (2, .int y2), (3, .int y3)] [] := by
    intro n
    induction n with
    | zero =>
      intro y2 y3 Z hX
      exact absurd hX (by simp [sJ_fill_12_L5])
    | succ n ih =>
      intro y2 y3 Z hX
      rw [sJ_fill_12_L5] at hX
      refine xv_iload_n (pc := 5) hC dJ_fill_5 2 rfl rfl ?_
      refine xv_iload_n (pc := 6) hC dJ_fill_6 3 rfl rfl ?_
      refine xv_icmp_ge (tgt := 20) (pc := 7) hC dJ_fill_7 (by decide) (fun c_1 => ?_) (fun c_1 => ?_)
      · replace hX := if_t c_1 hX
        exact xv_eqw (W := cwC dA a) (Option.some.inj hX) (hR _ _ _ _ (Nat.le_of_ble_eq_true rfl) (Nat.le_of_ble_eq_true rfl) dJ_fill_20)
      · replace hX := if_f c_1 hX
        refine xv_aload_n (pc := 10) hC dJ_fill_10 0 rfl rfl ?_
        refine xv_iload_n (pc := 11) hC dJ_fill_11 2 rfl rfl ?_
        refine xv_iload_n (pc := 12) hC dJ_fill_12 1 rfl rfl ?_
        obtain ⟨h_2, hX⟩ := gd_some hX
        obtain ⟨Z_3, hZ_3, hX⟩ := nm_some hX
        refine xs_C12 (pc := 13) hC dJ_fill_13 g0 h_2 hZ_3 ?_
        obtain ⟨y_4, hy_4, hX⟩ := nm_some hX
        refine xv_iinc (pc := 14) (v := y_4) (lv' := [(2, .int y_4), (0, .ref (a t0)), (1, .int x1), (3, .int y3)]) hC dJ_fill_14 2 rfl (by rw [hy_4]; rfl) (by decide) rfl ?_
        refine xv_goto (tgt := 5) (pc := 17) hC dJ_fill_17 (by decide) ?_
        refine xv_sub (lv' := [(0, .ref (a t0)), (1, .int x1), (2, .int y_4), (3, .int y3)]) [1, 2, 0, 3] rfl ?_
        exact ih y_4 y3 Z_3 hX
  show xv p l e rmJ_fill_12 s m args below meth c D A 4 Q (cwC dA a Z) 0 0 0 [(0, .ref (a t0)), (1, .int x1)] []
  refine xv_iconst (v := 0) (pc := 0) hC dJ_fill_0 (by decide) ?_
  refine xv_istore_n (pc := 1) (lv' := [(2, .int 0), (0, .ref (a t0)), (1, .int x1)]) hC dJ_fill_1 rfl (by decide) rfl ?_
  refine xv_aload_n (pc := 2) hC dJ_fill_2 1 rfl rfl ?_
  refine xn_C12 (v := 16) (pc := 3) hC dJ_fill_3 g0 (by decide) ?_
  refine xv_istore_n (pc := 4) (lv' := [(3, .int 16), (2, .int 0), (0, .ref (a t0)), (1, .int x1)]) hC dJ_fill_4 rfl (by decide) rfl ?_
  refine xv_sub (lv' := [(0, .ref (a t0)), (1, .int x1), (2, .int 0), (3, .int 16)]) [2, 3, 1, 0] rfl ?_
  exact v5 3000 0 16 Z hX
def sX5_countDisjoint_L11 (t1 : Nat) (x2 : Int32) (x3 : Int32) (x4 : Int32) : Nat → Int32 → ZZ → Option (Int32 × ZZ)
  | 0, _, _ => none
  | n + 1, y5, Z =>
  if (16 : Int32) ≤ y5 then (
    some (y5, Z)) else (
    bnd (sX5_search t1 x2 x3 x4 Z) <| fun q_2 =>
    if q_2.1 = 0 then (
      some (y5, q_2.2)) else (
      bnd (sX5_augment t1 x3 x4 q_2.2) <| fun q_4 =>
      nm (y5 + 1) <| fun y_5 =>
      sX5_countDisjoint_L11 t1 x2 x3 x4 n y_5 q_4))
def sX5_countDisjoint (t1 : Nat) (x2 : Int32) (x3 : Int32) (x4 : Int32) (Z : ZZ) : Option (Int32 × ZZ) :=
  gd (shC t1 = 14) <|
  bnd (sJ_fill_12 16 0 Z) <| fun q_6 =>
  sX5_countDisjoint_L11 t1 x2 x3 x4 3000 0 q_6
abbrev rmX5_countDisjoint : Room := { frames := 2, cells := 0, slots := 0, locals := 53 }
set_option maxHeartbeats 4000000 in
set_option maxRecDepth 100000 in
theorem kX5_countDisjoint {l : Launch} {D : va_G} {dA : Nat → ClassId} {sa : String → Nat → Nat} {a : Nat → Nat} (hl : l.stackTraces = false) {t1 : Nat} {x2 : Int32} {x3 : Int32} {x4 : Int32} {Z Z' : ZZ} {v : Int32} (hX : sX5_countDisjoint t1 x2 x3 x4 Z = some (v, Z')) : CTi l D dA sa yX5_countDisjoint (wz yX5_countDisjoint cX5_countDisjoint 6 (some .int)) rmX5_countDisjoint [.ref (a 13), .ref (a t1), .int x2, .int x3, .int x4] (cwC dA a Z) v (cwC dA a Z') := by
  refine xm_i hl (by decide +kernel) (Nat.le_of_ble_eq_true rfl) rfl ?_
  intro p e s m args below meth c A Q hC hR
  unfold sX5_countDisjoint at hX
  obtain ⟨g1, hX⟩ := gd_some hX
  have v11 : ∀ (n : Nat) (y5 : Int32) (Z : ZZ), sX5_countDisjoint_L11 t1 x2 x3 x4 n y5 Z = some (v, Z') → xv p l e rmX5_countDisjoint s m args below meth c D A 6 Q (cwC dA a Z) 0 0 11 [(0, .ref (a 13)), (1, .ref (a t1)), (2, .int x2), (3, .int x3), (4, .int x4), (5, .int y5)] [] := by
    intro n
    induction n with
    | zero =>
      intro y5 Z hX
      exact absurd hX (by simp [sX5_countDisjoint_L11])
    | succ n ih =>
      intro y5 Z hX
      rw [sX5_countDisjoint_L11] at hX
      refine xv_iload (pc := 11) hC dX5_countDisjoint_11 5 rfl ?_
      refine xv_bipush (v := 16) (pc := 13) hC dX5_countDisjoint_13 (by decide) ?_
      refine xv_icmp_ge (tgt := 44) (pc := 15) hC dX5_countDisjoint_15 (by decide) (fun c_1 => ?_) (fun c_1 => ?_)
      · replace hX := if_t c_1 hX
        refine xv_iload (pc := 44) hC dX5_countDisjoint_44 5 rfl ?_
        obtain ⟨h1, h2⟩ := some_pair hX
        exact xv_eqi (W := cwC dA a) h1 h2 (hR _ _ _ _ (Nat.le_of_ble_eq_true rfl) (Nat.le_of_ble_eq_true rfl) dX5_countDisjoint_46)
      · replace hX := if_f c_1 hX
        refine xv_aload_n (pc := 18) hC dX5_countDisjoint_18 0 rfl rfl ?_
        refine xv_aload_n (pc := 19) hC dX5_countDisjoint_19 1 rfl rfl ?_
        refine xv_iload_n (pc := 20) hC dX5_countDisjoint_20 2 rfl rfl ?_
        refine xv_iload_n (pc := 21) hC dX5_countDisjoint_21 3 rfl rfl ?_
        refine xv_iload (pc := 22) hC dX5_countDisjoint_22 4 rfl ?_
        obtain ⟨q_2, hq_2, hX⟩ := bnd_some hX
        refine xv_callVi0 (As := [.ref (a t1), .int x2, .int x3, .int x4]) (pc := 24) hC (kX5_search hl hq_2) fV_X5_search wf_446 (rc_X5 (rfl : shC 13 = 10)) rfl ⟨Nat.le_of_ble_eq_true rfl, Nat.le_of_ble_eq_true rfl⟩ rfl (Nat.le_of_ble_eq_true rfl) dX5_countDisjoint_24 ⟨Nat.le_of_ble_eq_true rfl, Nat.le_of_ble_eq_true rfl⟩ ?_
        refine xv_if_eq (tgt := 44) (pc := 27) hC dX5_countDisjoint_27 (by decide) (fun c_3 => ?_) (fun c_3 => ?_)
        · replace hX := if_t c_3 hX
          refine xv_iload (pc := 44) hC dX5_countDisjoint_44 5 rfl ?_
          obtain ⟨h1, h2⟩ := some_pair hX
          exact xv_eqi (W := cwC dA a) h1 h2 (hR _ _ _ _ (Nat.le_of_ble_eq_true rfl) (Nat.le_of_ble_eq_true rfl) dX5_countDisjoint_46)
        · replace hX := if_f c_3 hX
          refine xv_aload_n (pc := 30) hC dX5_countDisjoint_30 0 rfl rfl ?_
          refine xv_aload_n (pc := 31) hC dX5_countDisjoint_31 1 rfl rfl ?_
          refine xv_iload_n (pc := 32) hC dX5_countDisjoint_32 3 rfl rfl ?_
          refine xv_iload (pc := 33) hC dX5_countDisjoint_33 4 rfl ?_
          obtain ⟨q_4, hq_4, hX⟩ := bnd_some hX
          refine xv_callVv0 (As := [.ref (a t1), .int x3, .int x4]) (pc := 35) hC (kX5_augment hl hq_4) fV_X5_augment wf_458 (rc_X5 (rfl : shC 13 = 10)) rfl ⟨Nat.le_of_ble_eq_true rfl, Nat.le_of_ble_eq_true rfl⟩ rfl (Nat.le_of_ble_eq_true rfl) dX5_countDisjoint_35 ⟨Nat.le_of_ble_eq_true rfl, Nat.le_of_ble_eq_true rfl⟩ ?_
          obtain ⟨y_5, hy_5, hX⟩ := nm_some hX
          refine xv_iinc (pc := 38) (v := y_5) (lv' := [(5, .int y_5), (0, .ref (a 13)), (1, .ref (a t1)), (2, .int x2), (3, .int x3), (4, .int x4)]) hC dX5_countDisjoint_38 5 rfl (by rw [hy_5]; rfl) (by decide) rfl ?_
          refine xv_goto (tgt := 11) (pc := 41) hC dX5_countDisjoint_41 (by decide) ?_
          refine xv_sub (lv' := [(0, .ref (a 13)), (1, .ref (a t1)), (2, .int x2), (3, .int x3), (4, .int x4), (5, .int y_5)]) [1, 2, 3, 4, 5, 0] rfl ?_
          exact ih y_5 q_4 hX
  show xv p l e rmX5_countDisjoint s m args below meth c D A 6 Q (cwC dA a Z) 0 0 0 [(0, .ref (a 13)), (1, .ref (a t1)), (2, .int x2), (3, .int x3), (4, .int x4)] []
  refine xv_aload_n (pc := 0) hC dX5_countDisjoint_0 0 rfl rfl ?_
  refine xgX5 (v := .ref (a 16)) (pc := 1) hC dX5_countDisjoint_1 (rfl : shC 13 = 10) 4 (by decide) wf_259 rfl ?_
  refine xv_iconst (v := 0) (pc := 4) hC dX5_countDisjoint_4 (by decide) ?_
  obtain ⟨q_6, hq_6, hX⟩ := bnd_some hX
  refine xv_callSv0 (As := [.ref (a 16), .int 0]) (pc := 5) hC (kJ_fill_12 hl hq_6) fS_J7_fill_53178 wf_412 rfl ⟨Nat.le_of_ble_eq_true rfl, Nat.le_of_ble_eq_true rfl⟩ rfl (Nat.le_of_ble_eq_true rfl) dX5_countDisjoint_5 ⟨Nat.le_of_ble_eq_true rfl, Nat.le_of_ble_eq_true rfl⟩ ?_
  refine xv_iconst (v := 0) (pc := 8) hC dX5_countDisjoint_8 (by decide) ?_
  refine xv_istore (pc := 9) (lv' := [(5, .int 0), (0, .ref (a 13)), (1, .ref (a t1)), (2, .int x2), (3, .int x3), (4, .int x4)]) hC dX5_countDisjoint_9 (by decide) rfl ?_
  refine xv_sub (lv' := [(0, .ref (a 13)), (1, .ref (a t1)), (2, .int x2), (3, .int x3), (4, .int x4), (5, .int 0)]) [1, 2, 3, 4, 5, 0] rfl ?_
  exact v11 3000 0 q_6 hX
def sX5_countLeaving_B45 (t1 : Nat) (x2 : Int32) (x3 : Int32) (k6 : Int32 → Int32 → ZZ → Option (Int32 × ZZ)) (y4 : Int32) (y5 : Int32) (u0 : Int32) (Z : ZZ) : Option (Int32 × ZZ) :=
  if u0 = 0 then (
    nm (y5 + 1) <| fun y_2 =>
    k6 y4 y_2 Z) else (
    bnd (sX7_hasBit x2 y5 Z) <| fun q_3 =>
    if q_3.1 = 0 then (
      nm (y5 + 1) <| fun y_5 =>
      k6 y4 y_5 q_3.2) else (
      nm (y4 + 1) <| fun y_6 =>
      nm (y5 + 1) <| fun y_7 =>
      k6 y_6 y_7 q_3.2))
def sX5_countLeaving_L6 (t1 : Nat) (x2 : Int32) (x3 : Int32) : Nat → Int32 → Int32 → ZZ → Option (Int32 × ZZ)
  | 0, _, _, _ => none
  | n + 1, y4, y5, Z =>
  if (gI Z t1 1) ≤ y5 then (
    some (y4, Z)) else (
    gd (vin y5 16 = true) <|
    bnd (sX7_hasBit x3 (gI Z (t1 + 1) y5.toNatClampNeg) Z) <| fun q_10 =>
    gd (vin y5 16 = true) <|
    bnd (sX7_hasBit x3 (gI q_10.2 (t1 + 2) y5.toNatClampNeg) q_10.2) <| fun q_12 =>
    if q_10.1 = q_12.1 then (
      sX5_countLeaving_B45 t1 x2 x3 (fun y4 y5 Z => sX5_countLeaving_L6 t1 x2 x3 n y4 y5 Z) y4 y5 0 q_12.2) else (
      sX5_countLeaving_B45 t1 x2 x3 (fun y4 y5 Z => sX5_countLeaving_L6 t1 x2 x3 n y4 y5 Z) y4 y5 1 q_12.2))
def sX5_countLeaving (t1 : Nat) (x2 : Int32) (x3 : Int32) (Z : ZZ) : Option (Int32 × ZZ) :=
  gd (shC t1 = 14) <|
  sX5_countLeaving_L6 t1 x2 x3 3000 0 0 Z
abbrev rmX5_countLeaving : Room := { frames := 1, cells := 0, slots := 0, locals := 21 }
set_option maxHeartbeats 4000000 in
set_option maxRecDepth 100000 in
theorem kX5_countLeaving {l : Launch} {D : va_G} {dA : Nat → ClassId} {sa : String → Nat → Nat} {a : Nat → Nat} (hl : l.stackTraces = false) {t1 : Nat} {x2 : Int32} {x3 : Int32} {Z Z' : ZZ} {v : Int32} (hX : sX5_countLeaving t1 x2 x3 Z = some (v, Z')) : CTi l D dA sa yX5_countLeaving (wz yX5_countLeaving cX5_countLeaving 7 (some .int)) rmX5_countLeaving [.ref (a 13), .ref (a t1), .int x2, .int x3] (cwC dA a Z) v (cwC dA a Z') := by
  refine xm_i hl (by decide +kernel) (Nat.le_of_ble_eq_true rfl) rfl ?_
  intro p e s m args below meth c A Q hC hR
  unfold sX5_countLeaving at hX
  obtain ⟨g1, hX⟩ := gd_some hX
  have v45 : ∀ (k6 : Int32 → Int32 → ZZ → Option (Int32 × ZZ)) (hk6 : ∀ (y4 : Int32) (y5 : Int32) (Z : ZZ), k6 y4 y5 Z = some (v, Z') → xv p l e rmX5_countLeaving s m args below meth c D A 7 Q (cwC dA a Z) 0 0 6 [(0, .ref (a 13)), (1, .ref (a t1)), (2, .int x2), (3, .int x3), (4, .int y4), (5, .int y5)] []) (y4 : Int32) (y5 : Int32) (u0 : Int32) (Z : ZZ), sX5_countLeaving_B45 t1 x2 x3 k6 y4 y5 u0 Z = some (v, Z') → xv p l e rmX5_countLeaving s m args below meth c D A 7 Q (cwC dA a Z) 0 0 45 [(0, .ref (a 13)), (1, .ref (a t1)), (2, .int x2), (3, .int x3), (4, .int y4), (5, .int y5)] [.int u0] := by
    intro k6 hk6 y4 y5 u0 Z hX
    unfold sX5_countLeaving_B45 at hX
    refine xv_istore (pc := 45) (lv' := [(6, .int u0), (0, .ref (a 13)), (1, .ref (a t1)), (2, .int x2), (3, .int x3), (4, .int y4), (5, .int y5)]) hC dX5_countLeaving_45 (by decide) rfl ?_
    refine xv_iload (pc := 47) hC dX5_countLeaving_47 0 rfl ?_
    refine xv_if_eq (tgt := 64) (pc := 49) hC dX5_countLeaving_49 (by decide) (fun c_1 => ?_) (fun c_1 => ?_)
    · replace hX := if_t c_1 hX
      obtain ⟨y_2, hy_2, hX⟩ := nm_some hX
      refine xv_iinc (pc := 64) (v := y_2) (lv' := [(5, .int y_2), (6, .int u0), (0, .ref (a 13)), (1, .ref (a t1)), (2, .int x2), (3, .int x3), (4, .int y4)]) hC dX5_countLeaving_64 6 rfl (by rw [hy_2]; rfl) (by decide) rfl ?_
      refine xv_goto (tgt := 6) (pc := 67) hC dX5_countLeaving_67 (by decide) ?_
      refine xv_sub (lv' := [(0, .ref (a 13)), (1, .ref (a t1)), (2, .int x2), (3, .int x3), (4, .int y4), (5, .int y_2)]) [2, 3, 4, 5, 6, 0] rfl ?_
      exact hk6 y4 y_2 Z hX
    · replace hX := if_f c_1 hX
      refine xv_iload_n (pc := 52) hC dX5_countLeaving_52 3 rfl rfl ?_
      refine xv_iload (pc := 53) hC dX5_countLeaving_53 6 rfl ?_
      obtain ⟨q_3, hq_3, hX⟩ := bnd_some hX
      refine xv_callNi0 (As := [.int x2, .int y5]) (host := "Switchboard") (pc := 55) hC (kX7_hasBit hl hq_3) fS_X7_hasBit (by decide +kernel) rfl ⟨Nat.le_of_ble_eq_true rfl, Nat.le_of_ble_eq_true rfl⟩ rfl (Nat.le_of_ble_eq_true rfl) dX5_countLeaving_55 ⟨Nat.le_of_ble_eq_true rfl, Nat.le_of_ble_eq_true rfl⟩ ?_
      refine xv_if_eq (tgt := 64) (pc := 58) hC dX5_countLeaving_58 (by decide) (fun c_4 => ?_) (fun c_4 => ?_)
      · replace hX := if_t c_4 hX
        obtain ⟨y_5, hy_5, hX⟩ := nm_some hX
        refine xv_iinc (pc := 64) (v := y_5) (lv' := [(5, .int y_5), (6, .int u0), (0, .ref (a 13)), (1, .ref (a t1)), (2, .int x2), (3, .int x3), (4, .int y4)]) hC dX5_countLeaving_64 6 rfl (by rw [hy_5]; rfl) (by decide) rfl ?_
        refine xv_goto (tgt := 6) (pc := 67) hC dX5_countLeaving_67 (by decide) ?_
        refine xv_sub (lv' := [(0, .ref (a 13)), (1, .ref (a t1)), (2, .int x2), (3, .int x3), (4, .int y4), (5, .int y_5)]) [2, 3, 4, 5, 6, 0] rfl ?_
        exact hk6 y4 y_5 q_3.2 hX
      · replace hX := if_f c_4 hX
        obtain ⟨y_6, hy_6, hX⟩ := nm_some hX
        refine xv_iinc (pc := 61) (v := y_6) (lv' := [(4, .int y_6), (6, .int u0), (0, .ref (a 13)), (1, .ref (a t1)), (2, .int x2), (3, .int x3), (5, .int y5)]) hC dX5_countLeaving_61 5 rfl (by rw [hy_6]; rfl) (by decide) rfl ?_
        obtain ⟨y_7, hy_7, hX⟩ := nm_some hX
        refine xv_iinc (pc := 64) (v := y_7) (lv' := [(5, .int y_7), (4, .int y_6), (6, .int u0), (0, .ref (a 13)), (1, .ref (a t1)), (2, .int x2), (3, .int x3)]) hC dX5_countLeaving_64 6 rfl (by rw [hy_7]; rfl) (by decide) rfl ?_
        refine xv_goto (tgt := 6) (pc := 67) hC dX5_countLeaving_67 (by decide) ?_
        refine xv_sub (lv' := [(0, .ref (a 13)), (1, .ref (a t1)), (2, .int x2), (3, .int x3), (4, .int y_6), (5, .int y_7)]) [3, 4, 5, 6, 1, 0] rfl ?_
        exact hk6 y_6 y_7 q_3.2 hX
  have v6 : ∀ (n : Nat) (y4 : Int32) (y5 : Int32) (Z : ZZ), sX5_countLeaving_L6 t1 x2 x3 n y4 y5 Z = some (v, Z') → xv p l e rmX5_countLeaving s m args below meth c D A 7 Q (cwC dA a Z) 0 0 6 [(0, .ref (a 13)), (1, .ref (a t1)), (2, .int x2), (3, .int x3), (4, .int y4), (5, .int y5)] [] := by
    intro n
    induction n with
    | zero =>
      intro y4 y5 Z hX
      exact absurd hX (by simp [sX5_countLeaving_L6])
    | succ n ih =>
      intro y4 y5 Z hX
      rw [sX5_countLeaving_L6] at hX
      refine xv_iload (pc := 6) hC dX5_countLeaving_6 5 rfl ?_
      refine xv_aload_n (pc := 8) hC dX5_countLeaving_8 1 rfl rfl ?_
      refine xgX3 (v := .int (gI Z t1 1)) (pc := 9) hC dX5_countLeaving_9 g1 1 (by decide) wf_56 rfl ?_
      refine xv_icmp_ge (tgt := 70) (pc := 12) hC dX5_countLeaving_12 (by decide) (fun c_8 => ?_) (fun c_8 => ?_)
      · replace hX := if_t c_8 hX
        refine xv_iload (pc := 70) hC dX5_countLeaving_70 4 rfl ?_
        obtain ⟨h1, h2⟩ := some_pair hX
        exact xv_eqi (W := cwC dA a) h1 h2 (hR _ _ _ _ (Nat.le_of_ble_eq_true rfl) (Nat.le_of_ble_eq_true rfl) dX5_countLeaving_72)
      · replace hX := if_f c_8 hX
        refine xv_iload_n (pc := 15) hC dX5_countLeaving_15 3 rfl rfl ?_
        refine xv_aload_n (pc := 16) hC dX5_countLeaving_16 1 rfl rfl ?_
        refine xgX3 (v := .ref (a (t1 + 1))) (pc := 17) hC dX5_countLeaving_17 g1 2 (by decide) wf_60 rfl ?_
        refine xv_iload (pc := 20) hC dX5_countLeaving_20 5 rfl ?_
        obtain ⟨h_9, hX⟩ := gd_some hX
        refine xl_C12 (pc := 22) hC dX5_countLeaving_22 (sh_X3_ones g1) h_9 ?_
        obtain ⟨q_10, hq_10, hX⟩ := bnd_some hX
        refine xv_callNi0 (As := [.int x3, .int (gI Z (t1 + 1) y5.toNatClampNeg)]) (host := "Switchboard") (pc := 23) hC (kX7_hasBit hl hq_10) fS_X7_hasBit (by decide +kernel) rfl ⟨Nat.le_of_ble_eq_true rfl, Nat.le_of_ble_eq_true rfl⟩ rfl (Nat.le_of_ble_eq_true rfl) dX5_countLeaving_23 ⟨Nat.le_of_ble_eq_true rfl, Nat.le_of_ble_eq_true rfl⟩ ?_
        refine xv_iload_n (pc := 26) hC dX5_countLeaving_26 3 rfl rfl ?_
        refine xv_aload_n (pc := 27) hC dX5_countLeaving_27 1 rfl rfl ?_
        refine xgX3 (v := .ref (a (t1 + 2))) (pc := 28) hC dX5_countLeaving_28 g1 3 (by decide) wf_63 rfl ?_
        refine xv_iload (pc := 31) hC dX5_countLeaving_31 5 rfl ?_
        obtain ⟨h_11, hX⟩ := gd_some hX
        refine xl_C12 (pc := 33) hC dX5_countLeaving_33 (sh_X3_others g1) h_11 ?_
        obtain ⟨q_12, hq_12, hX⟩ := bnd_some hX
        refine xv_callNi0 (As := [.int x3, .int (gI q_10.2 (t1 + 2) y5.toNatClampNeg)]) (host := "Switchboard") (pc := 34) hC (kX7_hasBit hl hq_12) fS_X7_hasBit (by decide +kernel) rfl ⟨Nat.le_of_ble_eq_true rfl, Nat.le_of_ble_eq_true rfl⟩ rfl (Nat.le_of_ble_eq_true rfl) dX5_countLeaving_34 ⟨Nat.le_of_ble_eq_true rfl, Nat.le_of_ble_eq_true rfl⟩ ?_
        refine xv_icmp_eq (tgt := 44) (pc := 37) hC dX5_countLeaving_37 (by decide) (fun c_13 => ?_) (fun c_13 => ?_)
        · replace hX := if_t c_13 hX
          refine xv_iconst (v := 0) (pc := 44) hC dX5_countLeaving_44 (by decide) ?_
          exact v45 _ ih y4 y5 0 q_12.2 hX
        · replace hX := if_f c_13 hX
          refine xv_iconst (v := 1) (pc := 40) hC dX5_countLeaving_40 (by decide) ?_
          refine xv_goto (tgt := 45) (pc := 41) hC dX5_countLeaving_41 (by decide) ?_
          exact v45 _ ih y4 y5 1 q_12.2 hX
  show xv p l e rmX5_countLeaving s m args below meth c D A 7 Q (cwC dA a Z) 0 0 0 [(0, .ref (a 13)), (1, .ref (a t1)), (2, .int x2), (3, .int x3)] []
  refine xv_iconst (v := 0) (pc := 0) hC dX5_countLeaving_0 (by decide) ?_
  refine xv_istore (pc := 1) (lv' := [(4, .int 0), (0, .ref (a 13)), (1, .ref (a t1)), (2, .int x2), (3, .int x3)]) hC dX5_countLeaving_1 (by decide) rfl ?_
  refine xv_iconst (v := 0) (pc := 3) hC dX5_countLeaving_3 (by decide) ?_
  refine xv_istore (pc := 4) (lv' := [(5, .int 0), (4, .int 0), (0, .ref (a 13)), (1, .ref (a t1)), (2, .int x2), (3, .int x3)]) hC dX5_countLeaving_4 (by decide) rfl ?_
  refine xv_sub (lv' := [(0, .ref (a 13)), (1, .ref (a t1)), (2, .int x2), (3, .int x3), (4, .int 0), (5, .int 0)]) [2, 3, 4, 5, 1, 0] rfl ?_
  exact v6 3000 0 0 Z hX
def sX5_smallestCut_L7 (t1 : Nat) (x2 : Int32) (x3 : Int32) (x4 : Int32) : Nat → Int32 → Int32 → ZZ → Option (Int32 × ZZ)
  | 0, _, _, _ => none
  | n + 1, y5, y6, Z =>
  bnd (sX7_bit (gI Z t1 0) Z) <| fun q_1 =>
  if q_1.1 ≤ y6 then (
    some (y5, q_1.2)) else (
    bnd (sX7_hasBit y6 x3 q_1.2) <| fun q_3 =>
    if q_3.1 = 0 then (
      nm (y6 + 1) <| fun y_5 =>
      sX5_smallestCut_L7 t1 x2 x3 x4 n y5 y_5 q_3.2) else (
      bnd (sX7_hasBit y6 x4 q_3.2) <| fun q_6 =>
      if q_6.1 = 0 then (
        bnd (sX5_countLeaving t1 x2 y6 q_6.2) <| fun q_9 =>
        nm (imin y5 q_9.1) <| fun y_10 =>
        nm (y6 + 1) <| fun y_11 =>
        sX5_smallestCut_L7 t1 x2 x3 x4 n y_10 y_11 q_9.2) else (
        nm (y6 + 1) <| fun y_8 =>
        sX5_smallestCut_L7 t1 x2 x3 x4 n y5 y_8 q_6.2)))
def sX5_smallestCut (t1 : Nat) (x2 : Int32) (x3 : Int32) (x4 : Int32) (Z : ZZ) : Option (Int32 × ZZ) :=
  gd (shC t1 = 14) <|
  sX5_smallestCut_L7 t1 x2 x3 x4 3000 16 0 Z
abbrev rmX5_smallestCut : Room := { frames := 2, cells := 0, slots := 0, locals := 47 }
set_option maxHeartbeats 4000000 in
set_option maxRecDepth 100000 in
theorem kX5_smallestCut {l : Launch} {D : va_G} {dA : Nat → ClassId} {sa : String → Nat → Nat} {a : Nat → Nat} (hl : l.stackTraces = false) {t1 : Nat} {x2 : Int32} {x3 : Int32} {x4 : Int32} {Z Z' : ZZ} {v : Int32} (hX : sX5_smallestCut t1 x2 x3 x4 Z = some (v, Z')) : CTi l D dA sa yX5_smallestCut (wz yX5_smallestCut cX5_smallestCut 7 (some .int)) rmX5_smallestCut [.ref (a 13), .ref (a t1), .int x2, .int x3, .int x4] (cwC dA a Z) v (cwC dA a Z') := by
  refine xm_i hl (by decide +kernel) (Nat.le_of_ble_eq_true rfl) rfl ?_
  intro p e s m args below meth c A Q hC hR
  unfold sX5_smallestCut at hX
  obtain ⟨g1, hX⟩ := gd_some hX
  have v7 : ∀ (n : Nat) (y5 : Int32) (y6 : Int32) (Z : ZZ), sX5_smallestCut_L7 t1 x2 x3 x4 n y5 y6 Z = some (v, Z') → xv p l e rmX5_smallestCut s m args below meth c D A 7 Q (cwC dA a Z) 0 0 7 [(0, .ref (a 13)), (1, .ref (a t1)), (2, .int x2), (3, .int x3), (4, .int x4), (5, .int y5), (6, .int y6)] [] := by
    intro n
    induction n with
    | zero =>
      intro y5 y6 Z hX
      exact absurd hX (by simp [sX5_smallestCut_L7])
    | succ n ih =>
      intro y5 y6 Z hX
      rw [sX5_smallestCut_L7] at hX
      refine xv_iload (pc := 7) hC dX5_smallestCut_7 6 rfl ?_
      refine xv_aload_n (pc := 9) hC dX5_smallestCut_9 1 rfl rfl ?_
      refine xgX3 (v := .int (gI Z t1 0)) (pc := 10) hC dX5_smallestCut_10 g1 0 (by decide) wf_54 rfl ?_
      obtain ⟨q_1, hq_1, hX⟩ := bnd_some hX
      refine xv_callNi0 (As := [.int (gI Z t1 0)]) (host := "Switchboard") (pc := 13) hC (kX7_bit hl hq_1) fS_X7_bit (by decide +kernel) rfl ⟨Nat.le_of_ble_eq_true rfl, Nat.le_of_ble_eq_true rfl⟩ rfl (Nat.le_of_ble_eq_true rfl) dX5_smallestCut_13 ⟨Nat.le_of_ble_eq_true rfl, Nat.le_of_ble_eq_true rfl⟩ ?_
      refine xv_icmp_ge (tgt := 59) (pc := 16) hC dX5_smallestCut_16 (by decide) (fun c_2 => ?_) (fun c_2 => ?_)
      · replace hX := if_t c_2 hX
        refine xv_iload (pc := 59) hC dX5_smallestCut_59 5 rfl ?_
        obtain ⟨h1, h2⟩ := some_pair hX
        exact xv_eqi (W := cwC dA a) h1 h2 (hR _ _ _ _ (Nat.le_of_ble_eq_true rfl) (Nat.le_of_ble_eq_true rfl) dX5_smallestCut_61)
      · replace hX := if_f c_2 hX
        refine xv_iload (pc := 19) hC dX5_smallestCut_19 6 rfl ?_
        refine xv_iload_n (pc := 21) hC dX5_smallestCut_21 3 rfl rfl ?_
        obtain ⟨q_3, hq_3, hX⟩ := bnd_some hX
        refine xv_callNi0 (As := [.int y6, .int x3]) (host := "Switchboard") (pc := 22) hC (kX7_hasBit hl hq_3) fS_X7_hasBit (by decide +kernel) rfl ⟨Nat.le_of_ble_eq_true rfl, Nat.le_of_ble_eq_true rfl⟩ rfl (Nat.le_of_ble_eq_true rfl) dX5_smallestCut_22 ⟨Nat.le_of_ble_eq_true rfl, Nat.le_of_ble_eq_true rfl⟩ ?_
        refine xv_if_eq (tgt := 53) (pc := 25) hC dX5_smallestCut_25 (by decide) (fun c_4 => ?_) (fun c_4 => ?_)
        · replace hX := if_t c_4 hX
          obtain ⟨y_5, hy_5, hX⟩ := nm_some hX
          refine xv_iinc (pc := 53) (v := y_5) (lv' := [(6, .int y_5), (0, .ref (a 13)), (1, .ref (a t1)), (2, .int x2), (3, .int x3), (4, .int x4), (5, .int y5)]) hC dX5_smallestCut_53 6 rfl (by rw [hy_5]; rfl) (by decide) rfl ?_
          refine xv_goto (tgt := 7) (pc := 56) hC dX5_smallestCut_56 (by decide) ?_
          refine xv_sub (lv' := [(0, .ref (a 13)), (1, .ref (a t1)), (2, .int x2), (3, .int x3), (4, .int x4), (5, .int y5), (6, .int y_5)]) [1, 2, 3, 4, 5, 6, 0] rfl ?_
          exact ih y5 y_5 q_3.2 hX
        · replace hX := if_f c_4 hX
          refine xv_iload (pc := 28) hC dX5_smallestCut_28 6 rfl ?_
          refine xv_iload (pc := 30) hC dX5_smallestCut_30 4 rfl ?_
          obtain ⟨q_6, hq_6, hX⟩ := bnd_some hX
          refine xv_callNi0 (As := [.int y6, .int x4]) (host := "Switchboard") (pc := 32) hC (kX7_hasBit hl hq_6) fS_X7_hasBit (by decide +kernel) rfl ⟨Nat.le_of_ble_eq_true rfl, Nat.le_of_ble_eq_true rfl⟩ rfl (Nat.le_of_ble_eq_true rfl) dX5_smallestCut_32 ⟨Nat.le_of_ble_eq_true rfl, Nat.le_of_ble_eq_true rfl⟩ ?_
          refine xv_if_ne (tgt := 53) (pc := 35) hC dX5_smallestCut_35 (by decide) (fun c_7 => ?_) (fun c_7 => ?_)
          · replace hX := if_f c_7 hX
            obtain ⟨y_8, hy_8, hX⟩ := nm_some hX
            refine xv_iinc (pc := 53) (v := y_8) (lv' := [(6, .int y_8), (0, .ref (a 13)), (1, .ref (a t1)), (2, .int x2), (3, .int x3), (4, .int x4), (5, .int y5)]) hC dX5_smallestCut_53 6 rfl (by rw [hy_8]; rfl) (by decide) rfl ?_
            refine xv_goto (tgt := 7) (pc := 56) hC dX5_smallestCut_56 (by decide) ?_
            refine xv_sub (lv' := [(0, .ref (a 13)), (1, .ref (a t1)), (2, .int x2), (3, .int x3), (4, .int x4), (5, .int y5), (6, .int y_8)]) [1, 2, 3, 4, 5, 6, 0] rfl ?_
            exact ih y5 y_8 q_6.2 hX
          · replace hX := if_t c_7 hX
            refine xv_iload (pc := 38) hC dX5_smallestCut_38 5 rfl ?_
            refine xv_aload_n (pc := 40) hC dX5_smallestCut_40 0 rfl rfl ?_
            refine xv_aload_n (pc := 41) hC dX5_smallestCut_41 1 rfl rfl ?_
            refine xv_iload_n (pc := 42) hC dX5_smallestCut_42 2 rfl rfl ?_
            refine xv_iload (pc := 43) hC dX5_smallestCut_43 6 rfl ?_
            obtain ⟨q_9, hq_9, hX⟩ := bnd_some hX
            refine xv_callVi0 (As := [.ref (a t1), .int x2, .int y6]) (pc := 45) hC (kX5_countLeaving hl hq_9) fV_X5_countLeaving wf_470 (rc_X5 (rfl : shC 13 = 10)) rfl ⟨Nat.le_of_ble_eq_true rfl, Nat.le_of_ble_eq_true rfl⟩ rfl (Nat.le_of_ble_eq_true rfl) dX5_smallestCut_45 ⟨Nat.le_of_ble_eq_true rfl, Nat.le_of_ble_eq_true rfl⟩ ?_
            refine xv_immin (pc := 48) hC dX5_smallestCut_48 wf_474 fm_min (Nat.le_of_ble_eq_true rfl) (Nat.le_of_ble_eq_true rfl) (Nat.le_of_ble_eq_true rfl) (Nat.le_of_ble_eq_true rfl) ?_
            obtain ⟨y_10, hy_10, hX⟩ := nm_some hX
            refine xv_nmi hy_10 ?_
            refine xv_istore (pc := 51) (lv' := [(5, .int y_10), (0, .ref (a 13)), (1, .ref (a t1)), (2, .int x2), (3, .int x3), (4, .int x4), (6, .int y6)]) hC dX5_smallestCut_51 (by decide) rfl ?_
            obtain ⟨y_11, hy_11, hX⟩ := nm_some hX
            refine xv_iinc (pc := 53) (v := y_11) (lv' := [(6, .int y_11), (5, .int y_10), (0, .ref (a 13)), (1, .ref (a t1)), (2, .int x2), (3, .int x3), (4, .int x4)]) hC dX5_smallestCut_53 6 rfl (by rw [hy_11]; rfl) (by decide) rfl ?_
            refine xv_goto (tgt := 7) (pc := 56) hC dX5_smallestCut_56 (by decide) ?_
            refine xv_sub (lv' := [(0, .ref (a 13)), (1, .ref (a t1)), (2, .int x2), (3, .int x3), (4, .int x4), (5, .int y_10), (6, .int y_11)]) [2, 3, 4, 5, 6, 1, 0] rfl ?_
            exact ih y_10 y_11 q_9.2 hX
  show xv p l e rmX5_smallestCut s m args below meth c D A 7 Q (cwC dA a Z) 0 0 0 [(0, .ref (a 13)), (1, .ref (a t1)), (2, .int x2), (3, .int x3), (4, .int x4)] []
  refine xv_bipush (v := 16) (pc := 0) hC dX5_smallestCut_0 (by decide) ?_
  refine xv_istore (pc := 2) (lv' := [(5, .int 16), (0, .ref (a 13)), (1, .ref (a t1)), (2, .int x2), (3, .int x3), (4, .int x4)]) hC dX5_smallestCut_2 (by decide) rfl ?_
  refine xv_iconst (v := 0) (pc := 4) hC dX5_smallestCut_4 (by decide) ?_
  refine xv_istore (pc := 5) (lv' := [(6, .int 0), (5, .int 16), (0, .ref (a 13)), (1, .ref (a t1)), (2, .int x2), (3, .int x3), (4, .int x4)]) hC dX5_smallestCut_5 (by decide) rfl ?_
  refine xv_sub (lv' := [(0, .ref (a 13)), (1, .ref (a t1)), (2, .int x2), (3, .int x3), (4, .int x4), (5, .int 16), (6, .int 0)]) [2, 3, 4, 5, 6, 1, 0] rfl ?_
  exact v7 3000 16 0 Z hX
def sX5_agreesWithItself_L15 (t1 : Nat) (x2 : Int32) (k2 : Int32 → ZZ → Option (Int32 × ZZ)) : Nat → Int32 → Int32 → ZZ → Option (Int32 × ZZ)
  | 0, _, _, _ => none
  | n + 1, y3, y4, Z =>
  if (gI Z t1 0) ≤ y4 then (
    nm (y3 + 1) <| fun y_2 =>
    k2 y_2 Z) else (
    bnd (sX5_shortestLength t1 x2 y3 y4 Z) <| fun q_3 =>
    bnd (sX5_relaxedLength t1 x2 y3 y4 q_3.2) <| fun q_4 =>
    if q_3.1 = q_4.1 then (
      bnd (sX5_countDisjoint t1 x2 y3 y4 q_4.2) <| fun q_6 =>
      bnd (sX5_smallestCut t1 x2 y3 y4 q_6.2) <| fun q_7 =>
      if q_6.1 = q_7.1 then (
        nm (y4 + 1) <| fun y_9 =>
        sX5_agreesWithItself_L15 t1 x2 k2 n y3 y_9 q_7.2) else (
        some (0, q_7.2))) else (
      some (0, q_4.2)))
def sX5_agreesWithItself_L2 (t1 : Nat) (x2 : Int32) : Nat → Int32 → ZZ → Option (Int32 × ZZ)
  | 0, _, _ => none
  | n + 1, y3, Z =>
  if (gI Z t1 0) ≤ y3 then (
    some (1, Z)) else (
    nm (y3 + 1) <| fun y_11 =>
    sX5_agreesWithItself_L15 t1 x2 (fun y3 Z => sX5_agreesWithItself_L2 t1 x2 n y3 Z) 3000 y3 y_11 Z)
def sX5_agreesWithItself (t1 : Nat) (x2 : Int32) (Z : ZZ) : Option (Int32 × ZZ) :=
  gd (shC t1 = 14) <|
  sX5_agreesWithItself_L2 t1 x2 3000 0 Z
abbrev rmX5_agreesWithItself : Room := { frames := 3, cells := 0, slots := 0, locals := 78 }
set_option maxHeartbeats 4000000 in
set_option maxRecDepth 100000 in
theorem kX5_agreesWithItself {l : Launch} {D : va_G} {dA : Nat → ClassId} {sa : String → Nat → Nat} {a : Nat → Nat} (hl : l.stackTraces = false) {t1 : Nat} {x2 : Int32} {Z Z' : ZZ} {v : Int32} (hX : sX5_agreesWithItself t1 x2 Z = some (v, Z')) : CTi l D dA sa yX5_agreesWithItself (wz yX5_agreesWithItself cX5_agreesWithItself 5 (some .boolean)) rmX5_agreesWithItself [.ref (a 13), .ref (a t1), .int x2] (cwC dA a Z) v (cwC dA a Z') := by
  refine xm_z hl (by decide +kernel) (Nat.le_of_ble_eq_true rfl) rfl ?_
  intro p e s m args below meth c A Q hC hR
  unfold sX5_agreesWithItself at hX
  obtain ⟨g1, hX⟩ := gd_some hX
  have v15 : ∀ (k2 : Int32 → ZZ → Option (Int32 × ZZ)) (hk2 : ∀ (y3 : Int32) (Z : ZZ), k2 y3 Z = some (v, Z') → xv p l e rmX5_agreesWithItself s m args below meth c D A 5 Q (cwC dA a Z) 0 0 2 [(0, .ref (a 13)), (1, .ref (a t1)), (2, .int x2), (3, .int y3)] []) (n : Nat) (y3 : Int32) (y4 : Int32) (Z : ZZ), sX5_agreesWithItself_L15 t1 x2 k2 n y3 y4 Z = some (v, Z') → xv p l e rmX5_agreesWithItself s m args below meth c D A 5 Q (cwC dA a Z) 0 0 15 [(0, .ref (a 13)), (1, .ref (a t1)), (2, .int x2), (3, .int y3), (4, .int y4)] [] := by
    intro k2 hk2 n
    induction n with
    | zero =>
      intro y3 y4 Z hX
      exact absurd hX (by simp [sX5_agreesWithItself_L15])
    | succ n ih =>
      intro y3 y4 Z hX
      rw [sX5_agreesWithItself_L15] at hX
      refine xv_iload (pc := 15) hC dX5_agreesWithItself_15 4 rfl ?_
      refine xv_aload_n (pc := 17) hC dX5_agreesWithItself_17 1 rfl rfl ?_
      refine xgX3 (v := .int (gI Z t1 0)) (pc := 18) hC dX5_agreesWithItself_18 g1 0 (by decide) wf_54 rfl ?_
      refine xv_icmp_ge (tgt := 74) (pc := 21) hC dX5_agreesWithItself_21 (by decide) (fun c_1 => ?_) (fun c_1 => ?_)
      · replace hX := if_t c_1 hX
        obtain ⟨y_2, hy_2, hX⟩ := nm_some hX
        refine xv_iinc (pc := 74) (v := y_2) (lv' := [(3, .int y_2), (0, .ref (a 13)), (1, .ref (a t1)), (2, .int x2), (4, .int y4)]) hC dX5_agreesWithItself_74 3 rfl (by rw [hy_2]; rfl) (by decide) rfl ?_
        refine xv_goto (tgt := 2) (pc := 77) hC dX5_agreesWithItself_77 (by decide) ?_
        refine xv_sub (lv' := [(0, .ref (a 13)), (1, .ref (a t1)), (2, .int x2), (3, .int y_2)]) [1, 2, 3, 0] rfl ?_
        exact hk2 y_2 Z hX
      · replace hX := if_f c_1 hX
        refine xv_aload_n (pc := 24) hC dX5_agreesWithItself_24 0 rfl rfl ?_
        refine xv_aload_n (pc := 25) hC dX5_agreesWithItself_25 1 rfl rfl ?_
        refine xv_iload_n (pc := 26) hC dX5_agreesWithItself_26 2 rfl rfl ?_
        refine xv_iload_n (pc := 27) hC dX5_agreesWithItself_27 3 rfl rfl ?_
        refine xv_iload (pc := 28) hC dX5_agreesWithItself_28 4 rfl ?_
        obtain ⟨q_3, hq_3, hX⟩ := bnd_some hX
        refine xv_callVi0 (As := [.ref (a t1), .int x2, .int y3, .int y4]) (pc := 30) hC (kX5_shortestLength hl hq_3) fV_X5_shortestLength wf_403 (rc_X5 (rfl : shC 13 = 10)) rfl ⟨Nat.le_of_ble_eq_true rfl, Nat.le_of_ble_eq_true rfl⟩ rfl (Nat.le_of_ble_eq_true rfl) dX5_agreesWithItself_30 ⟨Nat.le_of_ble_eq_true rfl, Nat.le_of_ble_eq_true rfl⟩ ?_
        refine xv_aload_n (pc := 33) hC dX5_agreesWithItself_33 0 rfl rfl ?_
        refine xv_aload_n (pc := 34) hC dX5_agreesWithItself_34 1 rfl rfl ?_
        refine xv_iload_n (pc := 35) hC dX5_agreesWithItself_35 2 rfl rfl ?_
        refine xv_iload_n (pc := 36) hC dX5_agreesWithItself_36 3 rfl rfl ?_
        refine xv_iload (pc := 37) hC dX5_agreesWithItself_37 4 rfl ?_
        obtain ⟨q_4, hq_4, hX⟩ := bnd_some hX
        refine xv_callVi0 (As := [.ref (a t1), .int x2, .int y3, .int y4]) (pc := 39) hC (kX5_relaxedLength hl hq_4) fV_X5_relaxedLength wf_438 (rc_X5 (rfl : shC 13 = 10)) rfl ⟨Nat.le_of_ble_eq_true rfl, Nat.le_of_ble_eq_true rfl⟩ rfl (Nat.le_of_ble_eq_true rfl) dX5_agreesWithItself_39 ⟨Nat.le_of_ble_eq_true rfl, Nat.le_of_ble_eq_true rfl⟩ ?_
        refine xv_icmp_ne (tgt := 66) (pc := 42) hC dX5_agreesWithItself_42 (by decide) (fun c_5 => ?_) (fun c_5 => ?_)
        · replace hX := if_f c_5 hX
          refine xv_iconst (v := 0) (pc := 66) hC dX5_agreesWithItself_66 (by decide) ?_
          obtain ⟨h1, h2⟩ := some_pair hX
          exact xv_eqi (W := cwC dA a) h1 h2 (hR _ _ _ _ (by rw [← h1]; exact (by decide)) (Nat.le_of_ble_eq_true rfl) (Nat.le_of_ble_eq_true rfl) dX5_agreesWithItself_67)
        · replace hX := if_t c_5 hX
          refine xv_aload_n (pc := 45) hC dX5_agreesWithItself_45 0 rfl rfl ?_
          refine xv_aload_n (pc := 46) hC dX5_agreesWithItself_46 1 rfl rfl ?_
          refine xv_iload_n (pc := 47) hC dX5_agreesWithItself_47 2 rfl rfl ?_
          refine xv_iload_n (pc := 48) hC dX5_agreesWithItself_48 3 rfl rfl ?_
          refine xv_iload (pc := 49) hC dX5_agreesWithItself_49 4 rfl ?_
          obtain ⟨q_6, hq_6, hX⟩ := bnd_some hX
          refine xv_callVi0 (As := [.ref (a t1), .int x2, .int y3, .int y4]) (pc := 51) hC (kX5_countDisjoint hl hq_6) fV_X5_countDisjoint wf_442 (rc_X5 (rfl : shC 13 = 10)) rfl ⟨Nat.le_of_ble_eq_true rfl, Nat.le_of_ble_eq_true rfl⟩ rfl (Nat.le_of_ble_eq_true rfl) dX5_agreesWithItself_51 ⟨Nat.le_of_ble_eq_true rfl, Nat.le_of_ble_eq_true rfl⟩ ?_
          refine xv_aload_n (pc := 54) hC dX5_agreesWithItself_54 0 rfl rfl ?_
          refine xv_aload_n (pc := 55) hC dX5_agreesWithItself_55 1 rfl rfl ?_
          refine xv_iload_n (pc := 56) hC dX5_agreesWithItself_56 2 rfl rfl ?_
          refine xv_iload_n (pc := 57) hC dX5_agreesWithItself_57 3 rfl rfl ?_
          refine xv_iload (pc := 58) hC dX5_agreesWithItself_58 4 rfl ?_
          obtain ⟨q_7, hq_7, hX⟩ := bnd_some hX
          refine xv_callVi0 (As := [.ref (a t1), .int x2, .int y3, .int y4]) (pc := 60) hC (kX5_smallestCut hl hq_7) fV_X5_smallestCut wf_466 (rc_X5 (rfl : shC 13 = 10)) rfl ⟨Nat.le_of_ble_eq_true rfl, Nat.le_of_ble_eq_true rfl⟩ rfl (Nat.le_of_ble_eq_true rfl) dX5_agreesWithItself_60 ⟨Nat.le_of_ble_eq_true rfl, Nat.le_of_ble_eq_true rfl⟩ ?_
          refine xv_icmp_eq (tgt := 68) (pc := 63) hC dX5_agreesWithItself_63 (by decide) (fun c_8 => ?_) (fun c_8 => ?_)
          · replace hX := if_t c_8 hX
            obtain ⟨y_9, hy_9, hX⟩ := nm_some hX
            refine xv_iinc (pc := 68) (v := y_9) (lv' := [(4, .int y_9), (0, .ref (a 13)), (1, .ref (a t1)), (2, .int x2), (3, .int y3)]) hC dX5_agreesWithItself_68 4 rfl (by rw [hy_9]; rfl) (by decide) rfl ?_
            refine xv_goto (tgt := 15) (pc := 71) hC dX5_agreesWithItself_71 (by decide) ?_
            refine xv_sub (lv' := [(0, .ref (a 13)), (1, .ref (a t1)), (2, .int x2), (3, .int y3), (4, .int y_9)]) [1, 2, 3, 4, 0] rfl ?_
            exact ih y3 y_9 q_7.2 hX
          · replace hX := if_f c_8 hX
            refine xv_iconst (v := 0) (pc := 66) hC dX5_agreesWithItself_66 (by decide) ?_
            obtain ⟨h1, h2⟩ := some_pair hX
            exact xv_eqi (W := cwC dA a) h1 h2 (hR _ _ _ _ (by rw [← h1]; exact (by decide)) (Nat.le_of_ble_eq_true rfl) (Nat.le_of_ble_eq_true rfl) dX5_agreesWithItself_67)
  have v2 : ∀ (n : Nat) (y3 : Int32) (Z : ZZ), sX5_agreesWithItself_L2 t1 x2 n y3 Z = some (v, Z') → xv p l e rmX5_agreesWithItself s m args below meth c D A 5 Q (cwC dA a Z) 0 0 2 [(0, .ref (a 13)), (1, .ref (a t1)), (2, .int x2), (3, .int y3)] [] := by
    intro n
    induction n with
    | zero =>
      intro y3 Z hX
      exact absurd hX (by simp [sX5_agreesWithItself_L2])
    | succ n ih =>
      intro y3 Z hX
      rw [sX5_agreesWithItself_L2] at hX
      refine xv_iload_n (pc := 2) hC dX5_agreesWithItself_2 3 rfl rfl ?_
      refine xv_aload_n (pc := 3) hC dX5_agreesWithItself_3 1 rfl rfl ?_
      refine xgX3 (v := .int (gI Z t1 0)) (pc := 4) hC dX5_agreesWithItself_4 g1 0 (by decide) wf_54 rfl ?_
      refine xv_icmp_ge (tgt := 80) (pc := 7) hC dX5_agreesWithItself_7 (by decide) (fun c_10 => ?_) (fun c_10 => ?_)
      · replace hX := if_t c_10 hX
        refine xv_iconst (v := 1) (pc := 80) hC dX5_agreesWithItself_80 (by decide) ?_
        obtain ⟨h1, h2⟩ := some_pair hX
        exact xv_eqi (W := cwC dA a) h1 h2 (hR _ _ _ _ (by rw [← h1]; exact (by decide)) (Nat.le_of_ble_eq_true rfl) (Nat.le_of_ble_eq_true rfl) dX5_agreesWithItself_81)
      · replace hX := if_f c_10 hX
        refine xv_iload_n (pc := 10) hC dX5_agreesWithItself_10 3 rfl rfl ?_
        refine xv_iconst (v := 1) (pc := 11) hC dX5_agreesWithItself_11 (by decide) ?_
        refine xv_iadd (pc := 12) hC dX5_agreesWithItself_12 ?_
        obtain ⟨y_11, hy_11, hX⟩ := nm_some hX
        refine xv_nmi hy_11 ?_
        refine xv_istore (pc := 13) (lv' := [(4, .int y_11), (0, .ref (a 13)), (1, .ref (a t1)), (2, .int x2), (3, .int y3)]) hC dX5_agreesWithItself_13 (by decide) rfl ?_
        refine xv_sub (lv' := [(0, .ref (a 13)), (1, .ref (a t1)), (2, .int x2), (3, .int y3), (4, .int y_11)]) [1, 2, 3, 4, 0] rfl ?_
        exact v15 _ ih 3000 y3 y_11 Z hX
  show xv p l e rmX5_agreesWithItself s m args below meth c D A 5 Q (cwC dA a Z) 0 0 0 [(0, .ref (a 13)), (1, .ref (a t1)), (2, .int x2)] []
  refine xv_iconst (v := 0) (pc := 0) hC dX5_agreesWithItself_0 (by decide) ?_
  refine xv_istore_n (pc := 1) (lv' := [(3, .int 0), (0, .ref (a 13)), (1, .ref (a t1)), (2, .int x2)]) hC dX5_agreesWithItself_1 rfl (by decide) rfl ?_
  refine xv_sub (lv' := [(0, .ref (a 13)), (1, .ref (a t1)), (2, .int x2), (3, .int 0)]) [1, 2, 3, 0] rfl ?_
  exact v2 3000 0 Z hX
def sX2_keep_B35 (t1 : Nat) (u1 : Int32) (Z : ZZ) : Option (ZZ) :=
  nm (pI Z 1 1 u1) <| fun Z_1 =>
  nm (pI Z_1 1 0 (imin ((gI Z_1 1 0) + 1) 8)) <| fun Z_2 =>
  some Z_2
def sX2_keep (t1 : Nat) (Z : ZZ) : Option (ZZ) :=
  gd (shC t1 = 13) <|
  gd (vin (gI Z 1 1) 8 = true) <|
  bnd (sX6_copyFrom (elH 2 (gI Z 1 1)) t1 Z) <| fun q_4 =>
  if (8 : Int32) ≤ ((gI q_4 1 1) + 1) then (
    sX2_keep_B35 t1 0 q_4) else (
    sX2_keep_B35 t1 ((gI q_4 1 1) + 1) q_4)
abbrev rmX2_keep : Room := { frames := 4, cells := 0, slots := 0, locals := 124 }
set_option maxHeartbeats 4000000 in
set_option maxRecDepth 100000 in
theorem kX2_keep {l : Launch} {D : va_G} {dA : Nat → ClassId} {sa : String → Nat → Nat} {a : Nat → Nat} (hl : l.stackTraces = false) {t1 : Nat} {Z Z' : ZZ} (hX : sX2_keep t1 Z = some Z') : CTv l D dA sa yX2_keep (wz yX2_keep cX2_keep 2 none) rmX2_keep [.ref (a 1), .ref (a t1)] (cwC dA a Z) (cwC dA a Z') := by
  refine xm_v hl (by decide +kernel) (Nat.le_of_ble_eq_true rfl) rfl ?_
  intro p e s m args below meth c A Q hC hR
  unfold sX2_keep at hX
  obtain ⟨g1, hX⟩ := gd_some hX
  have v35 : ∀ (u1 : Int32) (Z : ZZ), sX2_keep_B35 t1 u1 Z = some Z' → xv p l e rmX2_keep s m args below meth c D A 2 Q (cwC dA a Z) 0 0 35 [(0, .ref (a 1)), (1, .ref (a t1))] [.int u1, .ref (a 1)] := by
    intro u1 Z hX
    unfold sX2_keep_B35 at hX
    obtain ⟨Z_1, hZ_1, hX⟩ := nm_some hX
    refine xpX2 (ty := .int) (pc := 35) hC dX2_keep_35 (rfl : shC 1 = 2) 1 (by decide) wf_173 rfl (by decide +kernel) rfl rfl rfl hZ_1 ?_
    refine xv_aload_n (pc := 38) hC dX2_keep_38 0 rfl rfl ?_
    refine xv_aload_n (pc := 39) hC dX2_keep_39 0 rfl rfl ?_
    refine xgX2 (v := .int (gI Z_1 1 0)) (pc := 40) hC dX2_keep_40 (rfl : shC 1 = 2) 0 (by decide) wf_171 rfl ?_
    refine xv_iconst (v := 1) (pc := 43) hC dX2_keep_43 (by decide) ?_
    refine xv_iadd (pc := 44) hC dX2_keep_44 ?_
    refine xv_bipush (v := 8) (pc := 45) hC dX2_keep_45 (by decide) ?_
    refine xv_immin (pc := 47) hC dX2_keep_47 wf_1011 fm_min (Nat.le_of_ble_eq_true rfl) (Nat.le_of_ble_eq_true rfl) (Nat.le_of_ble_eq_true rfl) (Nat.le_of_ble_eq_true rfl) ?_
    obtain ⟨Z_2, hZ_2, hX⟩ := nm_some hX
    refine xpX2 (ty := .int) (pc := 50) hC dX2_keep_50 (rfl : shC 1 = 2) 0 (by decide) wf_171 rfl (by decide +kernel) rfl rfl rfl hZ_2 ?_
    exact xv_eqw (W := cwC dA a) (Option.some.inj hX) (hR _ _ _ _ (Nat.le_of_ble_eq_true rfl) (Nat.le_of_ble_eq_true rfl) dX2_keep_53)
  show xv p l e rmX2_keep s m args below meth c D A 2 Q (cwC dA a Z) 0 0 0 [(0, .ref (a 1)), (1, .ref (a t1))] []
  refine xv_aload_n (pc := 0) hC dX2_keep_0 0 rfl rfl ?_
  refine xgX2 (v := .ref (a 2)) (pc := 1) hC dX2_keep_1 (rfl : shC 1 = 2) 2 (by decide) wf_174 rfl ?_
  refine xv_aload_n (pc := 4) hC dX2_keep_4 0 rfl rfl ?_
  refine xgX2 (v := .int (gI Z 1 1)) (pc := 5) hC dX2_keep_5 (rfl : shC 1 = 2) 1 (by decide) wf_173 rfl ?_
  obtain ⟨h_3, hX⟩ := gd_some hX
  refine xa_3 (pc := 8) hC dX2_keep_8 (rfl : shC 2 = 3) h_3 ?_
  refine xv_aload_n (pc := 9) hC dX2_keep_9 1 rfl rfl ?_
  obtain ⟨q_4, hq_4, hX⟩ := bnd_some hX
  refine xv_callVv0 (As := [.ref (a t1)]) (pc := 10) hC (kX6_copyFrom hl hq_4) fV_X6_copyFrom wf_1010 (rc_X6 (sh_elH (rfl : shC 2 = 3) h_3)) rfl ⟨Nat.le_of_ble_eq_true rfl, Nat.le_of_ble_eq_true rfl⟩ rfl (Nat.le_of_ble_eq_true rfl) dX2_keep_10 ⟨Nat.le_of_ble_eq_true rfl, Nat.le_of_ble_eq_true rfl⟩ ?_
  refine xv_aload_n (pc := 13) hC dX2_keep_13 0 rfl rfl ?_
  refine xv_aload_n (pc := 14) hC dX2_keep_14 0 rfl rfl ?_
  refine xgX2 (v := .int (gI q_4 1 1)) (pc := 15) hC dX2_keep_15 (rfl : shC 1 = 2) 1 (by decide) wf_173 rfl ?_
  refine xv_iconst (v := 1) (pc := 18) hC dX2_keep_18 (by decide) ?_
  refine xv_iadd (pc := 19) hC dX2_keep_19 ?_
  refine xv_bipush (v := 8) (pc := 20) hC dX2_keep_20 (by decide) ?_
  refine xv_icmp_ge (tgt := 34) (pc := 22) hC dX2_keep_22 (by decide) (fun c_5 => ?_) (fun c_5 => ?_)
  · replace hX := if_t c_5 hX
    refine xv_iconst (v := 0) (pc := 34) hC dX2_keep_34 (by decide) ?_
    exact v35 0 q_4 hX
  · replace hX := if_f c_5 hX
    refine xv_aload_n (pc := 25) hC dX2_keep_25 0 rfl rfl ?_
    refine xgX2 (v := .int (gI q_4 1 1)) (pc := 26) hC dX2_keep_26 (rfl : shC 1 = 2) 1 (by decide) wf_173 rfl ?_
    refine xv_iconst (v := 1) (pc := 29) hC dX2_keep_29 (by decide) ?_
    refine xv_iadd (pc := 30) hC dX2_keep_30 ?_
    refine xv_goto (tgt := 35) (pc := 31) hC dX2_keep_31 (by decide) ?_
    exact v35 ((gI q_4 1 1) + 1) q_4 hX
def sX2_takeBack_B19 (t1 : Nat) (u1 : Int32) (Z : ZZ) : Option (ZZ) :=
  nm (pI Z 1 1 u1) <| fun Z_1 =>
  nm (pI Z_1 1 0 ((gI Z_1 1 0) - 1)) <| fun Z_2 =>
  gd (vin (gI Z_2 1 1) 8 = true) <|
  bnd (sX6_copyFrom t1 (elH 2 (gI Z_2 1 1)) Z_2) <| fun q_4 =>
  some q_4
def sX2_takeBack (t1 : Nat) (Z : ZZ) : Option (ZZ) :=
  gd (shC t1 = 13) <|
  if (gI Z 1 1) ≤ 0 then (
    sX2_takeBack_B19 t1 7 Z) else (
    sX2_takeBack_B19 t1 ((gI Z 1 1) - 1) Z)
abbrev rmX2_takeBack : Room := { frames := 4, cells := 0, slots := 0, locals := 124 }
set_option maxHeartbeats 4000000 in
set_option maxRecDepth 100000 in
theorem kX2_takeBack {l : Launch} {D : va_G} {dA : Nat → ClassId} {sa : String → Nat → Nat} {a : Nat → Nat} (hl : l.stackTraces = false) {t1 : Nat} {Z Z' : ZZ} (hX : sX2_takeBack t1 Z = some Z') : CTv l D dA sa yX2_takeBack (wz yX2_takeBack cX2_takeBack 2 none) rmX2_takeBack [.ref (a 1), .ref (a t1)] (cwC dA a Z) (cwC dA a Z') := by
  refine xm_v hl (by decide +kernel) (Nat.le_of_ble_eq_true rfl) rfl ?_
  intro p e s m args below meth c A Q hC hR
  unfold sX2_takeBack at hX
  obtain ⟨g1, hX⟩ := gd_some hX
  have v19 : ∀ (u1 : Int32) (Z : ZZ), sX2_takeBack_B19 t1 u1 Z = some Z' → xv p l e rmX2_takeBack s m args below meth c D A 2 Q (cwC dA a Z) 0 0 19 [(0, .ref (a 1)), (1, .ref (a t1))] [.int u1, .ref (a 1)] := by
    intro u1 Z hX
    unfold sX2_takeBack_B19 at hX
    obtain ⟨Z_1, hZ_1, hX⟩ := nm_some hX
    refine xpX2 (ty := .int) (pc := 19) hC dX2_takeBack_19 (rfl : shC 1 = 2) 1 (by decide) wf_173 rfl (by decide +kernel) rfl rfl rfl hZ_1 ?_
    refine xv_aload_n (pc := 22) hC dX2_takeBack_22 0 rfl rfl ?_
    refine xv_dup (pc := 23) hC dX2_takeBack_23 rfl ?_
    refine xgX2 (v := .int (gI Z_1 1 0)) (pc := 24) hC dX2_takeBack_24 (rfl : shC 1 = 2) 0 (by decide) wf_171 rfl ?_
    refine xv_iconst (v := 1) (pc := 27) hC dX2_takeBack_27 (by decide) ?_
    refine xv_isub (pc := 28) hC dX2_takeBack_28 ?_
    obtain ⟨Z_2, hZ_2, hX⟩ := nm_some hX
    refine xpX2 (ty := .int) (pc := 29) hC dX2_takeBack_29 (rfl : shC 1 = 2) 0 (by decide) wf_171 rfl (by decide +kernel) rfl rfl rfl hZ_2 ?_
    refine xv_aload_n (pc := 32) hC dX2_takeBack_32 1 rfl rfl ?_
    refine xv_aload_n (pc := 33) hC dX2_takeBack_33 0 rfl rfl ?_
    refine xgX2 (v := .ref (a 2)) (pc := 34) hC dX2_takeBack_34 (rfl : shC 1 = 2) 2 (by decide) wf_174 rfl ?_
    refine xv_aload_n (pc := 37) hC dX2_takeBack_37 0 rfl rfl ?_
    refine xgX2 (v := .int (gI Z_2 1 1)) (pc := 38) hC dX2_takeBack_38 (rfl : shC 1 = 2) 1 (by decide) wf_173 rfl ?_
    obtain ⟨h_3, hX⟩ := gd_some hX
    refine xa_3 (pc := 41) hC dX2_takeBack_41 (rfl : shC 2 = 3) h_3 ?_
    obtain ⟨q_4, hq_4, hX⟩ := bnd_some hX
    refine xv_callVv0 (As := [.ref (a (elH 2 (gI Z_2 1 1)))]) (pc := 42) hC (kX6_copyFrom hl hq_4) fV_X6_copyFrom wf_1010 (rc_X6 g1) rfl ⟨Nat.le_of_ble_eq_true rfl, Nat.le_of_ble_eq_true rfl⟩ rfl (Nat.le_of_ble_eq_true rfl) dX2_takeBack_42 ⟨Nat.le_of_ble_eq_true rfl, Nat.le_of_ble_eq_true rfl⟩ ?_
    exact xv_eqw (W := cwC dA a) (Option.some.inj hX) (hR _ _ _ _ (Nat.le_of_ble_eq_true rfl) (Nat.le_of_ble_eq_true rfl) dX2_takeBack_45)
  show xv p l e rmX2_takeBack s m args below meth c D A 2 Q (cwC dA a Z) 0 0 0 [(0, .ref (a 1)), (1, .ref (a t1))] []
  refine xv_aload_n (pc := 0) hC dX2_takeBack_0 0 rfl rfl ?_
  refine xv_aload_n (pc := 1) hC dX2_takeBack_1 0 rfl rfl ?_
  refine xgX2 (v := .int (gI Z 1 1)) (pc := 2) hC dX2_takeBack_2 (rfl : shC 1 = 2) 1 (by decide) wf_173 rfl ?_
  refine xv_if_le (tgt := 17) (pc := 5) hC dX2_takeBack_5 (by decide) (fun c_5 => ?_) (fun c_5 => ?_)
  · replace hX := if_t c_5 hX
    refine xv_bipush (v := 7) (pc := 17) hC dX2_takeBack_17 (by decide) ?_
    exact v19 7 Z hX
  · replace hX := if_f c_5 hX
    refine xv_aload_n (pc := 8) hC dX2_takeBack_8 0 rfl rfl ?_
    refine xgX2 (v := .int (gI Z 1 1)) (pc := 9) hC dX2_takeBack_9 (rfl : shC 1 = 2) 1 (by decide) wf_173 rfl ?_
    refine xv_iconst (v := 1) (pc := 12) hC dX2_takeBack_12 (by decide) ?_
    refine xv_isub (pc := 13) hC dX2_takeBack_13 ?_
    refine xv_goto (tgt := 19) (pc := 14) hC dX2_takeBack_14 (by decide) ?_
    exact v19 ((gI Z 1 1) - 1) Z hX
def sX2_forget (Z : ZZ) : Option (ZZ) :=
  nm (pI Z 1 0 0) <| fun Z_1 =>
  some Z_1
abbrev rmX2_forget : Room := { frames := 0, cells := 0, slots := 0, locals := 0 }
set_option maxHeartbeats 4000000 in
set_option maxRecDepth 100000 in
theorem kX2_forget {l : Launch} {D : va_G} {dA : Nat → ClassId} {sa : String → Nat → Nat} {a : Nat → Nat} (hl : l.stackTraces = false) {Z Z' : ZZ} (hX : sX2_forget Z = some Z') : CTv l D dA sa yX2_forget (wz yX2_forget cX2_forget 1 none) rmX2_forget [.ref (a 1)] (cwC dA a Z) (cwC dA a Z') := by
  refine xm_v hl (by decide +kernel) (Nat.le_of_ble_eq_true rfl) rfl ?_
  intro p e s m args below meth c A Q hC hR
  unfold sX2_forget at hX
  show xv p l e rmX2_forget s m args below meth c D A 1 Q (cwC dA a Z) 0 0 0 [(0, .ref (a 1))] []
  refine xv_aload_n (pc := 0) hC dX2_forget_0 0 rfl rfl ?_
  refine xv_iconst (v := 0) (pc := 1) hC dX2_forget_1 (by decide) ?_
  obtain ⟨Z_1, hZ_1, hX⟩ := nm_some hX
  refine xpX2 (ty := .int) (pc := 2) hC dX2_forget_2 (rfl : shC 1 = 2) 0 (by decide) wf_171 rfl (by decide +kernel) rfl rfl rfl hZ_1 ?_
  exact xv_eqw (W := cwC dA a) (Option.some.inj hX) (hR _ _ _ _ (Nat.le_of_ble_eq_true rfl) (Nat.le_of_ble_eq_true rfl) dX2_forget_5)
def sX4_append (x1 : Int32) (Z : ZZ) : Option (Int32 × ZZ) :=
  if (60 : Int32) ≤ (gI Z 7 1) then (
    some (gI Z 7 1, Z)) else (
    gd (vin (gI Z 7 1) 60 = true) <|
    nm (pI Z 8 (gI Z 7 1).toNatClampNeg (vp_nar .char x1)) <| fun Z_3 =>
    nm (pI Z_3 7 1 ((gI Z_3 7 1) + 1)) <| fun Z_4 =>
    some (gI Z_4 7 1, Z_4))
abbrev rmX4_append : Room := { frames := 0, cells := 0, slots := 0, locals := 0 }
set_option maxHeartbeats 4000000 in
set_option maxRecDepth 100000 in
theorem kX4_append {l : Launch} {D : va_G} {dA : Nat → ClassId} {sa : String → Nat → Nat} {a : Nat → Nat} (hl : l.stackTraces = false) {x1 : Int32} {Z Z' : ZZ} {v : Int32} (hX : sX4_append x1 Z = some (v, Z')) : CTi l D dA sa yX4_append (wz yX4_append cX4_append 2 (some .int)) rmX4_append [.ref (a 7), .int x1] (cwC dA a Z) v (cwC dA a Z') := by
  refine xm_i hl (by decide +kernel) (Nat.le_of_ble_eq_true rfl) rfl ?_
  intro p e s m args below meth c A Q hC hR
  unfold sX4_append at hX
  show xv p l e rmX4_append s m args below meth c D A 2 Q (cwC dA a Z) 0 0 0 [(0, .ref (a 7)), (1, .int x1)] []
  refine xv_aload_n (pc := 0) hC dX4_append_0 0 rfl rfl ?_
  refine xgX4 (v := .int (gI Z 7 1)) (pc := 1) hC dX4_append_1 (rfl : shC 7 = 7) 1 (by decide) wf_213 rfl ?_
  refine xv_bipush (v := 60) (pc := 4) hC dX4_append_4 (by decide) ?_
  refine xv_icmp_ge (tgt := 29) (pc := 6) hC dX4_append_6 (by decide) (fun c_1 => ?_) (fun c_1 => ?_)
  · replace hX := if_t c_1 hX
    refine xv_aload_n (pc := 29) hC dX4_append_29 0 rfl rfl ?_
    refine xgX4 (v := .int (gI Z 7 1)) (pc := 30) hC dX4_append_30 (rfl : shC 7 = 7) 1 (by decide) wf_213 rfl ?_
    obtain ⟨h1, h2⟩ := some_pair hX
    exact xv_eqi (W := cwC dA a) h1 h2 (hR _ _ _ _ (Nat.le_of_ble_eq_true rfl) (Nat.le_of_ble_eq_true rfl) dX4_append_33)
  · replace hX := if_f c_1 hX
    refine xv_aload_n (pc := 9) hC dX4_append_9 0 rfl rfl ?_
    refine xgX4 (v := .ref (a 8)) (pc := 10) hC dX4_append_10 (rfl : shC 7 = 7) 0 (by decide) wf_212 rfl ?_
    refine xv_aload_n (pc := 13) hC dX4_append_13 0 rfl rfl ?_
    refine xgX4 (v := .int (gI Z 7 1)) (pc := 14) hC dX4_append_14 (rfl : shC 7 = 7) 1 (by decide) wf_213 rfl ?_
    refine xv_iload_n (pc := 17) hC dX4_append_17 1 rfl rfl ?_
    obtain ⟨h_2, hX⟩ := gd_some hX
    obtain ⟨Z_3, hZ_3, hX⟩ := nm_some hX
    refine xs_C8 (pc := 18) hC dX4_append_18 (rfl : shC 8 = 8) h_2 hZ_3 ?_
    refine xv_aload_n (pc := 19) hC dX4_append_19 0 rfl rfl ?_
    refine xv_dup (pc := 20) hC dX4_append_20 rfl ?_
    refine xgX4 (v := .int (gI Z_3 7 1)) (pc := 21) hC dX4_append_21 (rfl : shC 7 = 7) 1 (by decide) wf_213 rfl ?_
    refine xv_iconst (v := 1) (pc := 24) hC dX4_append_24 (by decide) ?_
    refine xv_iadd (pc := 25) hC dX4_append_25 ?_
    obtain ⟨Z_4, hZ_4, hX⟩ := nm_some hX
    refine xpX4 (ty := .int) (pc := 26) hC dX4_append_26 (rfl : shC 7 = 7) 1 (by decide) wf_213 rfl (by decide +kernel) rfl rfl rfl hZ_4 ?_
    refine xv_aload_n (pc := 29) hC dX4_append_29 0 rfl rfl ?_
    refine xgX4 (v := .int (gI Z_4 7 1)) (pc := 30) hC dX4_append_30 (rfl : shC 7 = 7) 1 (by decide) wf_213 rfl ?_
    obtain ⟨h1, h2⟩ := some_pair hX
    exact xv_eqi (W := cwC dA a) h1 h2 (hR _ _ _ _ (Nat.le_of_ble_eq_true rfl) (Nat.le_of_ble_eq_true rfl) dX4_append_33)
def sX4_peek (x1 : Int32) (Z : ZZ) : Option (Int32 × ZZ) :=
  nm ((gI Z 7 7) + x1) <| fun y_1 =>
  if y_1 < 0 then (
    some ((-1), Z)) else (
    if (gI Z 7 1) ≤ y_1 then (
      some ((-1), Z)) else (
      gd (vin y_1 60 = true) <|
      some (gI Z 8 y_1.toNatClampNeg, Z)))
abbrev rmX4_peek : Room := { frames := 0, cells := 0, slots := 0, locals := 0 }
set_option maxHeartbeats 4000000 in
set_option maxRecDepth 100000 in
theorem kX4_peek {l : Launch} {D : va_G} {dA : Nat → ClassId} {sa : String → Nat → Nat} {a : Nat → Nat} (hl : l.stackTraces = false) {x1 : Int32} {Z Z' : ZZ} {v : Int32} (hX : sX4_peek x1 Z = some (v, Z')) : CTi l D dA sa yX4_peek (wz yX4_peek cX4_peek 3 (some .int)) rmX4_peek [.ref (a 7), .int x1] (cwC dA a Z) v (cwC dA a Z') := by
  refine xm_i hl (by decide +kernel) (Nat.le_of_ble_eq_true rfl) rfl ?_
  intro p e s m args below meth c A Q hC hR
  unfold sX4_peek at hX
  show xv p l e rmX4_peek s m args below meth c D A 3 Q (cwC dA a Z) 0 0 0 [(0, .ref (a 7)), (1, .int x1)] []
  refine xv_aload_n (pc := 0) hC dX4_peek_0 0 rfl rfl ?_
  refine xgX4 (v := .int (gI Z 7 7)) (pc := 1) hC dX4_peek_1 (rfl : shC 7 = 7) 7 (by decide) wf_225 rfl ?_
  refine xv_iload_n (pc := 4) hC dX4_peek_4 1 rfl rfl ?_
  refine xv_iadd (pc := 5) hC dX4_peek_5 ?_
  obtain ⟨y_1, hy_1, hX⟩ := nm_some hX
  refine xv_nmi hy_1 ?_
  refine xv_istore_n (pc := 6) (lv' := [(2, .int y_1), (0, .ref (a 7)), (1, .int x1)]) hC dX4_peek_6 rfl (by decide) rfl ?_
  refine xv_iload_n (pc := 7) hC dX4_peek_7 0 rfl rfl ?_
  refine xv_if_lt (tgt := 28) (pc := 8) hC dX4_peek_8 (by decide) (fun c_2 => ?_) (fun c_2 => ?_)
  · replace hX := if_t c_2 hX
    refine xv_iconst (v := (-1)) (pc := 28) hC dX4_peek_28 (by decide) ?_
    obtain ⟨h1, h2⟩ := some_pair hX
    exact xv_eqi (W := cwC dA a) h1 h2 (hR _ _ _ _ (Nat.le_of_ble_eq_true rfl) (Nat.le_of_ble_eq_true rfl) dX4_peek_29)
  · replace hX := if_f c_2 hX
    refine xv_iload_n (pc := 11) hC dX4_peek_11 0 rfl rfl ?_
    refine xv_aload_n (pc := 12) hC dX4_peek_12 1 rfl rfl ?_
    refine xgX4 (v := .int (gI Z 7 1)) (pc := 13) hC dX4_peek_13 (rfl : shC 7 = 7) 1 (by decide) wf_213 rfl ?_
    refine xv_icmp_ge (tgt := 28) (pc := 16) hC dX4_peek_16 (by decide) (fun c_3 => ?_) (fun c_3 => ?_)
    · replace hX := if_t c_3 hX
      refine xv_iconst (v := (-1)) (pc := 28) hC dX4_peek_28 (by decide) ?_
      obtain ⟨h1, h2⟩ := some_pair hX
      exact xv_eqi (W := cwC dA a) h1 h2 (hR _ _ _ _ (Nat.le_of_ble_eq_true rfl) (Nat.le_of_ble_eq_true rfl) dX4_peek_29)
    · replace hX := if_f c_3 hX
      refine xv_aload_n (pc := 19) hC dX4_peek_19 1 rfl rfl ?_
      refine xgX4 (v := .ref (a 8)) (pc := 20) hC dX4_peek_20 (rfl : shC 7 = 7) 0 (by decide) wf_212 rfl ?_
      refine xv_iload_n (pc := 23) hC dX4_peek_23 0 rfl rfl ?_
      obtain ⟨h_4, hX⟩ := gd_some hX
      refine xl_C8 (pc := 24) hC dX4_peek_24 (rfl : shC 8 = 8) h_4 ?_
      refine xv_goto (tgt := 29) (pc := 25) hC dX4_peek_25 (by decide) ?_
      obtain ⟨h1, h2⟩ := some_pair hX
      exact xv_eqi (W := cwC dA a) h1 h2 (hR _ _ _ _ (Nat.le_of_ble_eq_true rfl) (Nat.le_of_ble_eq_true rfl) dX4_peek_29)
def sX4_expect (x1 : Int32) (Z : ZZ) : Option (ZZ) :=
  if (gI Z 7 8) = 0 then (
    bnd (sX4_peek 0 Z) <| fun q_3 =>
    if q_3.1 = x1 then (
      nm (pI q_3.2 7 7 ((gI q_3.2 7 7) + 1)) <| fun Z_6 =>
      some Z_6) else (
      nm (pI q_3.2 7 8 1) <| fun Z_5 =>
      some Z_5)) else (
    nm (pI Z 7 8 1) <| fun Z_2 =>
    some Z_2)
abbrev rmX4_expect : Room := { frames := 1, cells := 0, slots := 0, locals := 22 }
set_option maxHeartbeats 4000000 in
set_option maxRecDepth 100000 in
theorem kX4_expect {l : Launch} {D : va_G} {dA : Nat → ClassId} {sa : String → Nat → Nat} {a : Nat → Nat} (hl : l.stackTraces = false) {x1 : Int32} {Z Z' : ZZ} (hX : sX4_expect x1 Z = some Z') : CTv l D dA sa yX4_expect (wz yX4_expect cX4_expect 2 none) rmX4_expect [.ref (a 7), .int x1] (cwC dA a Z) (cwC dA a Z') := by
  refine xm_v hl (by decide +kernel) (Nat.le_of_ble_eq_true rfl) rfl ?_
  intro p e s m args below meth c A Q hC hR
  unfold sX4_expect at hX
  show xv p l e rmX4_expect s m args below meth c D A 2 Q (cwC dA a Z) 0 0 0 [(0, .ref (a 7)), (1, .int x1)] []
  refine xv_aload_n (pc := 0) hC dX4_expect_0 0 rfl rfl ?_
  refine xgX4 (v := .int (gI Z 7 8)) (pc := 1) hC dX4_expect_1 (rfl : shC 7 = 7) 8 (by decide) wf_226 rfl ?_
  refine xv_if_ne (tgt := 29) (pc := 4) hC dX4_expect_4 (by decide) (fun c_1 => ?_) (fun c_1 => ?_)
  · replace hX := if_f c_1 hX
    refine xv_aload_n (pc := 29) hC dX4_expect_29 0 rfl rfl ?_
    refine xv_iconst (v := 1) (pc := 30) hC dX4_expect_30 (by decide) ?_
    obtain ⟨Z_2, hZ_2, hX⟩ := nm_some hX
    refine xpX4 (ty := .boolean) (pc := 31) hC dX4_expect_31 (rfl : shC 7 = 7) 8 (by decide) wf_226 rfl (by decide +kernel) (by decide) (by decide) rfl hZ_2 ?_
    exact xv_eqw (W := cwC dA a) (Option.some.inj hX) (hR _ _ _ _ (Nat.le_of_ble_eq_true rfl) (Nat.le_of_ble_eq_true rfl) dX4_expect_34)
  · replace hX := if_t c_1 hX
    refine xv_aload_n (pc := 7) hC dX4_expect_7 0 rfl rfl ?_
    refine xv_iconst (v := 0) (pc := 8) hC dX4_expect_8 (by decide) ?_
    obtain ⟨q_3, hq_3, hX⟩ := bnd_some hX
    refine xv_callVi0 (As := [.int 0]) (pc := 9) hC (kX4_peek hl hq_3) fV_X4_peek wf_1442 (rc_X4 (rfl : shC 7 = 7)) rfl ⟨Nat.le_of_ble_eq_true rfl, Nat.le_of_ble_eq_true rfl⟩ rfl (Nat.le_of_ble_eq_true rfl) dX4_expect_9 ⟨Nat.le_of_ble_eq_true rfl, Nat.le_of_ble_eq_true rfl⟩ ?_
    refine xv_iload_n (pc := 12) hC dX4_expect_12 1 rfl rfl ?_
    refine xv_icmp_ne (tgt := 29) (pc := 13) hC dX4_expect_13 (by decide) (fun c_4 => ?_) (fun c_4 => ?_)
    · replace hX := if_f c_4 hX
      refine xv_aload_n (pc := 29) hC dX4_expect_29 0 rfl rfl ?_
      refine xv_iconst (v := 1) (pc := 30) hC dX4_expect_30 (by decide) ?_
      obtain ⟨Z_5, hZ_5, hX⟩ := nm_some hX
      refine xpX4 (ty := .boolean) (pc := 31) hC dX4_expect_31 (rfl : shC 7 = 7) 8 (by decide) wf_226 rfl (by decide +kernel) (by decide) (by decide) rfl hZ_5 ?_
      exact xv_eqw (W := cwC dA a) (Option.some.inj hX) (hR _ _ _ _ (Nat.le_of_ble_eq_true rfl) (Nat.le_of_ble_eq_true rfl) dX4_expect_34)
    · replace hX := if_t c_4 hX
      refine xv_aload_n (pc := 16) hC dX4_expect_16 0 rfl rfl ?_
      refine xv_dup (pc := 17) hC dX4_expect_17 rfl ?_
      refine xgX4 (v := .int (gI q_3.2 7 7)) (pc := 18) hC dX4_expect_18 (rfl : shC 7 = 7) 7 (by decide) wf_225 rfl ?_
      refine xv_iconst (v := 1) (pc := 21) hC dX4_expect_21 (by decide) ?_
      refine xv_iadd (pc := 22) hC dX4_expect_22 ?_
      obtain ⟨Z_6, hZ_6, hX⟩ := nm_some hX
      refine xpX4 (ty := .int) (pc := 23) hC dX4_expect_23 (rfl : shC 7 = 7) 7 (by decide) wf_225 rfl (by decide +kernel) rfl rfl rfl hZ_6 ?_
      refine xv_goto (tgt := 34) (pc := 26) hC dX4_expect_26 (by decide) ?_
      exact xv_eqw (W := cwC dA a) (Option.some.inj hX) (hR _ _ _ _ (Nat.le_of_ble_eq_true rfl) (Nat.le_of_ble_eq_true rfl) dX4_expect_34)
def sX4_kindAhead (Z : ZZ) : Option (Int32 × ZZ) :=
  bnd (sX4_peek 0 Z) <| fun q_1 =>
  if q_1.1 = 99 then (
    bnd (sX4_peek 1 q_1.2) <| fun q_3 =>
    if q_3.1 = 117 then (
      some (5, q_3.2)) else (
      some (3, q_3.2))) else if q_1.1 = 104 then (
    some (4, q_1.2)) else if q_1.1 = 109 then (
    some (6, q_1.2)) else if q_1.1 = 115 then (
    some (0, q_1.2)) else if q_1.1 = 116 then (
    some (1, q_1.2)) else if q_1.1 = 117 then (
    some (2, q_1.2)) else if q_1.1 = 119 then (
    some (7, q_1.2)) else (
    nm (pI q_1.2 7 8 1) <| fun Z_11 =>
    some ((-1), Z_11))
abbrev rmX4_kindAhead : Room := { frames := 1, cells := 0, slots := 0, locals := 22 }
set_option maxHeartbeats 4000000 in
set_option maxRecDepth 100000 in
theorem kX4_kindAhead {l : Launch} {D : va_G} {dA : Nat → ClassId} {sa : String → Nat → Nat} {a : Nat → Nat} (hl : l.stackTraces = false) {Z Z' : ZZ} {v : Int32} (hX : sX4_kindAhead Z = some (v, Z')) : CTi l D dA sa yX4_kindAhead (wz yX4_kindAhead cX4_kindAhead 1 (some .int)) rmX4_kindAhead [.ref (a 7)] (cwC dA a Z) v (cwC dA a Z') := by
  refine xm_i hl (by decide +kernel) (Nat.le_of_ble_eq_true rfl) rfl ?_
  intro p e s m args below meth c A Q hC hR
  unfold sX4_kindAhead at hX
  show xv p l e rmX4_kindAhead s m args below meth c D A 1 Q (cwC dA a Z) 0 0 0 [(0, .ref (a 7))] []
  refine xv_aload_n (pc := 0) hC dX4_kindAhead_0 0 rfl rfl ?_
  refine xv_iconst (v := 0) (pc := 1) hC dX4_kindAhead_1 (by decide) ?_
  obtain ⟨q_1, hq_1, hX⟩ := bnd_some hX
  refine xv_callVi0 (As := [.int 0]) (pc := 2) hC (kX4_peek hl hq_1) fV_X4_peek wf_1442 (rc_X4 (rfl : shC 7 = 7)) rfl ⟨Nat.le_of_ble_eq_true rfl, Nat.le_of_ble_eq_true rfl⟩ rfl (Nat.le_of_ble_eq_true rfl) dX4_kindAhead_2 ⟨Nat.le_of_ble_eq_true rfl, Nat.le_of_ble_eq_true rfl⟩ ?_
  by_cases c_2 : q_1.1 = 99
  · replace hX := if_t c_2 hX
    refine xv_tabIn (tgt := 110) (pc := 5) hC dX4_kindAhead_5 99 c_2 (by decide) (by decide) rfl (by decide) ?_
    refine xv_aload_n (pc := 110) hC dX4_kindAhead_110 0 rfl rfl ?_
    refine xv_iconst (v := 1) (pc := 111) hC dX4_kindAhead_111 (by decide) ?_
    obtain ⟨q_3, hq_3, hX⟩ := bnd_some hX
    refine xv_callVi0 (As := [.int 1]) (pc := 112) hC (kX4_peek hl hq_3) fV_X4_peek wf_1442 (rc_X4 (rfl : shC 7 = 7)) rfl ⟨Nat.le_of_ble_eq_true rfl, Nat.le_of_ble_eq_true rfl⟩ rfl (Nat.le_of_ble_eq_true rfl) dX4_kindAhead_112 ⟨Nat.le_of_ble_eq_true rfl, Nat.le_of_ble_eq_true rfl⟩ ?_
    refine xv_bipush (v := 117) (pc := 115) hC dX4_kindAhead_115 (by decide) ?_
    refine xv_icmp_ne (tgt := 124) (pc := 117) hC dX4_kindAhead_117 (by decide) (fun c_4 => ?_) (fun c_4 => ?_)
    · replace hX := if_f c_4 hX
      refine xv_iconst (v := 3) (pc := 124) hC dX4_kindAhead_124 (by decide) ?_
      obtain ⟨h1, h2⟩ := some_pair hX
      exact xv_eqi (W := cwC dA a) h1 h2 (hR _ _ _ _ (Nat.le_of_ble_eq_true rfl) (Nat.le_of_ble_eq_true rfl) dX4_kindAhead_125)
    · replace hX := if_t c_4 hX
      refine xv_iconst (v := 5) (pc := 120) hC dX4_kindAhead_120 (by decide) ?_
      refine xv_goto (tgt := 125) (pc := 121) hC dX4_kindAhead_121 (by decide) ?_
      obtain ⟨h1, h2⟩ := some_pair hX
      exact xv_eqi (W := cwC dA a) h1 h2 (hR _ _ _ _ (Nat.le_of_ble_eq_true rfl) (Nat.le_of_ble_eq_true rfl) dX4_kindAhead_125)
  replace hX := if_f c_2 hX
  by_cases c_5 : q_1.1 = 104
  · replace hX := if_t c_5 hX
    refine xv_tabIn (tgt := 126) (pc := 5) hC dX4_kindAhead_5 104 c_5 (by decide) (by decide) rfl (by decide) ?_
    refine xv_iconst (v := 4) (pc := 126) hC dX4_kindAhead_126 (by decide) ?_
    obtain ⟨h1, h2⟩ := some_pair hX
    exact xv_eqi (W := cwC dA a) h1 h2 (hR _ _ _ _ (Nat.le_of_ble_eq_true rfl) (Nat.le_of_ble_eq_true rfl) dX4_kindAhead_127)
  replace hX := if_f c_5 hX
  by_cases c_6 : q_1.1 = 109
  · replace hX := if_t c_6 hX
    refine xv_tabIn (tgt := 128) (pc := 5) hC dX4_kindAhead_5 109 c_6 (by decide) (by decide) rfl (by decide) ?_
    refine xv_bipush (v := 6) (pc := 128) hC dX4_kindAhead_128 (by decide) ?_
    obtain ⟨h1, h2⟩ := some_pair hX
    exact xv_eqi (W := cwC dA a) h1 h2 (hR _ _ _ _ (Nat.le_of_ble_eq_true rfl) (Nat.le_of_ble_eq_true rfl) dX4_kindAhead_130)
  replace hX := if_f c_6 hX
  by_cases c_7 : q_1.1 = 115
  · replace hX := if_t c_7 hX
    refine xv_tabIn (tgt := 104) (pc := 5) hC dX4_kindAhead_5 115 c_7 (by decide) (by decide) rfl (by decide) ?_
    refine xv_iconst (v := 0) (pc := 104) hC dX4_kindAhead_104 (by decide) ?_
    obtain ⟨h1, h2⟩ := some_pair hX
    exact xv_eqi (W := cwC dA a) h1 h2 (hR _ _ _ _ (Nat.le_of_ble_eq_true rfl) (Nat.le_of_ble_eq_true rfl) dX4_kindAhead_105)
  replace hX := if_f c_7 hX
  by_cases c_8 : q_1.1 = 116
  · replace hX := if_t c_8 hX
    refine xv_tabIn (tgt := 106) (pc := 5) hC dX4_kindAhead_5 116 c_8 (by decide) (by decide) rfl (by decide) ?_
    refine xv_iconst (v := 1) (pc := 106) hC dX4_kindAhead_106 (by decide) ?_
    obtain ⟨h1, h2⟩ := some_pair hX
    exact xv_eqi (W := cwC dA a) h1 h2 (hR _ _ _ _ (Nat.le_of_ble_eq_true rfl) (Nat.le_of_ble_eq_true rfl) dX4_kindAhead_107)
  replace hX := if_f c_8 hX
  by_cases c_9 : q_1.1 = 117
  · replace hX := if_t c_9 hX
    refine xv_tabIn (tgt := 108) (pc := 5) hC dX4_kindAhead_5 117 c_9 (by decide) (by decide) rfl (by decide) ?_
    refine xv_iconst (v := 2) (pc := 108) hC dX4_kindAhead_108 (by decide) ?_
    obtain ⟨h1, h2⟩ := some_pair hX
    exact xv_eqi (W := cwC dA a) h1 h2 (hR _ _ _ _ (Nat.le_of_ble_eq_true rfl) (Nat.le_of_ble_eq_true rfl) dX4_kindAhead_109)
  replace hX := if_f c_9 hX
  by_cases c_10 : q_1.1 = 119
  · replace hX := if_t c_10 hX
    refine xv_tabIn (tgt := 131) (pc := 5) hC dX4_kindAhead_5 119 c_10 (by decide) (by decide) rfl (by decide) ?_
    refine xv_bipush (v := 7) (pc := 131) hC dX4_kindAhead_131 (by decide) ?_
    obtain ⟨h1, h2⟩ := some_pair hX
    exact xv_eqi (W := cwC dA a) h1 h2 (hR _ _ _ _ (Nat.le_of_ble_eq_true rfl) (Nat.le_of_ble_eq_true rfl) dX4_kindAhead_133)
  replace hX := if_f c_10 hX
  refine xv_tabD (tgt := 134) (pc := 5) hC dX4_kindAhead_5 rfl (fun i9 hi9 hne9 hx9 => ?_) (by decide) ?_
  · have hi9 : i9 < 21 := hi9
    rcases (by omega : i9 = 0 ∨ i9 = 1 ∨ i9 = 2 ∨ i9 = 3 ∨ i9 = 4 ∨ i9 = 5 ∨ i9 = 6 ∨ i9 = 7 ∨ i9 = 8 ∨ i9 = 9 ∨ i9 = 10 ∨ i9 = 11 ∨ i9 = 12 ∨ i9 = 13 ∨ i9 = 14 ∨ i9 = 15 ∨ i9 = 16 ∨ i9 = 17 ∨ i9 = 18 ∨ i9 = 19 ∨ i9 = 20) with rfl | rfl | rfl | rfl | rfl | rfl | rfl | rfl | rfl | rfl | rfl | rfl | rfl | rfl | rfl | rfl | rfl | rfl | rfl | rfl | rfl <;> first | exact hne9 rfl | exact absurd hx9 (by assumption)
  · skip
    refine xv_aload_n (pc := 134) hC dX4_kindAhead_134 0 rfl rfl ?_
    refine xv_iconst (v := 1) (pc := 135) hC dX4_kindAhead_135 (by decide) ?_
    obtain ⟨Z_11, hZ_11, hX⟩ := nm_some hX
    refine xpX4 (ty := .boolean) (pc := 136) hC dX4_kindAhead_136 (rfl : shC 7 = 7) 8 (by decide) wf_226 rfl (by decide +kernel) (by decide) (by decide) rfl hZ_11 ?_
    refine xv_iconst (v := (-1)) (pc := 139) hC dX4_kindAhead_139 (by decide) ?_
    obtain ⟨h1, h2⟩ := some_pair hX
    exact xv_eqi (W := cwC dA a) h1 h2 (hR _ _ _ _ (Nat.le_of_ble_eq_true rfl) (Nat.le_of_ble_eq_true rfl) dX4_kindAhead_140)
def sX4_expectWord_L2 (x1 : Nat) : Nat → Int32 → ZZ → Option (ZZ)
  | 0, _, _ => none
  | n + 1, y2, Z =>
  if ((nI (xe_sl.getD x1 0)) >>> ((0 : Int32) &&& 31)) ≤ y2 then (
    some Z) else (
    gd (¬ y2 < 0) <|
    gd (y2 < nI (xe_sl.getD x1 0)) <|
    gd (vin y2 (xe_sl.getD x1 0) = true) <|
    gd (nch (ichar (((xe_sb.getD x1 []).getD y2.toNatClampNeg 0) &&& 255)) = true) <|
    bnd (sX4_expect (ichar (((xe_sb.getD x1 []).getD y2.toNatClampNeg 0) &&& 255)) Z) <| fun q_6 =>
    nm (y2 + 1) <| fun y_7 =>
    sX4_expectWord_L2 x1 n y_7 q_6)
def sX4_expectWord (x1 : Nat) (Z : ZZ) : Option (ZZ) :=
  gd (x1 < 9) <|
  sX4_expectWord_L2 x1 3000 0 Z
abbrev rmX4_expectWord : Room := { frames := 4, cells := 0, slots := 0, locals := 87 }
set_option maxHeartbeats 4000000 in
set_option maxRecDepth 100000 in
theorem kX4_expectWord {l : Launch} {D : va_G} {dA : Nat → ClassId} {sa : String → Nat → Nat} {a : Nat → Nat} (hl : l.stackTraces = false) {x1 : Nat} {Z Z' : ZZ} (hX : sX4_expectWord x1 Z = some Z') : CTv l D dA sa yX4_expectWord (wz yX4_expectWord cX4_expectWord 3 none) rmX4_expectWord [.ref (a 7), .ref (adS sa x1)] (cwC dA a Z) (cwC dA a Z') := by
  refine xm_v hl (by decide +kernel) (Nat.le_of_ble_eq_true rfl) rfl ?_
  intro p e s m args below meth c A Q hC hR
  unfold sX4_expectWord at hX
  obtain ⟨g1, hX⟩ := gd_some hX
  have v2 : ∀ (n : Nat) (y2 : Int32) (Z : ZZ), sX4_expectWord_L2 x1 n y2 Z = some Z' → xv p l e rmX4_expectWord s m args below meth c D A 3 Q (cwC dA a Z) 0 0 2 [(0, .ref (a 7)), (1, .ref (adS sa x1)), (2, .int y2)] [] := by
    intro n
    induction n with
    | zero =>
      intro y2 Z hX
      exact absurd hX (by simp [sX4_expectWord_L2])
    | succ n ih =>
      intro y2 Z hX
      rw [sX4_expectWord_L2] at hX
      refine xv_iload_n (pc := 2) hC dX4_expectWord_2 2 rfl rfl ?_
      refine xv_aload_n (pc := 3) hC dX4_expectWord_3 1 rfl rfl ?_
      refine xv_callTi0 (As := []) (pc := 4) hC (kJ_len hl g1) fV_J0_length_8abf5 wf_1462 rfl g1 rfl rfl ⟨(Nat.le_of_ble_eq_true rfl), (Nat.le_of_ble_eq_true rfl)⟩ rfl (Nat.le_of_ble_eq_true rfl) dX4_expectWord_4 ⟨(Nat.le_of_ble_eq_true rfl), (Nat.le_of_ble_eq_true rfl)⟩ ?_
      refine xv_icmp_ge (tgt := 25) (pc := 7) hC dX4_expectWord_7 (by decide) (fun c_1 => ?_) (fun c_1 => ?_)
      · replace hX := if_t c_1 hX
        exact xv_eqw (W := cwC dA a) (Option.some.inj hX) (hR _ _ _ _ (Nat.le_of_ble_eq_true rfl) (Nat.le_of_ble_eq_true rfl) dX4_expectWord_25)
      · replace hX := if_f c_1 hX
        refine xv_aload_n (pc := 10) hC dX4_expectWord_10 0 rfl rfl ?_
        refine xv_aload_n (pc := 11) hC dX4_expectWord_11 1 rfl rfl ?_
        refine xv_iload_n (pc := 12) hC dX4_expectWord_12 2 rfl rfl ?_
        obtain ⟨h_2, hX⟩ := gd_some hX
        obtain ⟨h_3, hX⟩ := gd_some hX
        obtain ⟨h_4, hX⟩ := gd_some hX
        obtain ⟨h_5, hX⟩ := gd_some hX
        refine xv_callTi0 (As := [.int y2]) (pc := 13) hC (kJ_cha hl g1 h_2 h_3 h_4 h_5) fV_J0_charAt_5068e wf_1463 rfl g1 rfl rfl ⟨(Nat.le_of_ble_eq_true rfl), (Nat.le_of_ble_eq_true rfl)⟩ rfl (Nat.le_of_ble_eq_true rfl) dX4_expectWord_13 ⟨(Nat.le_of_ble_eq_true rfl), (Nat.le_of_ble_eq_true rfl)⟩ ?_
        obtain ⟨q_6, hq_6, hX⟩ := bnd_some hX
        refine xv_callVv0 (As := [.int (ichar (((xe_sb.getD x1 []).getD y2.toNatClampNeg 0) &&& 255))]) (pc := 16) hC (kX4_expect hl hq_6) fV_X4_expect wf_1478 (rc_X4 (rfl : shC 7 = 7)) rfl ⟨Nat.le_of_ble_eq_true rfl, Nat.le_of_ble_eq_true rfl⟩ rfl (Nat.le_of_ble_eq_true rfl) dX4_expectWord_16 ⟨Nat.le_of_ble_eq_true rfl, Nat.le_of_ble_eq_true rfl⟩ ?_
        obtain ⟨y_7, hy_7, hX⟩ := nm_some hX
        refine xv_iinc (pc := 19) (v := y_7) (lv' := [(2, .int y_7), (0, .ref (a 7)), (1, .ref (adS sa x1))]) hC dX4_expectWord_19 2 rfl (by rw [hy_7]; rfl) (by decide) rfl ?_
        refine xv_goto (tgt := 2) (pc := 22) hC dX4_expectWord_22 (by decide) ?_
        refine xv_sub (lv' := [(0, .ref (a 7)), (1, .ref (adS sa x1)), (2, .int y_7)]) [1, 2, 0] rfl ?_
        exact ih y_7 q_6 hX
  show xv p l e rmX4_expectWord s m args below meth c D A 3 Q (cwC dA a Z) 0 0 0 [(0, .ref (a 7)), (1, .ref (adS sa x1))] []
  refine xv_iconst (v := 0) (pc := 0) hC dX4_expectWord_0 (by decide) ?_
  refine xv_istore_n (pc := 1) (lv' := [(2, .int 0), (0, .ref (a 7)), (1, .ref (adS sa x1))]) hC dX4_expectWord_1 rfl (by decide) rfl ?_
  refine xv_sub (lv' := [(0, .ref (a 7)), (1, .ref (adS sa x1)), (2, .int 0)]) [1, 2, 0] rfl ?_
  exact v2 3000 0 Z hX
def sX4_isDigit (x0 : Int32) (Z : ZZ) : Option (Int32 × ZZ) :=
  if x0 < 48 then (
    some (0, Z)) else (
    if (57 : Int32) < x0 then (
      some (0, Z)) else (
      some (1, Z)))
abbrev rmX4_isDigit : Room := { frames := 0, cells := 0, slots := 0, locals := 0 }
set_option maxHeartbeats 4000000 in
set_option maxRecDepth 100000 in
theorem kX4_isDigit {l : Launch} {D : va_G} {dA : Nat → ClassId} {sa : String → Nat → Nat} {a : Nat → Nat} (hl : l.stackTraces = false) {x0 : Int32} {Z Z' : ZZ} {v : Int32} (hX : sX4_isDigit x0 Z = some (v, Z')) : CTi l D dA sa yX4_isDigit (wz yX4_isDigit cX4_isDigit 1 (some .boolean)) rmX4_isDigit [.int x0] (cwC dA a Z) v (cwC dA a Z') := by
  refine xm_z hl (by decide +kernel) (Nat.le_of_ble_eq_true rfl) rfl ?_
  intro p e s m args below meth c A Q hC hR
  unfold sX4_isDigit at hX
  show xv p l e rmX4_isDigit s m args below meth c D A 1 Q (cwC dA a Z) 0 0 0 [(0, .int x0)] []
  refine xv_iload_n (pc := 0) hC dX4_isDigit_0 0 rfl rfl ?_
  refine xv_bipush (v := 48) (pc := 1) hC dX4_isDigit_1 (by decide) ?_
  refine xv_icmp_lt (tgt := 16) (pc := 3) hC dX4_isDigit_3 (by decide) (fun c_1 => ?_) (fun c_1 => ?_)
  · replace hX := if_t c_1 hX
    refine xv_iconst (v := 0) (pc := 16) hC dX4_isDigit_16 (by decide) ?_
    obtain ⟨h1, h2⟩ := some_pair hX
    exact xv_eqi (W := cwC dA a) h1 h2 (hR _ _ _ _ (by rw [← h1]; exact (by decide)) (Nat.le_of_ble_eq_true rfl) (Nat.le_of_ble_eq_true rfl) dX4_isDigit_17)
  · replace hX := if_f c_1 hX
    refine xv_iload_n (pc := 6) hC dX4_isDigit_6 0 rfl rfl ?_
    refine xv_bipush (v := 57) (pc := 7) hC dX4_isDigit_7 (by decide) ?_
    refine xv_icmp_gt (tgt := 16) (pc := 9) hC dX4_isDigit_9 (by decide) (fun c_2 => ?_) (fun c_2 => ?_)
    · replace hX := if_t c_2 hX
      refine xv_iconst (v := 0) (pc := 16) hC dX4_isDigit_16 (by decide) ?_
      obtain ⟨h1, h2⟩ := some_pair hX
      exact xv_eqi (W := cwC dA a) h1 h2 (hR _ _ _ _ (by rw [← h1]; exact (by decide)) (Nat.le_of_ble_eq_true rfl) (Nat.le_of_ble_eq_true rfl) dX4_isDigit_17)
    · replace hX := if_f c_2 hX
      refine xv_iconst (v := 1) (pc := 12) hC dX4_isDigit_12 (by decide) ?_
      refine xv_goto (tgt := 17) (pc := 13) hC dX4_isDigit_13 (by decide) ?_
      obtain ⟨h1, h2⟩ := some_pair hX
      exact xv_eqi (W := cwC dA a) h1 h2 (hR _ _ _ _ (by rw [← h1]; exact (by decide)) (Nat.le_of_ble_eq_true rfl) (Nat.le_of_ble_eq_true rfl) dX4_isDigit_17)
def sX4_readDigit (Z : ZZ) : Option (Int32 × ZZ) :=
  bnd (sX4_peek 0 Z) <| fun q_1 =>
  nm (q_1.1) <| fun y_2 =>
  if (gI q_1.2 7 8) = 0 then (
    bnd (sX4_isDigit y_2 q_1.2) <| fun q_5 =>
    if q_5.1 = 0 then (
      nm (pI q_5.2 7 8 1) <| fun Z_8 =>
      some (0, Z_8)) else (
      nm (pI q_5.2 7 7 ((gI q_5.2 7 7) + 1)) <| fun Z_7 =>
      some (y_2 - 48, Z_7))) else (
    nm (pI q_1.2 7 8 1) <| fun Z_4 =>
    some (0, Z_4))
abbrev rmX4_readDigit : Room := { frames := 1, cells := 0, slots := 0, locals := 22 }
set_option maxHeartbeats 4000000 in
set_option maxRecDepth 100000 in
theorem kX4_readDigit {l : Launch} {D : va_G} {dA : Nat → ClassId} {sa : String → Nat → Nat} {a : Nat → Nat} (hl : l.stackTraces = false) {Z Z' : ZZ} {v : Int32} (hX : sX4_readDigit Z = some (v, Z')) : CTi l D dA sa yX4_readDigit (wz yX4_readDigit cX4_readDigit 2 (some .int)) rmX4_readDigit [.ref (a 7)] (cwC dA a Z) v (cwC dA a Z') := by
  refine xm_i hl (by decide +kernel) (Nat.le_of_ble_eq_true rfl) rfl ?_
  intro p e s m args below meth c A Q hC hR
  unfold sX4_readDigit at hX
  show xv p l e rmX4_readDigit s m args below meth c D A 2 Q (cwC dA a Z) 0 0 0 [(0, .ref (a 7))] []
  refine xv_aload_n (pc := 0) hC dX4_readDigit_0 0 rfl rfl ?_
  refine xv_iconst (v := 0) (pc := 1) hC dX4_readDigit_1 (by decide) ?_
  obtain ⟨q_1, hq_1, hX⟩ := bnd_some hX
  refine xv_callVi0 (As := [.int 0]) (pc := 2) hC (kX4_peek hl hq_1) fV_X4_peek wf_1442 (rc_X4 (rfl : shC 7 = 7)) rfl ⟨Nat.le_of_ble_eq_true rfl, Nat.le_of_ble_eq_true rfl⟩ rfl (Nat.le_of_ble_eq_true rfl) dX4_readDigit_2 ⟨Nat.le_of_ble_eq_true rfl, Nat.le_of_ble_eq_true rfl⟩ ?_
  obtain ⟨y_2, hy_2, hX⟩ := nm_some hX
  refine xv_nmi hy_2 ?_
  refine xv_istore_n (pc := 5) (lv' := [(1, .int y_2), (0, .ref (a 7))]) hC dX4_readDigit_5 rfl (by decide) rfl ?_
  refine xv_aload_n (pc := 6) hC dX4_readDigit_6 1 rfl rfl ?_
  refine xgX4 (v := .int (gI q_1.2 7 8)) (pc := 7) hC dX4_readDigit_7 (rfl : shC 7 = 7) 8 (by decide) wf_226 rfl ?_
  refine xv_if_ne (tgt := 20) (pc := 10) hC dX4_readDigit_10 (by decide) (fun c_3 => ?_) (fun c_3 => ?_)
  · replace hX := if_f c_3 hX
    refine xv_aload_n (pc := 20) hC dX4_readDigit_20 1 rfl rfl ?_
    refine xv_iconst (v := 1) (pc := 21) hC dX4_readDigit_21 (by decide) ?_
    obtain ⟨Z_4, hZ_4, hX⟩ := nm_some hX
    refine xpX4 (ty := .boolean) (pc := 22) hC dX4_readDigit_22 (rfl : shC 7 = 7) 8 (by decide) wf_226 rfl (by decide +kernel) (by decide) (by decide) rfl hZ_4 ?_
    refine xv_iconst (v := 0) (pc := 25) hC dX4_readDigit_25 (by decide) ?_
    obtain ⟨h1, h2⟩ := some_pair hX
    exact xv_eqi (W := cwC dA a) h1 h2 (hR _ _ _ _ (Nat.le_of_ble_eq_true rfl) (Nat.le_of_ble_eq_true rfl) dX4_readDigit_26)
  · replace hX := if_t c_3 hX
    refine xv_iload_n (pc := 13) hC dX4_readDigit_13 0 rfl rfl ?_
    obtain ⟨q_5, hq_5, hX⟩ := bnd_some hX
    refine xv_callSi0 (As := [.int y_2]) (pc := 14) hC (kX4_isDigit hl hq_5) fS_X4_isDigit wf_1490 rfl ⟨Nat.le_of_ble_eq_true rfl, Nat.le_of_ble_eq_true rfl⟩ rfl (Nat.le_of_ble_eq_true rfl) dX4_readDigit_14 ⟨Nat.le_of_ble_eq_true rfl, Nat.le_of_ble_eq_true rfl⟩ ?_
    refine xv_if_ne (tgt := 27) (pc := 17) hC dX4_readDigit_17 (by decide) (fun c_6 => ?_) (fun c_6 => ?_)
    · replace hX := if_f c_6 hX
      refine xv_aload_n (pc := 27) hC dX4_readDigit_27 1 rfl rfl ?_
      refine xv_dup (pc := 28) hC dX4_readDigit_28 rfl ?_
      refine xgX4 (v := .int (gI q_5.2 7 7)) (pc := 29) hC dX4_readDigit_29 (rfl : shC 7 = 7) 7 (by decide) wf_225 rfl ?_
      refine xv_iconst (v := 1) (pc := 32) hC dX4_readDigit_32 (by decide) ?_
      refine xv_iadd (pc := 33) hC dX4_readDigit_33 ?_
      obtain ⟨Z_7, hZ_7, hX⟩ := nm_some hX
      refine xpX4 (ty := .int) (pc := 34) hC dX4_readDigit_34 (rfl : shC 7 = 7) 7 (by decide) wf_225 rfl (by decide +kernel) rfl rfl rfl hZ_7 ?_
      refine xv_iload_n (pc := 37) hC dX4_readDigit_37 0 rfl rfl ?_
      refine xv_bipush (v := 48) (pc := 38) hC dX4_readDigit_38 (by decide) ?_
      refine xv_isub (pc := 40) hC dX4_readDigit_40 ?_
      obtain ⟨h1, h2⟩ := some_pair hX
      exact xv_eqi (W := cwC dA a) h1 h2 (hR _ _ _ _ (Nat.le_of_ble_eq_true rfl) (Nat.le_of_ble_eq_true rfl) dX4_readDigit_41)
    · replace hX := if_t c_6 hX
      refine xv_aload_n (pc := 20) hC dX4_readDigit_20 1 rfl rfl ?_
      refine xv_iconst (v := 1) (pc := 21) hC dX4_readDigit_21 (by decide) ?_
      obtain ⟨Z_8, hZ_8, hX⟩ := nm_some hX
      refine xpX4 (ty := .boolean) (pc := 22) hC dX4_readDigit_22 (rfl : shC 7 = 7) 8 (by decide) wf_226 rfl (by decide +kernel) (by decide) (by decide) rfl hZ_8 ?_
      refine xv_iconst (v := 0) (pc := 25) hC dX4_readDigit_25 (by decide) ?_
      obtain ⟨h1, h2⟩ := some_pair hX
      exact xv_eqi (W := cwC dA a) h1 h2 (hR _ _ _ _ (Nat.le_of_ble_eq_true rfl) (Nat.le_of_ble_eq_true rfl) dX4_readDigit_26)
def sX4_readNumber (Z : ZZ) : Option (Int32 × ZZ) :=
  bnd (sX4_readDigit Z) <| fun q_1 =>
  nm (q_1.1) <| fun y_2 =>
  bnd (sX4_peek 0 q_1.2) <| fun q_3 =>
  bnd (sX4_isDigit q_3.1 q_3.2) <| fun q_4 =>
  if q_4.1 = 0 then (
    some (y_2, q_4.2)) else (
    bnd (sX4_readDigit q_4.2) <| fun q_6 =>
    some ((y_2 * 10) + q_6.1, q_6.2))
abbrev rmX4_readNumber : Room := { frames := 2, cells := 0, slots := 0, locals := 43 }
set_option maxHeartbeats 4000000 in
set_option maxRecDepth 100000 in
theorem kX4_readNumber {l : Launch} {D : va_G} {dA : Nat → ClassId} {sa : String → Nat → Nat} {a : Nat → Nat} (hl : l.stackTraces = false) {Z Z' : ZZ} {v : Int32} (hX : sX4_readNumber Z = some (v, Z')) : CTi l D dA sa yX4_readNumber (wz yX4_readNumber cX4_readNumber 2 (some .int)) rmX4_readNumber [.ref (a 7)] (cwC dA a Z) v (cwC dA a Z') := by
  refine xm_i hl (by decide +kernel) (Nat.le_of_ble_eq_true rfl) rfl ?_
  intro p e s m args below meth c A Q hC hR
  unfold sX4_readNumber at hX
  show xv p l e rmX4_readNumber s m args below meth c D A 2 Q (cwC dA a Z) 0 0 0 [(0, .ref (a 7))] []
  refine xv_aload_n (pc := 0) hC dX4_readNumber_0 0 rfl rfl ?_
  obtain ⟨q_1, hq_1, hX⟩ := bnd_some hX
  refine xv_callVi0 (As := []) (pc := 1) hC (kX4_readDigit hl hq_1) fV_X4_readDigit wf_1486 (rc_X4 (rfl : shC 7 = 7)) rfl ⟨Nat.le_of_ble_eq_true rfl, Nat.le_of_ble_eq_true rfl⟩ rfl (Nat.le_of_ble_eq_true rfl) dX4_readNumber_1 ⟨Nat.le_of_ble_eq_true rfl, Nat.le_of_ble_eq_true rfl⟩ ?_
  obtain ⟨y_2, hy_2, hX⟩ := nm_some hX
  refine xv_nmi hy_2 ?_
  refine xv_istore_n (pc := 4) (lv' := [(1, .int y_2), (0, .ref (a 7))]) hC dX4_readNumber_4 rfl (by decide) rfl ?_
  refine xv_aload_n (pc := 5) hC dX4_readNumber_5 1 rfl rfl ?_
  refine xv_iconst (v := 0) (pc := 6) hC dX4_readNumber_6 (by decide) ?_
  obtain ⟨q_3, hq_3, hX⟩ := bnd_some hX
  refine xv_callVi0 (As := [.int 0]) (pc := 7) hC (kX4_peek hl hq_3) fV_X4_peek wf_1442 (rc_X4 (rfl : shC 7 = 7)) rfl ⟨Nat.le_of_ble_eq_true rfl, Nat.le_of_ble_eq_true rfl⟩ rfl (Nat.le_of_ble_eq_true rfl) dX4_readNumber_7 ⟨Nat.le_of_ble_eq_true rfl, Nat.le_of_ble_eq_true rfl⟩ ?_
  obtain ⟨q_4, hq_4, hX⟩ := bnd_some hX
  refine xv_callSi0 (As := [.int q_3.1]) (pc := 10) hC (kX4_isDigit hl hq_4) fS_X4_isDigit wf_1490 rfl ⟨Nat.le_of_ble_eq_true rfl, Nat.le_of_ble_eq_true rfl⟩ rfl (Nat.le_of_ble_eq_true rfl) dX4_readNumber_10 ⟨Nat.le_of_ble_eq_true rfl, Nat.le_of_ble_eq_true rfl⟩ ?_
  refine xv_if_eq (tgt := 28) (pc := 13) hC dX4_readNumber_13 (by decide) (fun c_5 => ?_) (fun c_5 => ?_)
  · replace hX := if_t c_5 hX
    refine xv_iload_n (pc := 28) hC dX4_readNumber_28 0 rfl rfl ?_
    obtain ⟨h1, h2⟩ := some_pair hX
    exact xv_eqi (W := cwC dA a) h1 h2 (hR _ _ _ _ (Nat.le_of_ble_eq_true rfl) (Nat.le_of_ble_eq_true rfl) dX4_readNumber_29)
  · replace hX := if_f c_5 hX
    refine xv_iload_n (pc := 16) hC dX4_readNumber_16 0 rfl rfl ?_
    refine xv_bipush (v := 10) (pc := 17) hC dX4_readNumber_17 (by decide) ?_
    refine xv_imul (pc := 19) hC dX4_readNumber_19 ?_
    refine xv_aload_n (pc := 20) hC dX4_readNumber_20 1 rfl rfl ?_
    obtain ⟨q_6, hq_6, hX⟩ := bnd_some hX
    refine xv_callVi0 (As := []) (pc := 21) hC (kX4_readDigit hl hq_6) fV_X4_readDigit wf_1486 (rc_X4 (rfl : shC 7 = 7)) rfl ⟨Nat.le_of_ble_eq_true rfl, Nat.le_of_ble_eq_true rfl⟩ rfl (Nat.le_of_ble_eq_true rfl) dX4_readNumber_21 ⟨Nat.le_of_ble_eq_true rfl, Nat.le_of_ble_eq_true rfl⟩ ?_
    refine xv_iadd (pc := 24) hC dX4_readNumber_24 ?_
    refine xv_goto (tgt := 29) (pc := 25) hC dX4_readNumber_25 (by decide) ?_
    obtain ⟨h1, h2⟩ := some_pair hX
    exact xv_eqi (W := cwC dA a) h1 h2 (hR _ _ _ _ (Nat.le_of_ble_eq_true rfl) (Nat.le_of_ble_eq_true rfl) dX4_readNumber_29)
def sX4_readFirst (x1 : Int32) (Z : ZZ) : Option (Int32 × ZZ) :=
  if x1 = 1 then (
    bnd (sX4_readDigit Z) <| fun q_2 =>
    some (q_2.1, q_2.2)) else if x1 = 2 then (
    bnd (sX4_readDigit Z) <| fun q_4 =>
    some (q_4.1, q_4.2)) else if x1 = 3 then (
    bnd (sX4_readDigit Z) <| fun q_6 =>
    some (q_6.1, q_6.2)) else if x1 = 4 then (
    bnd (sX4_readDigit Z) <| fun q_8 =>
    some (q_8.1, q_8.2)) else if x1 = 5 then (
    bnd (sX4_readNumber Z) <| fun q_10 =>
    some (q_10.1, q_10.2)) else if x1 = 6 then (
    bnd (sX4_readNumber Z) <| fun q_12 =>
    some (q_12.1, q_12.2)) else if x1 = 7 then (
    bnd (sX4_peek 0 Z) <| fun q_14 =>
    if q_14.1 = 32 then (
      bnd (sX4_expect 32 q_14.2) <| fun q_16 =>
      bnd (sX4_readNumber q_16) <| fun q_17 =>
      some (q_17.1, q_17.2)) else (
      some (1, q_14.2))) else (
    some (0, Z))
abbrev rmX4_readFirst : Room := { frames := 3, cells := 0, slots := 0, locals := 64 }
set_option maxHeartbeats 4000000 in
set_option maxRecDepth 100000 in
theorem kX4_readFirst {l : Launch} {D : va_G} {dA : Nat → ClassId} {sa : String → Nat → Nat} {a : Nat → Nat} (hl : l.stackTraces = false) {x1 : Int32} {Z Z' : ZZ} {v : Int32} (hX : sX4_readFirst x1 Z = some (v, Z')) : CTi l D dA sa yX4_readFirst (wz yX4_readFirst cX4_readFirst 2 (some .int)) rmX4_readFirst [.ref (a 7), .int x1] (cwC dA a Z) v (cwC dA a Z') := by
  refine xm_i hl (by decide +kernel) (Nat.le_of_ble_eq_true rfl) rfl ?_
  intro p e s m args below meth c A Q hC hR
  unfold sX4_readFirst at hX
  show xv p l e rmX4_readFirst s m args below meth c D A 2 Q (cwC dA a Z) 0 0 0 [(0, .ref (a 7)), (1, .int x1)] []
  refine xv_iload_n (pc := 0) hC dX4_readFirst_0 1 rfl rfl ?_
  by_cases c_1 : x1 = 1
  · replace hX := if_t c_1 hX
    refine xv_tabIn (tgt := 44) (pc := 1) hC dX4_readFirst_1 1 c_1 (by decide) (by decide) rfl (by decide) ?_
    refine xv_aload_n (pc := 44) hC dX4_readFirst_44 0 rfl rfl ?_
    obtain ⟨q_2, hq_2, hX⟩ := bnd_some hX
    refine xv_callVi0 (As := []) (pc := 45) hC (kX4_readDigit hl hq_2) fV_X4_readDigit wf_1486 (rc_X4 (rfl : shC 7 = 7)) rfl ⟨Nat.le_of_ble_eq_true rfl, Nat.le_of_ble_eq_true rfl⟩ rfl (Nat.le_of_ble_eq_true rfl) dX4_readFirst_45 ⟨Nat.le_of_ble_eq_true rfl, Nat.le_of_ble_eq_true rfl⟩ ?_
    obtain ⟨h1, h2⟩ := some_pair hX
    exact xv_eqi (W := cwC dA a) h1 h2 (hR _ _ _ _ (Nat.le_of_ble_eq_true rfl) (Nat.le_of_ble_eq_true rfl) dX4_readFirst_48)
  replace hX := if_f c_1 hX
  by_cases c_3 : x1 = 2
  · replace hX := if_t c_3 hX
    refine xv_tabIn (tgt := 44) (pc := 1) hC dX4_readFirst_1 2 c_3 (by decide) (by decide) rfl (by decide) ?_
    refine xv_aload_n (pc := 44) hC dX4_readFirst_44 0 rfl rfl ?_
    obtain ⟨q_4, hq_4, hX⟩ := bnd_some hX
    refine xv_callVi0 (As := []) (pc := 45) hC (kX4_readDigit hl hq_4) fV_X4_readDigit wf_1486 (rc_X4 (rfl : shC 7 = 7)) rfl ⟨Nat.le_of_ble_eq_true rfl, Nat.le_of_ble_eq_true rfl⟩ rfl (Nat.le_of_ble_eq_true rfl) dX4_readFirst_45 ⟨Nat.le_of_ble_eq_true rfl, Nat.le_of_ble_eq_true rfl⟩ ?_
    obtain ⟨h1, h2⟩ := some_pair hX
    exact xv_eqi (W := cwC dA a) h1 h2 (hR _ _ _ _ (Nat.le_of_ble_eq_true rfl) (Nat.le_of_ble_eq_true rfl) dX4_readFirst_48)
  replace hX := if_f c_3 hX
  by_cases c_5 : x1 = 3
  · replace hX := if_t c_5 hX
    refine xv_tabIn (tgt := 44) (pc := 1) hC dX4_readFirst_1 3 c_5 (by decide) (by decide) rfl (by decide) ?_
    refine xv_aload_n (pc := 44) hC dX4_readFirst_44 0 rfl rfl ?_
    obtain ⟨q_6, hq_6, hX⟩ := bnd_some hX
    refine xv_callVi0 (As := []) (pc := 45) hC (kX4_readDigit hl hq_6) fV_X4_readDigit wf_1486 (rc_X4 (rfl : shC 7 = 7)) rfl ⟨Nat.le_of_ble_eq_true rfl, Nat.le_of_ble_eq_true rfl⟩ rfl (Nat.le_of_ble_eq_true rfl) dX4_readFirst_45 ⟨Nat.le_of_ble_eq_true rfl, Nat.le_of_ble_eq_true rfl⟩ ?_
    obtain ⟨h1, h2⟩ := some_pair hX
    exact xv_eqi (W := cwC dA a) h1 h2 (hR _ _ _ _ (Nat.le_of_ble_eq_true rfl) (Nat.le_of_ble_eq_true rfl) dX4_readFirst_48)
  replace hX := if_f c_5 hX
  by_cases c_7 : x1 = 4
  · replace hX := if_t c_7 hX
    refine xv_tabIn (tgt := 44) (pc := 1) hC dX4_readFirst_1 4 c_7 (by decide) (by decide) rfl (by decide) ?_
    refine xv_aload_n (pc := 44) hC dX4_readFirst_44 0 rfl rfl ?_
    obtain ⟨q_8, hq_8, hX⟩ := bnd_some hX
    refine xv_callVi0 (As := []) (pc := 45) hC (kX4_readDigit hl hq_8) fV_X4_readDigit wf_1486 (rc_X4 (rfl : shC 7 = 7)) rfl ⟨Nat.le_of_ble_eq_true rfl, Nat.le_of_ble_eq_true rfl⟩ rfl (Nat.le_of_ble_eq_true rfl) dX4_readFirst_45 ⟨Nat.le_of_ble_eq_true rfl, Nat.le_of_ble_eq_true rfl⟩ ?_
    obtain ⟨h1, h2⟩ := some_pair hX
    exact xv_eqi (W := cwC dA a) h1 h2 (hR _ _ _ _ (Nat.le_of_ble_eq_true rfl) (Nat.le_of_ble_eq_true rfl) dX4_readFirst_48)
  replace hX := if_f c_7 hX
  by_cases c_9 : x1 = 5
  · replace hX := if_t c_9 hX
    refine xv_tabIn (tgt := 49) (pc := 1) hC dX4_readFirst_1 5 c_9 (by decide) (by decide) rfl (by decide) ?_
    refine xv_aload_n (pc := 49) hC dX4_readFirst_49 0 rfl rfl ?_
    obtain ⟨q_10, hq_10, hX⟩ := bnd_some hX
    refine xv_callVi0 (As := []) (pc := 50) hC (kX4_readNumber hl hq_10) fV_X4_readNumber wf_1493 (rc_X4 (rfl : shC 7 = 7)) rfl ⟨Nat.le_of_ble_eq_true rfl, Nat.le_of_ble_eq_true rfl⟩ rfl (Nat.le_of_ble_eq_true rfl) dX4_readFirst_50 ⟨Nat.le_of_ble_eq_true rfl, Nat.le_of_ble_eq_true rfl⟩ ?_
    obtain ⟨h1, h2⟩ := some_pair hX
    exact xv_eqi (W := cwC dA a) h1 h2 (hR _ _ _ _ (Nat.le_of_ble_eq_true rfl) (Nat.le_of_ble_eq_true rfl) dX4_readFirst_53)
  replace hX := if_f c_9 hX
  by_cases c_11 : x1 = 6
  · replace hX := if_t c_11 hX
    refine xv_tabIn (tgt := 49) (pc := 1) hC dX4_readFirst_1 6 c_11 (by decide) (by decide) rfl (by decide) ?_
    refine xv_aload_n (pc := 49) hC dX4_readFirst_49 0 rfl rfl ?_
    obtain ⟨q_12, hq_12, hX⟩ := bnd_some hX
    refine xv_callVi0 (As := []) (pc := 50) hC (kX4_readNumber hl hq_12) fV_X4_readNumber wf_1493 (rc_X4 (rfl : shC 7 = 7)) rfl ⟨Nat.le_of_ble_eq_true rfl, Nat.le_of_ble_eq_true rfl⟩ rfl (Nat.le_of_ble_eq_true rfl) dX4_readFirst_50 ⟨Nat.le_of_ble_eq_true rfl, Nat.le_of_ble_eq_true rfl⟩ ?_
    obtain ⟨h1, h2⟩ := some_pair hX
    exact xv_eqi (W := cwC dA a) h1 h2 (hR _ _ _ _ (Nat.le_of_ble_eq_true rfl) (Nat.le_of_ble_eq_true rfl) dX4_readFirst_53)
  replace hX := if_f c_11 hX
  by_cases c_13 : x1 = 7
  · replace hX := if_t c_13 hX
    refine xv_tabIn (tgt := 54) (pc := 1) hC dX4_readFirst_1 7 c_13 (by decide) (by decide) rfl (by decide) ?_
    refine xv_aload_n (pc := 54) hC dX4_readFirst_54 0 rfl rfl ?_
    refine xv_iconst (v := 0) (pc := 55) hC dX4_readFirst_55 (by decide) ?_
    obtain ⟨q_14, hq_14, hX⟩ := bnd_some hX
    refine xv_callVi0 (As := [.int 0]) (pc := 56) hC (kX4_peek hl hq_14) fV_X4_peek wf_1442 (rc_X4 (rfl : shC 7 = 7)) rfl ⟨Nat.le_of_ble_eq_true rfl, Nat.le_of_ble_eq_true rfl⟩ rfl (Nat.le_of_ble_eq_true rfl) dX4_readFirst_56 ⟨Nat.le_of_ble_eq_true rfl, Nat.le_of_ble_eq_true rfl⟩ ?_
    refine xv_bipush (v := 32) (pc := 59) hC dX4_readFirst_59 (by decide) ?_
    refine xv_icmp_eq (tgt := 66) (pc := 61) hC dX4_readFirst_61 (by decide) (fun c_15 => ?_) (fun c_15 => ?_)
    · replace hX := if_t c_15 hX
      refine xv_aload_n (pc := 66) hC dX4_readFirst_66 0 rfl rfl ?_
      refine xv_bipush (v := 32) (pc := 67) hC dX4_readFirst_67 (by decide) ?_
      obtain ⟨q_16, hq_16, hX⟩ := bnd_some hX
      refine xv_callVv0 (As := [.int 32]) (pc := 69) hC (kX4_expect hl hq_16) fV_X4_expect wf_1478 (rc_X4 (rfl : shC 7 = 7)) rfl ⟨Nat.le_of_ble_eq_true rfl, Nat.le_of_ble_eq_true rfl⟩ rfl (Nat.le_of_ble_eq_true rfl) dX4_readFirst_69 ⟨Nat.le_of_ble_eq_true rfl, Nat.le_of_ble_eq_true rfl⟩ ?_
      refine xv_aload_n (pc := 72) hC dX4_readFirst_72 0 rfl rfl ?_
      obtain ⟨q_17, hq_17, hX⟩ := bnd_some hX
      refine xv_callVi0 (As := []) (pc := 73) hC (kX4_readNumber hl hq_17) fV_X4_readNumber wf_1493 (rc_X4 (rfl : shC 7 = 7)) rfl ⟨Nat.le_of_ble_eq_true rfl, Nat.le_of_ble_eq_true rfl⟩ rfl (Nat.le_of_ble_eq_true rfl) dX4_readFirst_73 ⟨Nat.le_of_ble_eq_true rfl, Nat.le_of_ble_eq_true rfl⟩ ?_
      obtain ⟨h1, h2⟩ := some_pair hX
      exact xv_eqi (W := cwC dA a) h1 h2 (hR _ _ _ _ (Nat.le_of_ble_eq_true rfl) (Nat.le_of_ble_eq_true rfl) dX4_readFirst_76)
    · replace hX := if_f c_15 hX
      refine xv_iconst (v := 1) (pc := 64) hC dX4_readFirst_64 (by decide) ?_
      obtain ⟨h1, h2⟩ := some_pair hX
      exact xv_eqi (W := cwC dA a) h1 h2 (hR _ _ _ _ (Nat.le_of_ble_eq_true rfl) (Nat.le_of_ble_eq_true rfl) dX4_readFirst_65)
  replace hX := if_f c_13 hX
  refine xv_tabD (tgt := 77) (pc := 1) hC dX4_readFirst_1 rfl (fun i9 hi9 hne9 hx9 => ?_) (by decide) ?_
  · have hi9 : i9 < 7 := hi9
    rcases (by omega : i9 = 0 ∨ i9 = 1 ∨ i9 = 2 ∨ i9 = 3 ∨ i9 = 4 ∨ i9 = 5 ∨ i9 = 6) with rfl | rfl | rfl | rfl | rfl | rfl | rfl <;> first | exact hne9 rfl | exact absurd hx9 (by assumption)
  · skip
    refine xv_iconst (v := 0) (pc := 77) hC dX4_readFirst_77 (by decide) ?_
    obtain ⟨h1, h2⟩ := some_pair hX
    exact xv_eqi (W := cwC dA a) h1 h2 (hR _ _ _ _ (Nat.le_of_ble_eq_true rfl) (Nat.le_of_ble_eq_true rfl) dX4_readFirst_78)
