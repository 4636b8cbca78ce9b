def sX7_minutesOn (x1 : Int32) (Z : ZZ) : Option ((Nat ⊕ Int32) × ZZ) :=
  bnd (sX7_needTrunk x1 Z) <| fun q_1 =>
  thr q_1 <| fun _ Zq_1 =>
    gd (vin x1 16 = true) <|
    some (.inr (gI Zq_1 ((19 + 1) + 4) x1.toNatClampNeg), Zq_1)
abbrev rmX7_minutesOn : Room := { frames := 7, cells := 1, slots := 6, locals := 103 }
set_option maxHeartbeats 4000000 in
set_option maxRecDepth 100000 in
theorem kX7_minutesOn {l : Launch} {D : va_G} {dA : Nat → ClassId} {sa : String → Nat → Nat} {a : Nat → Nat} (hl : l.stackTraces = false) {x1 : Int32} {Z Z' : ZZ} {o : Nat ⊕ Int32} (hX : sX7_minutesOn x1 Z = some (o, Z')) : CXi l D dA sa yX7_minutesOn (wz yX7_minutesOn cX7_minutesOn 2 (some .int)) rmX7_minutesOn [.ref (a 0), .int x1] (cwC dA a Z) o (cwC dA a Z') := by
  refine xm_xi hl (by decide +kernel) (Nat.le_of_ble_eq_true rfl) rfl ?_
  intro p e s m args below meth c A Q hC hR hT hTw hTq hTqw hO
  unfold sX7_minutesOn at hX
  show xv p l e rmX7_minutesOn s m args below meth c D A 2 Q (cwC dA a Z) 0 0 0 [(0, .ref (a 0)), (1, .int x1)] []
  refine xv_aload_n (pc := 0) hC dX7_minutesOn_0 0 rfl rfl ?_
  refine xv_iload_n (pc := 1) hC dX7_minutesOn_1 1 rfl rfl ?_
  obtain ⟨q_1, hq_1, hX⟩ := bnd_some hX
  refine xv_callVxv0 (As := [.int x1]) (pc := 2) hC (kX7_needTrunk hl hq_1) fV_X7_needTrunk wf_1139 (rc_X7 (rfl : shC 0 = 1)) rfl ⟨Nat.le_of_ble_eq_true rfl, Nat.le_of_ble_eq_true rfl⟩ rfl (Nat.le_of_ble_eq_true rfl) dX7_minutesOn_2 ⟨Nat.le_of_ble_eq_true rfl, Nat.le_of_ble_eq_true rfl⟩ (fun k9 hk9 => ?_) (fun hk9 => ?_)
  · have h9 := thr_l hk9 hX
    have h8 : o = .inl k9 ∧ Z' = q_1.2 := ⟨congrArg Prod.fst h9, congrArg Prod.snd h9⟩
    rw [← h8.2]
    exact hO _ _ _ _ _ _ h8.1 (Nat.le_of_ble_eq_true rfl) (Nat.le_of_ble_eq_true rfl)
  · replace hX := thr_r hk9 hX
    skip
    generalize q_1.2 = Zq_1 at hX ⊢
    refine xv_aload_n (pc := 5) hC dX7_minutesOn_5 0 rfl rfl ?_
    refine xgX7 (v := .ref (a 19)) (pc := 6) hC dX7_minutesOn_6 (rfl : shC 0 = 1) 0 (by decide) wf_310 rfl ?_
    refine xgX6 (v := .ref (a (19 + 1))) (pc := 9) hC dX7_minutesOn_9 (rfl : shC 19 = 13) 0 (by decide) wf_127 rfl ?_
    refine xgX3 (v := .ref (a ((19 + 1) + 4))) (pc := 12) hC dX7_minutesOn_12 (sh_X6_network (rfl : shC 19 = 13)) 5 (by decide) wf_69 rfl ?_
    refine xv_iload_n (pc := 15) hC dX7_minutesOn_15 1 rfl rfl ?_
    obtain ⟨h_2, hX⟩ := gd_some hX
    refine xl_C12 (pc := 16) hC dX7_minutesOn_16 (sh_X3_carried (sh_X6_network (rfl : shC 19 = 13))) h_2 ?_
    obtain ⟨h1, h2⟩ := some_pair hX
    exact xv_eqw (W := cwC dA a) h2 (hR _ _ _ _ _ h1.symm (Nat.le_of_ble_eq_true rfl) (Nat.le_of_ble_eq_true rfl) dX7_minutesOn_17)
def sX7_needSwitches (x1 : Int32) (x2 : Int32) (Z : ZZ) : Option ((Nat ⊕ Unit) × ZZ) :=
  bnd (sX3_hasSwitch (19 + 1) x1 Z) <| fun q_1 =>
  if q_1.1 = 0 then (
    some (.inl 1, q_1.2)) else (
    bnd (sX3_hasSwitch (19 + 1) x2 q_1.2) <| fun q_3 =>
    if q_3.1 = 0 then (
      some (.inl 1, q_3.2)) else (
      some (.inr (), q_3.2)))
abbrev rmX7_needSwitches : Room := { frames := 6, cells := 1, slots := 6, locals := 82 }
set_option maxHeartbeats 4000000 in
set_option maxRecDepth 100000 in
theorem kX7_needSwitches {l : Launch} {D : va_G} {dA : Nat → ClassId} {sa : String → Nat → Nat} {a : Nat → Nat} (hl : l.stackTraces = false) {x1 : Int32} {x2 : Int32} {Z Z' : ZZ} {o : Nat ⊕ Unit} (hX : sX7_needSwitches x1 x2 Z = some (o, Z')) : CXv l D dA sa yX7_needSwitches (wz yX7_needSwitches cX7_needSwitches 3 none) rmX7_needSwitches [.ref (a 0), .int x1, .int x2] (cwC dA a Z) o (cwC dA a Z') := by
  refine xm_xv hl (by decide +kernel) (Nat.le_of_ble_eq_true rfl) rfl ?_
  intro p e s m args below meth c A Q hC hR hT hTw hTq hTqw hO
  unfold sX7_needSwitches at hX
  show xv p l e rmX7_needSwitches s m args below meth c D A 3 Q (cwC dA a Z) 0 0 0 [(0, .ref (a 0)), (1, .int x1), (2, .int x2)] []
  refine xv_aload_n (pc := 0) hC dX7_needSwitches_0 0 rfl rfl ?_
  refine xgX7 (v := .ref (a 19)) (pc := 1) hC dX7_needSwitches_1 (rfl : shC 0 = 1) 0 (by decide) wf_310 rfl ?_
  refine xgX6 (v := .ref (a (19 + 1))) (pc := 4) hC dX7_needSwitches_4 (rfl : shC 19 = 13) 0 (by decide) wf_127 rfl ?_
  refine xv_iload_n (pc := 7) hC dX7_needSwitches_7 1 rfl rfl ?_
  obtain ⟨q_1, hq_1, hX⟩ := bnd_some hX
  refine xv_callVi0 (As := [.int x1]) (pc := 8) hC (kX3_hasSwitch hl hq_1) fV_X3_hasSwitch wf_1204 (rc_X3 (sh_X6_network (rfl : shC 19 = 13))) rfl ⟨Nat.le_of_ble_eq_true rfl, Nat.le_of_ble_eq_true rfl⟩ rfl (Nat.le_of_ble_eq_true rfl) dX7_needSwitches_8 ⟨Nat.le_of_ble_eq_true rfl, Nat.le_of_ble_eq_true rfl⟩ ?_
  refine xv_if_eq (tgt := 28) (pc := 11) hC dX7_needSwitches_11 (by decide) (fun c_2 => ?_) (fun c_2 => ?_)
  · replace hX := if_t c_2 hX
    obtain ⟨h1, h2⟩ := some_pair hX
    exact xv_eqw (W := cwC dA a) h2 (hTw _ _ 28 1 _ _ _ _ _ _ h1.symm ⟨dX7_needSwitches_28, dX7_needSwitches_31, dX7_needSwitches_32, dX7_needSwitches_35, dX7_needSwitches_38⟩ tw_X7_90 (by decide +kernel : (_, 275, "there is no such switch") ∈ xe_S) (Nat.le_of_ble_eq_true rfl) (Nat.le_of_ble_eq_true rfl) (Nat.le_of_ble_eq_true rfl) (Nat.le_of_ble_eq_true rfl))
  · replace hX := if_f c_2 hX
    refine xv_aload_n (pc := 14) hC dX7_needSwitches_14 0 rfl rfl ?_
    refine xgX7 (v := .ref (a 19)) (pc := 15) hC dX7_needSwitches_15 (rfl : shC 0 = 1) 0 (by decide) wf_310 rfl ?_
    refine xgX6 (v := .ref (a (19 + 1))) (pc := 18) hC dX7_needSwitches_18 (rfl : shC 19 = 13) 0 (by decide) wf_127 rfl ?_
    refine xv_iload_n (pc := 21) hC dX7_needSwitches_21 2 rfl rfl ?_
    obtain ⟨q_3, hq_3, hX⟩ := bnd_some hX
    refine xv_callVi0 (As := [.int x2]) (pc := 22) hC (kX3_hasSwitch hl hq_3) fV_X3_hasSwitch wf_1204 (rc_X3 (sh_X6_network (rfl : shC 19 = 13))) rfl ⟨Nat.le_of_ble_eq_true rfl, Nat.le_of_ble_eq_true rfl⟩ rfl (Nat.le_of_ble_eq_true rfl) dX7_needSwitches_22 ⟨Nat.le_of_ble_eq_true rfl, Nat.le_of_ble_eq_true rfl⟩ ?_
    refine xv_if_ne (tgt := 39) (pc := 25) hC dX7_needSwitches_25 (by decide) (fun c_4 => ?_) (fun c_4 => ?_)
    · replace hX := if_f c_4 hX
      obtain ⟨h1, h2⟩ := some_pair hX
      exact xv_eqw (W := cwC dA a) h2 (hR _ _ _ _ h1.symm (Nat.le_of_ble_eq_true rfl) (Nat.le_of_ble_eq_true rfl) dX7_needSwitches_39)
    · replace hX := if_t c_4 hX
      obtain ⟨h1, h2⟩ := some_pair hX
      exact xv_eqw (W := cwC dA a) h2 (hTw _ _ 28 1 _ _ _ _ _ _ h1.symm ⟨dX7_needSwitches_28, dX7_needSwitches_31, dX7_needSwitches_32, dX7_needSwitches_35, dX7_needSwitches_38⟩ tw_X7_90 (by decide +kernel : (_, 275, "there is no such switch") ∈ xe_S) (Nat.le_of_ble_eq_true rfl) (Nat.le_of_ble_eq_true rfl) (Nat.le_of_ble_eq_true rfl) (Nat.le_of_ble_eq_true rfl))
def sX7_needLength (x0 : Int32) (Z : ZZ) : Option ((Nat ⊕ Int32) × ZZ) :=
  if x0 = (-1) then (
    some (.inl 5, Z)) else (
    some (.inr x0, Z))
abbrev rmX7_needLength : Room := { frames := 6, cells := 1, slots := 6, locals := 82 }
set_option maxHeartbeats 4000000 in
set_option maxRecDepth 100000 in
theorem kX7_needLength {l : Launch} {D : va_G} {dA : Nat → ClassId} {sa : String → Nat → Nat} {a : Nat → Nat} (hl : l.stackTraces = false) {x0 : Int32} {Z Z' : ZZ} {o : Nat ⊕ Int32} (hX : sX7_needLength x0 Z = some (o, Z')) : CXi l D dA sa yX7_needLength (wz yX7_needLength cX7_needLength 1 (some .int)) rmX7_needLength [.int x0] (cwC dA a Z) o (cwC dA a Z') := by
  refine xm_xi hl (by decide +kernel) (Nat.le_of_ble_eq_true rfl) rfl ?_
  intro p e s m args below meth c A Q hC hR hT hTw hTq hTqw hO
  unfold sX7_needLength at hX
  show xv p l e rmX7_needLength s m args below meth c D A 1 Q (cwC dA a Z) 0 0 0 [(0, .int x0)] []
  refine xv_iload_n (pc := 0) hC dX7_needLength_0 0 rfl rfl ?_
  refine xv_iconst (v := (-1)) (pc := 1) hC dX7_needLength_1 (by decide) ?_
  refine xv_icmp_ne (tgt := 15) (pc := 2) hC dX7_needLength_2 (by decide) (fun c_1 => ?_) (fun c_1 => ?_)
  · replace hX := if_f c_1 hX
    refine xv_iload_n (pc := 15) hC dX7_needLength_15 0 rfl rfl ?_
    obtain ⟨h1, h2⟩ := some_pair hX
    exact xv_eqw (W := cwC dA a) h2 (hR _ _ _ _ _ h1.symm (Nat.le_of_ble_eq_true rfl) (Nat.le_of_ble_eq_true rfl) dX7_needLength_16)
  · replace hX := if_t c_1 hX
    obtain ⟨h1, h2⟩ := some_pair hX
    exact xv_eqw (W := cwC dA a) h2 (hTq _ _ 5 5 _ _ _ _ _ _ _ _ h1.symm ⟨dX7_needLength_5, dX7_needLength_8, dX7_needLength_9, dX7_needLength_11, dX7_needLength_14⟩ tw_X7_240 (by decide +kernel : (_, 105, "there is no route over free trunks") ∈ xe_S) (Nat.le_of_ble_eq_true rfl) (Nat.le_of_ble_eq_true rfl) (Nat.le_of_ble_eq_true rfl) (Nat.le_of_ble_eq_true rfl))
def sX7_routeLength (x1 : Int32) (x2 : Int32) (Z : ZZ) : Option ((Nat ⊕ Int32) × ZZ) :=
  bnd (sX7_needSwitches x1 x2 Z) <| fun q_1 =>
  thr q_1 <| fun _ Zq_1 =>
    bnd (sX6_freeTrunks 19 Zq_1) <| fun q_2 =>
    bnd (sX5_shortestLength (19 + 1) q_2.1 x1 x2 q_2.2) <| fun q_3 =>
    bnd (sX7_needLength q_3.1 q_3.2) <| fun q_4 =>
    thr q_4 <| fun r9_q_4 Zq_4 =>
      some (.inr r9_q_4, Zq_4)
abbrev rmX7_routeLength : Room := { frames := 7, cells := 2, slots := 12, locals := 104 }
set_option maxHeartbeats 4000000 in
set_option maxRecDepth 100000 in
theorem kX7_routeLength {l : Launch} {D : va_G} {dA : Nat → ClassId} {sa : String → Nat → Nat} {a : Nat → Nat} (hl : l.stackTraces = false) {x1 : Int32} {x2 : Int32} {Z Z' : ZZ} {o : Nat ⊕ Int32} (hX : sX7_routeLength x1 x2 Z = some (o, Z')) : CXi l D dA sa yX7_routeLength (wz yX7_routeLength cX7_routeLength 3 (some .int)) rmX7_routeLength [.ref (a 0), .int x1, .int x2] (cwC dA a Z) o (cwC dA a Z') := by
  refine xm_xi hl (by decide +kernel) (Nat.le_of_ble_eq_true rfl) rfl ?_
  intro p e s m args below meth c A Q hC hR hT hTw hTq hTqw hO
  unfold sX7_routeLength at hX
  show xv p l e rmX7_routeLength s m args below meth c D A 3 Q (cwC dA a Z) 0 0 0 [(0, .ref (a 0)), (1, .int x1), (2, .int x2)] []
  refine xv_aload_n (pc := 0) hC dX7_routeLength_0 0 rfl rfl ?_
  refine xv_iload_n (pc := 1) hC dX7_routeLength_1 1 rfl rfl ?_
  refine xv_iload_n (pc := 2) hC dX7_routeLength_2 2 rfl rfl ?_
  obtain ⟨q_1, hq_1, hX⟩ := bnd_some hX
  refine xv_callVxv0 (As := [.int x1, .int x2]) (pc := 3) hC (kX7_needSwitches hl hq_1) fV_X7_needSwitches wf_1200 (rc_X7 (rfl : shC 0 = 1)) rfl ⟨Nat.le_of_ble_eq_true rfl, Nat.le_of_ble_eq_true rfl⟩ rfl (Nat.le_of_ble_eq_true rfl) dX7_routeLength_3 ⟨Nat.le_of_ble_eq_true rfl, Nat.le_of_ble_eq_true rfl⟩ (fun k9 hk9 => ?_) (fun hk9 => ?_)
  · have h9 := thr_l hk9 hX
    have h8 : o = .inl k9 ∧ Z' = q_1.2 := ⟨congrArg Prod.fst h9, congrArg Prod.snd h9⟩
    rw [← h8.2]
    exact hO _ _ _ _ _ _ h8.1 (Nat.le_of_ble_eq_true rfl) (Nat.le_of_ble_eq_true rfl)
  · replace hX := thr_r hk9 hX
    skip
    generalize q_1.2 = Zq_1 at hX ⊢
    refine xv_aload_n (pc := 6) hC dX7_routeLength_6 0 rfl rfl ?_
    refine xgX7 (v := .ref (a 13)) (pc := 7) hC dX7_routeLength_7 (rfl : shC 0 = 1) 6 (by decide) wf_316 rfl ?_
    refine xv_aload_n (pc := 10) hC dX7_routeLength_10 0 rfl rfl ?_
    refine xgX7 (v := .ref (a 19)) (pc := 11) hC dX7_routeLength_11 (rfl : shC 0 = 1) 0 (by decide) wf_310 rfl ?_
    refine xgX6 (v := .ref (a (19 + 1))) (pc := 14) hC dX7_routeLength_14 (rfl : shC 19 = 13) 0 (by decide) wf_127 rfl ?_
    refine xv_aload_n (pc := 17) hC dX7_routeLength_17 0 rfl rfl ?_
    refine xgX7 (v := .ref (a 19)) (pc := 18) hC dX7_routeLength_18 (rfl : shC 0 = 1) 0 (by decide) wf_310 rfl ?_
    obtain ⟨q_2, hq_2, hX⟩ := bnd_some hX
    refine xv_callVi0 (As := []) (pc := 21) hC (kX6_freeTrunks hl hq_2) fV_X6_freeTrunks wf_380 (rc_X6 (rfl : shC 19 = 13)) rfl ⟨Nat.le_of_ble_eq_true rfl, Nat.le_of_ble_eq_true rfl⟩ rfl (Nat.le_of_ble_eq_true rfl) dX7_routeLength_21 ⟨Nat.le_of_ble_eq_true rfl, Nat.le_of_ble_eq_true rfl⟩ ?_
    refine xv_iload_n (pc := 24) hC dX7_routeLength_24 1 rfl rfl ?_
    refine xv_iload_n (pc := 25) hC dX7_routeLength_25 2 rfl rfl ?_
    obtain ⟨q_3, hq_3, hX⟩ := bnd_some hX
    refine xv_callVi0 (As := [.ref (a (19 + 1)), .int q_2.1, .int x1, .int x2]) (pc := 26) hC (kX5_shortestLength hl hq_3) fV_X5_shortestLength wf_1206 (rc_X5 (rfl : shC 13 = 10)) rfl ⟨Nat.le_of_ble_eq_true rfl, Nat.le_of_ble_eq_true rfl⟩ rfl (Nat.le_of_ble_eq_true rfl) dX7_routeLength_26 ⟨Nat.le_of_ble_eq_true rfl, Nat.le_of_ble_eq_true rfl⟩ ?_
    obtain ⟨q_4, hq_4, hX⟩ := bnd_some hX
    refine xv_callSxi0 (As := [.int q_3.1]) (pc := 29) hC (kX7_needLength hl hq_4) fS_X7_needLength wf_1207 rfl ⟨Nat.le_of_ble_eq_true rfl, Nat.le_of_ble_eq_true rfl⟩ rfl (Nat.le_of_ble_eq_true rfl) dX7_routeLength_29 ⟨Nat.le_of_ble_eq_true rfl, Nat.le_of_ble_eq_true rfl⟩ (fun k9 hk9 => ?_) (fun r9 hk9 => ?_)
    · have h9 := thr_l hk9 hX
      have h8 : o = .inl k9 ∧ Z' = q_4.2 := ⟨congrArg Prod.fst h9, congrArg Prod.snd h9⟩
      rw [← h8.2]
      exact hO _ _ _ _ _ _ h8.1 (Nat.le_of_ble_eq_true rfl) (Nat.le_of_ble_eq_true rfl)
    · replace hX := thr_r hk9 hX
      revert hX hk9; revert r9; intro r9_q_4 hk9 hX
      generalize q_4.2 = Zq_4 at hX ⊢
      obtain ⟨h1, h2⟩ := some_pair hX
      exact xv_eqw (W := cwC dA a) h2 (hR _ _ _ _ _ h1.symm (Nat.le_of_ble_eq_true rfl) (Nat.le_of_ble_eq_true rfl) dX7_routeLength_32)
def sX7_routeLengthByRelaxation (x1 : Int32) (x2 : Int32) (Z : ZZ) : Option ((Nat ⊕ Int32) × ZZ) :=
  bnd (sX7_needSwitches x1 x2 Z) <| fun q_1 =>
  thr q_1 <| fun _ Zq_1 =>
    bnd (sX6_freeTrunks 19 Zq_1) <| fun q_2 =>
    bnd (sX5_relaxedLength (19 + 1) q_2.1 x1 x2 q_2.2) <| fun q_3 =>
    bnd (sX7_needLength q_3.1 q_3.2) <| fun q_4 =>
    thr q_4 <| fun r9_q_4 Zq_4 =>
      some (.inr r9_q_4, Zq_4)
abbrev rmX7_routeLengthByRelaxation : Room := { frames := 7, cells := 2, slots := 12, locals := 104 }
set_option maxHeartbeats 4000000 in
set_option maxRecDepth 100000 in
theorem kX7_routeLengthByRelaxation {l : Launch} {D : va_G} {dA : Nat → ClassId} {sa : String → Nat → Nat} {a : Nat → Nat} (hl : l.stackTraces = false) {x1 : Int32} {x2 : Int32} {Z Z' : ZZ} {o : Nat ⊕ Int32} (hX : sX7_routeLengthByRelaxation x1 x2 Z = some (o, Z')) : CXi l D dA sa yX7_routeLengthByRelaxation (wz yX7_routeLengthByRelaxation cX7_routeLengthByRelaxation 3 (some .int)) rmX7_routeLengthByRelaxation [.ref (a 0), .int x1, .int x2] (cwC dA a Z) o (cwC dA a Z') := by
  refine xm_xi hl (by decide +kernel) (Nat.le_of_ble_eq_true rfl) rfl ?_
  intro p e s m args below meth c A Q hC hR hT hTw hTq hTqw hO
  unfold sX7_routeLengthByRelaxation at hX
  show xv p l e rmX7_routeLengthByRelaxation s m args below meth c D A 3 Q (cwC dA a Z) 0 0 0 [(0, .ref (a 0)), (1, .int x1), (2, .int x2)] []
  refine xv_aload_n (pc := 0) hC dX7_routeLengthByRelaxation_0 0 rfl rfl ?_
  refine xv_iload_n (pc := 1) hC dX7_routeLengthByRelaxation_1 1 rfl rfl ?_
  refine xv_iload_n (pc := 2) hC dX7_routeLengthByRelaxation_2 2 rfl rfl ?_
  obtain ⟨q_1, hq_1, hX⟩ := bnd_some hX
  refine xv_callVxv0 (As := [.int x1, .int x2]) (pc := 3) hC (kX7_needSwitches hl hq_1) fV_X7_needSwitches wf_1200 (rc_X7 (rfl : shC 0 = 1)) rfl ⟨Nat.le_of_ble_eq_true rfl, Nat.le_of_ble_eq_true rfl⟩ rfl (Nat.le_of_ble_eq_true rfl) dX7_routeLengthByRelaxation_3 ⟨Nat.le_of_ble_eq_true rfl, Nat.le_of_ble_eq_true rfl⟩ (fun k9 hk9 => ?_) (fun hk9 => ?_)
  · have h9 := thr_l hk9 hX
    have h8 : o = .inl k9 ∧ Z' = q_1.2 := ⟨congrArg Prod.fst h9, congrArg Prod.snd h9⟩
    rw [← h8.2]
    exact hO _ _ _ _ _ _ h8.1 (Nat.le_of_ble_eq_true rfl) (Nat.le_of_ble_eq_true rfl)
  · replace hX := thr_r hk9 hX
    skip
    generalize q_1.2 = Zq_1 at hX ⊢
    refine xv_aload_n (pc := 6) hC dX7_routeLengthByRelaxation_6 0 rfl rfl ?_
    refine xgX7 (v := .ref (a 13)) (pc := 7) hC dX7_routeLengthByRelaxation_7 (rfl : shC 0 = 1) 6 (by decide) wf_316 rfl ?_
    refine xv_aload_n (pc := 10) hC dX7_routeLengthByRelaxation_10 0 rfl rfl ?_
    refine xgX7 (v := .ref (a 19)) (pc := 11) hC dX7_routeLengthByRelaxation_11 (rfl : shC 0 = 1) 0 (by decide) wf_310 rfl ?_
    refine xgX6 (v := .ref (a (19 + 1))) (pc := 14) hC dX7_routeLengthByRelaxation_14 (rfl : shC 19 = 13) 0 (by decide) wf_127 rfl ?_
    refine xv_aload_n (pc := 17) hC dX7_routeLengthByRelaxation_17 0 rfl rfl ?_
    refine xgX7 (v := .ref (a 19)) (pc := 18) hC dX7_routeLengthByRelaxation_18 (rfl : shC 0 = 1) 0 (by decide) wf_310 rfl ?_
    obtain ⟨q_2, hq_2, hX⟩ := bnd_some hX
    refine xv_callVi0 (As := []) (pc := 21) hC (kX6_freeTrunks hl hq_2) fV_X6_freeTrunks wf_380 (rc_X6 (rfl : shC 19 = 13)) rfl ⟨Nat.le_of_ble_eq_true rfl, Nat.le_of_ble_eq_true rfl⟩ rfl (Nat.le_of_ble_eq_true rfl) dX7_routeLengthByRelaxation_21 ⟨Nat.le_of_ble_eq_true rfl, Nat.le_of_ble_eq_true rfl⟩ ?_
    refine xv_iload_n (pc := 24) hC dX7_routeLengthByRelaxation_24 1 rfl rfl ?_
    refine xv_iload_n (pc := 25) hC dX7_routeLengthByRelaxation_25 2 rfl rfl ?_
    obtain ⟨q_3, hq_3, hX⟩ := bnd_some hX
    refine xv_callVi0 (As := [.ref (a (19 + 1)), .int q_2.1, .int x1, .int x2]) (pc := 26) hC (kX5_relaxedLength hl hq_3) fV_X5_relaxedLength wf_1217 (rc_X5 (rfl : shC 13 = 10)) rfl ⟨Nat.le_of_ble_eq_true rfl, Nat.le_of_ble_eq_true rfl⟩ rfl (Nat.le_of_ble_eq_true rfl) dX7_routeLengthByRelaxation_26 ⟨Nat.le_of_ble_eq_true rfl, Nat.le_of_ble_eq_true rfl⟩ ?_
    obtain ⟨q_4, hq_4, hX⟩ := bnd_some hX
    refine xv_callSxi0 (As := [.int q_3.1]) (pc := 29) hC (kX7_needLength hl hq_4) fS_X7_needLength wf_1207 rfl ⟨Nat.le_of_ble_eq_true rfl, Nat.le_of_ble_eq_true rfl⟩ rfl (Nat.le_of_ble_eq_true rfl) dX7_routeLengthByRelaxation_29 ⟨Nat.le_of_ble_eq_true rfl, Nat.le_of_ble_eq_true rfl⟩ (fun k9 hk9 => ?_) (fun r9 hk9 => ?_)
    · have h9 := thr_l hk9 hX
      have h8 : o = .inl k9 ∧ Z' = q_4.2 := ⟨congrArg Prod.fst h9, congrArg Prod.snd h9⟩
      rw [← h8.2]
      exact hO _ _ _ _ _ _ h8.1 (Nat.le_of_ble_eq_true rfl) (Nat.le_of_ble_eq_true rfl)
    · replace hX := thr_r hk9 hX
      revert hX hk9; revert r9; intro r9_q_4 hk9 hX
      generalize q_4.2 = Zq_4 at hX ⊢
      obtain ⟨h1, h2⟩ := some_pair hX
      exact xv_eqw (W := cwC dA a) h2 (hR _ _ _ _ _ h1.symm (Nat.le_of_ble_eq_true rfl) (Nat.le_of_ble_eq_true rfl) dX7_routeLengthByRelaxation_32)
def sX7_needDifferent (x0 : Int32) (x1 : Int32) (Z : ZZ) : Option ((Nat ⊕ Unit) × ZZ) :=
  if x0 = x1 then (
    some (.inl 2, Z)) else (
    some (.inr (), Z))
abbrev rmX7_needDifferent : Room := { frames := 6, cells := 1, slots := 6, locals := 82 }
set_option maxHeartbeats 4000000 in
set_option maxRecDepth 100000 in
theorem kX7_needDifferent {l : Launch} {D : va_G} {dA : Nat → ClassId} {sa : String → Nat → Nat} {a : Nat → Nat} (hl : l.stackTraces = false) {x0 : Int32} {x1 : Int32} {Z Z' : ZZ} {o : Nat ⊕ Unit} (hX : sX7_needDifferent x0 x1 Z = some (o, Z')) : CXv l D dA sa yX7_needDifferent (wz yX7_needDifferent cX7_needDifferent 2 none) rmX7_needDifferent [.int x0, .int x1] (cwC dA a Z) o (cwC dA a Z') := by
  refine xm_xv hl (by decide +kernel) (Nat.le_of_ble_eq_true rfl) rfl ?_
  intro p e s m args below meth c A Q hC hR hT hTw hTq hTqw hO
  unfold sX7_needDifferent at hX
  show xv p l e rmX7_needDifferent s m args below meth c D A 2 Q (cwC dA a Z) 0 0 0 [(0, .int x0), (1, .int x1)] []
  refine xv_iload_n (pc := 0) hC dX7_needDifferent_0 0 rfl rfl ?_
  refine xv_iload_n (pc := 1) hC dX7_needDifferent_1 1 rfl rfl ?_
  refine xv_icmp_ne (tgt := 16) (pc := 2) hC dX7_needDifferent_2 (by decide) (fun c_1 => ?_) (fun c_1 => ?_)
  · replace hX := if_f c_1 hX
    obtain ⟨h1, h2⟩ := some_pair hX
    exact xv_eqw (W := cwC dA a) h2 (hR _ _ _ _ h1.symm (Nat.le_of_ble_eq_true rfl) (Nat.le_of_ble_eq_true rfl) dX7_needDifferent_16)
  · replace hX := if_t c_1 hX
    obtain ⟨h1, h2⟩ := some_pair hX
    exact xv_eqw (W := cwC dA a) h2 (hTw _ _ 5 2 _ _ _ _ _ _ h1.symm ⟨dX7_needDifferent_5, dX7_needDifferent_8, dX7_needDifferent_9, dX7_needDifferent_12, dX7_needDifferent_15⟩ tw_X7_97 (by decide +kernel : (_, 277, "both switches are the same one") ∈ xe_S) (Nat.le_of_ble_eq_true rfl) (Nat.le_of_ble_eq_true rfl) (Nat.le_of_ble_eq_true rfl) (Nat.le_of_ble_eq_true rfl))
def sX7_disjointRoutes (x1 : Int32) (x2 : Int32) (Z : ZZ) : Option ((Nat ⊕ Int32) × ZZ) :=
  bnd (sX7_needSwitches x1 x2 Z) <| fun q_1 =>
  thr q_1 <| fun _ Zq_1 =>
    bnd (sX7_needDifferent x1 x2 Zq_1) <| fun q_2 =>
    thr q_2 <| fun _ Zq_2 =>
      bnd (sX6_freeTrunks 19 Zq_2) <| fun q_3 =>
      bnd (sX5_countDisjoint (19 + 1) q_3.1 x1 x2 q_3.2) <| fun q_4 =>
      some (.inr q_4.1, q_4.2)
abbrev rmX7_disjointRoutes : Room := { frames := 7, cells := 2, slots := 12, locals := 104 }
set_option maxHeartbeats 4000000 in
set_option maxRecDepth 100000 in
theorem kX7_disjointRoutes {l : Launch} {D : va_G} {dA : Nat → ClassId} {sa : String → Nat → Nat} {a : Nat → Nat} (hl : l.stackTraces = false) {x1 : Int32} {x2 : Int32} {Z Z' : ZZ} {o : Nat ⊕ Int32} (hX : sX7_disjointRoutes x1 x2 Z = some (o, Z')) : CXi l D dA sa yX7_disjointRoutes (wz yX7_disjointRoutes cX7_disjointRoutes 3 (some .int)) rmX7_disjointRoutes [.ref (a 0), .int x1, .int x2] (cwC dA a Z) o (cwC dA a Z') := by
  refine xm_xi hl (by decide +kernel) (Nat.le_of_ble_eq_true rfl) rfl ?_
  intro p e s m args below meth c A Q hC hR hT hTw hTq hTqw hO
  unfold sX7_disjointRoutes at hX
  show xv p l e rmX7_disjointRoutes s m args below meth c D A 3 Q (cwC dA a Z) 0 0 0 [(0, .ref (a 0)), (1, .int x1), (2, .int x2)] []
  refine xv_aload_n (pc := 0) hC dX7_disjointRoutes_0 0 rfl rfl ?_
  refine xv_iload_n (pc := 1) hC dX7_disjointRoutes_1 1 rfl rfl ?_
  refine xv_iload_n (pc := 2) hC dX7_disjointRoutes_2 2 rfl rfl ?_
  obtain ⟨q_1, hq_1, hX⟩ := bnd_some hX
  refine xv_callVxv0 (As := [.int x1, .int x2]) (pc := 3) hC (kX7_needSwitches hl hq_1) fV_X7_needSwitches wf_1200 (rc_X7 (rfl : shC 0 = 1)) rfl ⟨Nat.le_of_ble_eq_true rfl, Nat.le_of_ble_eq_true rfl⟩ rfl (Nat.le_of_ble_eq_true rfl) dX7_disjointRoutes_3 ⟨Nat.le_of_ble_eq_true rfl, Nat.le_of_ble_eq_true rfl⟩ (fun k9 hk9 => ?_) (fun hk9 => ?_)
  · have h9 := thr_l hk9 hX
    have h8 : o = .inl k9 ∧ Z' = q_1.2 := ⟨congrArg Prod.fst h9, congrArg Prod.snd h9⟩
    rw [← h8.2]
    exact hO _ _ _ _ _ _ h8.1 (Nat.le_of_ble_eq_true rfl) (Nat.le_of_ble_eq_true rfl)
  · replace hX := thr_r hk9 hX
    skip
    generalize q_1.2 = Zq_1 at hX ⊢
    refine xv_iload_n (pc := 6) hC dX7_disjointRoutes_6 1 rfl rfl ?_
    refine xv_iload_n (pc := 7) hC dX7_disjointRoutes_7 2 rfl rfl ?_
    obtain ⟨q_2, hq_2, hX⟩ := bnd_some hX
    refine xv_callSxv0 (As := [.int x1, .int x2]) (pc := 8) hC (kX7_needDifferent hl hq_2) fS_X7_needDifferent wf_1225 rfl ⟨Nat.le_of_ble_eq_true rfl, Nat.le_of_ble_eq_true rfl⟩ rfl (Nat.le_of_ble_eq_true rfl) dX7_disjointRoutes_8 ⟨Nat.le_of_ble_eq_true rfl, Nat.le_of_ble_eq_true rfl⟩ (fun k9 hk9 => ?_) (fun hk9 => ?_)
    · have h9 := thr_l hk9 hX
      have h8 : o = .inl k9 ∧ Z' = q_2.2 := ⟨congrArg Prod.fst h9, congrArg Prod.snd h9⟩
      rw [← h8.2]
      exact hO _ _ _ _ _ _ h8.1 (Nat.le_of_ble_eq_true rfl) (Nat.le_of_ble_eq_true rfl)
    · replace hX := thr_r hk9 hX
      skip
      generalize q_2.2 = Zq_2 at hX ⊢
      refine xv_aload_n (pc := 11) hC dX7_disjointRoutes_11 0 rfl rfl ?_
      refine xgX7 (v := .ref (a 13)) (pc := 12) hC dX7_disjointRoutes_12 (rfl : shC 0 = 1) 6 (by decide) wf_316 rfl ?_
      refine xv_aload_n (pc := 15) hC dX7_disjointRoutes_15 0 rfl rfl ?_
      refine xgX7 (v := .ref (a 19)) (pc := 16) hC dX7_disjointRoutes_16 (rfl : shC 0 = 1) 0 (by decide) wf_310 rfl ?_
      refine xgX6 (v := .ref (a (19 + 1))) (pc := 19) hC dX7_disjointRoutes_19 (rfl : shC 19 = 13) 0 (by decide) wf_127 rfl ?_
      refine xv_aload_n (pc := 22) hC dX7_disjointRoutes_22 0 rfl rfl ?_
      refine xgX7 (v := .ref (a 19)) (pc := 23) hC dX7_disjointRoutes_23 (rfl : shC 0 = 1) 0 (by decide) wf_310 rfl ?_
      obtain ⟨q_3, hq_3, hX⟩ := bnd_some hX
      refine xv_callVi0 (As := []) (pc := 26) hC (kX6_freeTrunks hl hq_3) fV_X6_freeTrunks wf_380 (rc_X6 (rfl : shC 19 = 13)) rfl ⟨Nat.le_of_ble_eq_true rfl, Nat.le_of_ble_eq_true rfl⟩ rfl (Nat.le_of_ble_eq_true rfl) dX7_disjointRoutes_26 ⟨Nat.le_of_ble_eq_true rfl, Nat.le_of_ble_eq_true rfl⟩ ?_
      refine xv_iload_n (pc := 29) hC dX7_disjointRoutes_29 1 rfl rfl ?_
      refine xv_iload_n (pc := 30) hC dX7_disjointRoutes_30 2 rfl rfl ?_
      obtain ⟨q_4, hq_4, hX⟩ := bnd_some hX
      refine xv_callVi0 (As := [.ref (a (19 + 1)), .int q_3.1, .int x1, .int x2]) (pc := 31) hC (kX5_countDisjoint hl hq_4) fV_X5_countDisjoint wf_1229 (rc_X5 (rfl : shC 13 = 10)) rfl ⟨Nat.le_of_ble_eq_true rfl, Nat.le_of_ble_eq_true rfl⟩ rfl (Nat.le_of_ble_eq_true rfl) dX7_disjointRoutes_31 ⟨Nat.le_of_ble_eq_true rfl, Nat.le_of_ble_eq_true rfl⟩ ?_
      obtain ⟨h1, h2⟩ := some_pair hX
      exact xv_eqw (W := cwC dA a) h2 (hR _ _ _ _ _ h1.symm (Nat.le_of_ble_eq_true rfl) (Nat.le_of_ble_eq_true rfl) dX7_disjointRoutes_34)
def sX7_minimalCut (x1 : Int32) (x2 : Int32) (Z : ZZ) : Option ((Nat ⊕ Int32) × ZZ) :=
  bnd (sX7_needSwitches x1 x2 Z) <| fun q_1 =>
  thr q_1 <| fun _ Zq_1 =>
    bnd (sX7_needDifferent x1 x2 Zq_1) <| fun q_2 =>
    thr q_2 <| fun _ Zq_2 =>
      bnd (sX6_freeTrunks 19 Zq_2) <| fun q_3 =>
      bnd (sX5_smallestCut (19 + 1) q_3.1 x1 x2 q_3.2) <| fun q_4 =>
      some (.inr q_4.1, q_4.2)
abbrev rmX7_minimalCut : Room := { frames := 7, cells := 2, slots := 12, locals := 104 }
set_option maxHeartbeats 4000000 in
set_option maxRecDepth 100000 in
theorem kX7_minimalCut {l : Launch} {D : va_G} {dA : Nat → ClassId} {sa : String → Nat → Nat} {a : Nat → Nat} (hl : l.stackTraces = false) {x1 : Int32} {x2 : Int32} {Z Z' : ZZ} {o : Nat ⊕ Int32} (hX : sX7_minimalCut x1 x2 Z = some (o, Z')) : CXi l D dA sa yX7_minimalCut (wz yX7_minimalCut cX7_minimalCut 3 (some .int)) rmX7_minimalCut [.ref (a 0), .int x1, .int x2] (cwC dA a Z) o (cwC dA a Z') := by
  refine xm_xi hl (by decide +kernel) (Nat.le_of_ble_eq_true rfl) rfl ?_
  intro p e s m args below meth c A Q hC hR hT hTw hTq hTqw hO
  unfold sX7_minimalCut at hX
  show xv p l e rmX7_minimalCut s m args below meth c D A 3 Q (cwC dA a Z) 0 0 0 [(0, .ref (a 0)), (1, .int x1), (2, .int x2)] []
  refine xv_aload_n (pc := 0) hC dX7_minimalCut_0 0 rfl rfl ?_
  refine xv_iload_n (pc := 1) hC dX7_minimalCut_1 1 rfl rfl ?_
  refine xv_iload_n (pc := 2) hC dX7_minimalCut_2 2 rfl rfl ?_
  obtain ⟨q_1, hq_1, hX⟩ := bnd_some hX
  refine xv_callVxv0 (As := [.int x1, .int x2]) (pc := 3) hC (kX7_needSwitches hl hq_1) fV_X7_needSwitches wf_1200 (rc_X7 (rfl : shC 0 = 1)) rfl ⟨Nat.le_of_ble_eq_true rfl, Nat.le_of_ble_eq_true rfl⟩ rfl (Nat.le_of_ble_eq_true rfl) dX7_minimalCut_3 ⟨Nat.le_of_ble_eq_true rfl, Nat.le_of_ble_eq_true rfl⟩ (fun k9 hk9 => ?_) (fun hk9 => ?_)
  · have h9 := thr_l hk9 hX
    have h8 : o = .inl k9 ∧ Z' = q_1.2 := ⟨congrArg Prod.fst h9, congrArg Prod.snd h9⟩
    rw [← h8.2]
    exact hO _ _ _ _ _ _ h8.1 (Nat.le_of_ble_eq_true rfl) (Nat.le_of_ble_eq_true rfl)
  · replace hX := thr_r hk9 hX
    skip
    generalize q_1.2 = Zq_1 at hX ⊢
    refine xv_iload_n (pc := 6) hC dX7_minimalCut_6 1 rfl rfl ?_
    refine xv_iload_n (pc := 7) hC dX7_minimalCut_7 2 rfl rfl ?_
    obtain ⟨q_2, hq_2, hX⟩ := bnd_some hX
    refine xv_callSxv0 (As := [.int x1, .int x2]) (pc := 8) hC (kX7_needDifferent hl hq_2) fS_X7_needDifferent wf_1225 rfl ⟨Nat.le_of_ble_eq_true rfl, Nat.le_of_ble_eq_true rfl⟩ rfl (Nat.le_of_ble_eq_true rfl) dX7_minimalCut_8 ⟨Nat.le_of_ble_eq_true rfl, Nat.le_of_ble_eq_true rfl⟩ (fun k9 hk9 => ?_) (fun hk9 => ?_)
    · have h9 := thr_l hk9 hX
      have h8 : o = .inl k9 ∧ Z' = q_2.2 := ⟨congrArg Prod.fst h9, congrArg Prod.snd h9⟩
      rw [← h8.2]
      exact hO _ _ _ _ _ _ h8.1 (Nat.le_of_ble_eq_true rfl) (Nat.le_of_ble_eq_true rfl)
    · replace hX := thr_r hk9 hX
      skip
      generalize q_2.2 = Zq_2 at hX ⊢
      refine xv_aload_n (pc := 11) hC dX7_minimalCut_11 0 rfl rfl ?_
      refine xgX7 (v := .ref (a 13)) (pc := 12) hC dX7_minimalCut_12 (rfl : shC 0 = 1) 6 (by decide) wf_316 rfl ?_
      refine xv_aload_n (pc := 15) hC dX7_minimalCut_15 0 rfl rfl ?_
      refine xgX7 (v := .ref (a 19)) (pc := 16) hC dX7_minimalCut_16 (rfl : shC 0 = 1) 0 (by decide) wf_310 rfl ?_
      refine xgX6 (v := .ref (a (19 + 1))) (pc := 19) hC dX7_minimalCut_19 (rfl : shC 19 = 13) 0 (by decide) wf_127 rfl ?_
      refine xv_aload_n (pc := 22) hC dX7_minimalCut_22 0 rfl rfl ?_
      refine xgX7 (v := .ref (a 19)) (pc := 23) hC dX7_minimalCut_23 (rfl : shC 0 = 1) 0 (by decide) wf_310 rfl ?_
      obtain ⟨q_3, hq_3, hX⟩ := bnd_some hX
      refine xv_callVi0 (As := []) (pc := 26) hC (kX6_freeTrunks hl hq_3) fV_X6_freeTrunks wf_380 (rc_X6 (rfl : shC 19 = 13)) rfl ⟨Nat.le_of_ble_eq_true rfl, Nat.le_of_ble_eq_true rfl⟩ rfl (Nat.le_of_ble_eq_true rfl) dX7_minimalCut_26 ⟨Nat.le_of_ble_eq_true rfl, Nat.le_of_ble_eq_true rfl⟩ ?_
      refine xv_iload_n (pc := 29) hC dX7_minimalCut_29 1 rfl rfl ?_
      refine xv_iload_n (pc := 30) hC dX7_minimalCut_30 2 rfl rfl ?_
      obtain ⟨q_4, hq_4, hX⟩ := bnd_some hX
      refine xv_callVi0 (As := [.ref (a (19 + 1)), .int q_3.1, .int x1, .int x2]) (pc := 31) hC (kX5_smallestCut hl hq_4) fV_X5_smallestCut wf_1237 (rc_X5 (rfl : shC 13 = 10)) rfl ⟨Nat.le_of_ble_eq_true rfl, Nat.le_of_ble_eq_true rfl⟩ rfl (Nat.le_of_ble_eq_true rfl) dX7_minimalCut_31 ⟨Nat.le_of_ble_eq_true rfl, Nat.le_of_ble_eq_true rfl⟩ ?_
      obtain ⟨h1, h2⟩ := some_pair hX
      exact xv_eqw (W := cwC dA a) h2 (hR _ _ _ _ _ h1.symm (Nat.le_of_ble_eq_true rfl) (Nat.le_of_ble_eq_true rfl) dX7_minimalCut_34)
def sX7_subscribers (Z : ZZ) : Option (Int32 × ZZ) :=
  some (gI Z 19 1, Z)
abbrev rmX7_subscribers : Room := { frames := 0, cells := 0, slots := 0, locals := 0 }
set_option maxHeartbeats 4000000 in
set_option maxRecDepth 100000 in
theorem kX7_subscribers {l : Launch} {D : va_G} {dA : Nat → ClassId} {sa : String → Nat → Nat} {a : Nat → Nat} (hl : l.stackTraces = false) {Z Z' : ZZ} {v : Int32} (hX : sX7_subscribers Z = some (v, Z')) : CTi l D dA sa yX7_subscribers (wz yX7_subscribers cX7_subscribers 1 (some .int)) rmX7_subscribers [.ref (a 0)] (cwC dA a Z) v (cwC dA a Z') := by
  refine xm_i hl (by decide +kernel) (Nat.le_of_ble_eq_true rfl) rfl ?_
  intro p e s m args below meth c A Q hC hR
  unfold sX7_subscribers at hX
  show xv p l e rmX7_subscribers s m args below meth c D A 1 Q (cwC dA a Z) 0 0 0 [(0, .ref (a 0))] []
  refine xv_aload_n (pc := 0) hC dX7_subscribers_0 0 rfl rfl ?_
  refine xgX7 (v := .ref (a 19)) (pc := 1) hC dX7_subscribers_1 (rfl : shC 0 = 1) 0 (by decide) wf_310 rfl ?_
  refine xgX6 (v := .int (gI Z 19 1)) (pc := 4) hC dX7_subscribers_4 (rfl : shC 19 = 13) 1 (by decide) wf_129 rfl ?_
  obtain ⟨h1, h2⟩ := some_pair hX
  exact xv_eqi (W := cwC dA a) h1 h2 (hR _ _ _ _ (Nat.le_of_ble_eq_true rfl) (Nat.le_of_ble_eq_true rfl) dX7_subscribers_7)
def sX7_needSubscriber (x1 : Int32) (Z : ZZ) : Option ((Nat ⊕ Unit) × ZZ) :=
  bnd (sX6_hasSubscriber 19 x1 Z) <| fun q_1 =>
  if q_1.1 = 0 then (
    some (.inl 1, q_1.2)) else (
    some (.inr (), q_1.2))
abbrev rmX7_needSubscriber : Room := { frames := 6, cells := 1, slots := 6, locals := 82 }
set_option maxHeartbeats 4000000 in
set_option maxRecDepth 100000 in
theorem kX7_needSubscriber {l : Launch} {D : va_G} {dA : Nat → ClassId} {sa : String → Nat → Nat} {a : Nat → Nat} (hl : l.stackTraces = false) {x1 : Int32} {Z Z' : ZZ} {o : Nat ⊕ Unit} (hX : sX7_needSubscriber x1 Z = some (o, Z')) : CXv l D dA sa yX7_needSubscriber (wz yX7_needSubscriber cX7_needSubscriber 2 none) rmX7_needSubscriber [.ref (a 0), .int x1] (cwC dA a Z) o (cwC dA a Z') := by
  refine xm_xv hl (by decide +kernel) (Nat.le_of_ble_eq_true rfl) rfl ?_
  intro p e s m args below meth c A Q hC hR hT hTw hTq hTqw hO
  unfold sX7_needSubscriber at hX
  show xv p l e rmX7_needSubscriber s m args below meth c D A 2 Q (cwC dA a Z) 0 0 0 [(0, .ref (a 0)), (1, .int x1)] []
  refine xv_aload_n (pc := 0) hC dX7_needSubscriber_0 0 rfl rfl ?_
  refine xgX7 (v := .ref (a 19)) (pc := 1) hC dX7_needSubscriber_1 (rfl : shC 0 = 1) 0 (by decide) wf_310 rfl ?_
  refine xv_iload_n (pc := 4) hC dX7_needSubscriber_4 1 rfl rfl ?_
  obtain ⟨q_1, hq_1, hX⟩ := bnd_some hX
  refine xv_callVi0 (As := [.int x1]) (pc := 5) hC (kX6_hasSubscriber hl hq_1) fV_X6_hasSubscriber wf_911 (rc_X6 (rfl : shC 19 = 13)) rfl ⟨Nat.le_of_ble_eq_true rfl, Nat.le_of_ble_eq_true rfl⟩ rfl (Nat.le_of_ble_eq_true rfl) dX7_needSubscriber_5 ⟨Nat.le_of_ble_eq_true rfl, Nat.le_of_ble_eq_true rfl⟩ ?_
  refine xv_if_ne (tgt := 22) (pc := 8) hC dX7_needSubscriber_8 (by decide) (fun c_2 => ?_) (fun c_2 => ?_)
  · replace hX := if_f c_2 hX
    obtain ⟨h1, h2⟩ := some_pair hX
    exact xv_eqw (W := cwC dA a) h2 (hR _ _ _ _ h1.symm (Nat.le_of_ble_eq_true rfl) (Nat.le_of_ble_eq_true rfl) dX7_needSubscriber_22)
  · replace hX := if_t c_2 hX
    obtain ⟨h1, h2⟩ := some_pair hX
    exact xv_eqw (W := cwC dA a) h2 (hTw _ _ 11 1 _ _ _ _ _ _ h1.symm ⟨dX7_needSubscriber_11, dX7_needSubscriber_14, dX7_needSubscriber_15, dX7_needSubscriber_18, dX7_needSubscriber_21⟩ tw_X7_90 (by decide +kernel : (_, 313, "there is no such subscriber") ∈ xe_S) (Nat.le_of_ble_eq_true rfl) (Nat.le_of_ble_eq_true rfl) (Nat.le_of_ble_eq_true rfl) (Nat.le_of_ble_eq_true rfl))
def sX7_home (x1 : Int32) (Z : ZZ) : Option ((Nat ⊕ Int32) × ZZ) :=
  bnd (sX7_needSubscriber x1 Z) <| fun q_1 =>
  thr q_1 <| fun _ Zq_1 =>
    bnd (sX6_homeOf 19 x1 Zq_1) <| fun q_2 =>
    some (.inr q_2.1, q_2.2)
abbrev rmX7_home : Room := { frames := 7, cells := 1, slots := 6, locals := 103 }
set_option maxHeartbeats 4000000 in
set_option maxRecDepth 100000 in
theorem kX7_home {l : Launch} {D : va_G} {dA : Nat → ClassId} {sa : String → Nat → Nat} {a : Nat → Nat} (hl : l.stackTraces = false) {x1 : Int32} {Z Z' : ZZ} {o : Nat ⊕ Int32} (hX : sX7_home x1 Z = some (o, Z')) : CXi l D dA sa yX7_home (wz yX7_home cX7_home 2 (some .int)) rmX7_home [.ref (a 0), .int x1] (cwC dA a Z) o (cwC dA a Z') := by
  refine xm_xi hl (by decide +kernel) (Nat.le_of_ble_eq_true rfl) rfl ?_
  intro p e s m args below meth c A Q hC hR hT hTw hTq hTqw hO
  unfold sX7_home at hX
  show xv p l e rmX7_home s m args below meth c D A 2 Q (cwC dA a Z) 0 0 0 [(0, .ref (a 0)), (1, .int x1)] []
  refine xv_aload_n (pc := 0) hC dX7_home_0 0 rfl rfl ?_
  refine xv_iload_n (pc := 1) hC dX7_home_1 1 rfl rfl ?_
  obtain ⟨q_1, hq_1, hX⟩ := bnd_some hX
  refine xv_callVxv0 (As := [.int x1]) (pc := 2) hC (kX7_needSubscriber hl hq_1) fV_X7_needSubscriber wf_1245 (rc_X7 (rfl : shC 0 = 1)) rfl ⟨Nat.le_of_ble_eq_true rfl, Nat.le_of_ble_eq_true rfl⟩ rfl (Nat.le_of_ble_eq_true rfl) dX7_home_2 ⟨Nat.le_of_ble_eq_true rfl, Nat.le_of_ble_eq_true rfl⟩ (fun k9 hk9 => ?_) (fun hk9 => ?_)
  · have h9 := thr_l hk9 hX
    have h8 : o = .inl k9 ∧ Z' = q_1.2 := ⟨congrArg Prod.fst h9, congrArg Prod.snd h9⟩
    rw [← h8.2]
    exact hO _ _ _ _ _ _ h8.1 (Nat.le_of_ble_eq_true rfl) (Nat.le_of_ble_eq_true rfl)
  · replace hX := thr_r hk9 hX
    skip
    generalize q_1.2 = Zq_1 at hX ⊢
    refine xv_aload_n (pc := 5) hC dX7_home_5 0 rfl rfl ?_
    refine xgX7 (v := .ref (a 19)) (pc := 6) hC dX7_home_6 (rfl : shC 0 = 1) 0 (by decide) wf_310 rfl ?_
    refine xv_iload_n (pc := 9) hC dX7_home_9 1 rfl rfl ?_
    obtain ⟨q_2, hq_2, hX⟩ := bnd_some hX
    refine xv_callVi0 (As := [.int x1]) (pc := 10) hC (kX6_homeOf hl hq_2) fV_X6_homeOf wf_931 (rc_X6 (rfl : shC 19 = 13)) rfl ⟨Nat.le_of_ble_eq_true rfl, Nat.le_of_ble_eq_true rfl⟩ rfl (Nat.le_of_ble_eq_true rfl) dX7_home_10 ⟨Nat.le_of_ble_eq_true rfl, Nat.le_of_ble_eq_true rfl⟩ ?_
    obtain ⟨h1, h2⟩ := some_pair hX
    exact xv_eqw (W := cwC dA a) h2 (hR _ _ _ _ _ h1.symm (Nat.le_of_ble_eq_true rfl) (Nat.le_of_ble_eq_true rfl) dX7_home_13)
def sX7_tariff (x1 : Int32) (Z : ZZ) : Option ((Nat ⊕ Int32) × ZZ) :=
  bnd (sX7_needSubscriber x1 Z) <| fun q_1 =>
  thr q_1 <| fun _ Zq_1 =>
    gd (vin x1 10 = true) <|
    some (.inr (gI Zq_1 (19 + 7) x1.toNatClampNeg), Zq_1)
abbrev rmX7_tariff : Room := { frames := 7, cells := 1, slots := 6, locals := 103 }
set_option maxHeartbeats 4000000 in
set_option maxRecDepth 100000 in
theorem kX7_tariff {l : Launch} {D : va_G} {dA : Nat → ClassId} {sa : String → Nat → Nat} {a : Nat → Nat} (hl : l.stackTraces = false) {x1 : Int32} {Z Z' : ZZ} {o : Nat ⊕ Int32} (hX : sX7_tariff x1 Z = some (o, Z')) : CXi l D dA sa yX7_tariff (wz yX7_tariff cX7_tariff 2 (some .int)) rmX7_tariff [.ref (a 0), .int x1] (cwC dA a Z) o (cwC dA a Z') := by
  refine xm_xi hl (by decide +kernel) (Nat.le_of_ble_eq_true rfl) rfl ?_
  intro p e s m args below meth c A Q hC hR hT hTw hTq hTqw hO
  unfold sX7_tariff at hX
  show xv p l e rmX7_tariff s m args below meth c D A 2 Q (cwC dA a Z) 0 0 0 [(0, .ref (a 0)), (1, .int x1)] []
  refine xv_aload_n (pc := 0) hC dX7_tariff_0 0 rfl rfl ?_
  refine xv_iload_n (pc := 1) hC dX7_tariff_1 1 rfl rfl ?_
  obtain ⟨q_1, hq_1, hX⟩ := bnd_some hX
  refine xv_callVxv0 (As := [.int x1]) (pc := 2) hC (kX7_needSubscriber hl hq_1) fV_X7_needSubscriber wf_1245 (rc_X7 (rfl : shC 0 = 1)) rfl ⟨Nat.le_of_ble_eq_true rfl, Nat.le_of_ble_eq_true rfl⟩ rfl (Nat.le_of_ble_eq_true rfl) dX7_tariff_2 ⟨Nat.le_of_ble_eq_true rfl, Nat.le_of_ble_eq_true rfl⟩ (fun k9 hk9 => ?_) (fun hk9 => ?_)
  · have h9 := thr_l hk9 hX
    have h8 : o = .inl k9 ∧ Z' = q_1.2 := ⟨congrArg Prod.fst h9, congrArg Prod.snd h9⟩
    rw [← h8.2]
    exact hO _ _ _ _ _ _ h8.1 (Nat.le_of_ble_eq_true rfl) (Nat.le_of_ble_eq_true rfl)
  · replace hX := thr_r hk9 hX
    skip
    generalize q_1.2 = Zq_1 at hX ⊢
    refine xv_aload_n (pc := 5) hC dX7_tariff_5 0 rfl rfl ?_
    refine xgX7 (v := .ref (a 19)) (pc := 6) hC dX7_tariff_6 (rfl : shC 0 = 1) 0 (by decide) wf_310 rfl ?_
    refine xgX6 (v := .ref (a (19 + 7))) (pc := 9) hC dX7_tariff_9 (rfl : shC 19 = 13) 3 (by decide) wf_132 rfl ?_
    refine xv_iload_n (pc := 12) hC dX7_tariff_12 1 rfl rfl ?_
    obtain ⟨h_2, hX⟩ := gd_some hX
    refine xl_C15 (pc := 13) hC dX7_tariff_13 (sh_X6_tariffs (rfl : shC 19 = 13)) h_2 ?_
    obtain ⟨h1, h2⟩ := some_pair hX
    exact xv_eqw (W := cwC dA a) h2 (hR _ _ _ _ _ h1.symm (Nat.le_of_ble_eq_true rfl) (Nat.le_of_ble_eq_true rfl) dX7_tariff_14)
def sX7_bill (x1 : Int32) (Z : ZZ) : Option ((Nat ⊕ Int32) × ZZ) :=
  bnd (sX7_needSubscriber x1 Z) <| fun q_1 =>
  thr q_1 <| fun _ Zq_1 =>
    gd (vin x1 10 = true) <|
    some (.inr (gI Zq_1 (19 + 8) x1.toNatClampNeg), Zq_1)
abbrev rmX7_bill : Room := { frames := 7, cells := 1, slots := 6, locals := 103 }
set_option maxHeartbeats 4000000 in
set_option maxRecDepth 100000 in
theorem kX7_bill {l : Launch} {D : va_G} {dA : Nat → ClassId} {sa : String → Nat → Nat} {a : Nat → Nat} (hl : l.stackTraces = false) {x1 : Int32} {Z Z' : ZZ} {o : Nat ⊕ Int32} (hX : sX7_bill x1 Z = some (o, Z')) : CXi l D dA sa yX7_bill (wz yX7_bill cX7_bill 2 (some .int)) rmX7_bill [.ref (a 0), .int x1] (cwC dA a Z) o (cwC dA a Z') := by
  refine xm_xi hl (by decide +kernel) (Nat.le_of_ble_eq_true rfl) rfl ?_
  intro p e s m args below meth c A Q hC hR hT hTw hTq hTqw hO
  unfold sX7_bill at hX
  show xv p l e rmX7_bill s m args below meth c D A 2 Q (cwC dA a Z) 0 0 0 [(0, .ref (a 0)), (1, .int x1)] []
  refine xv_aload_n (pc := 0) hC dX7_bill_0 0 rfl rfl ?_
  refine xv_iload_n (pc := 1) hC dX7_bill_1 1 rfl rfl ?_
  obtain ⟨q_1, hq_1, hX⟩ := bnd_some hX
  refine xv_callVxv0 (As := [.int x1]) (pc := 2) hC (kX7_needSubscriber hl hq_1) fV_X7_needSubscriber wf_1245 (rc_X7 (rfl : shC 0 = 1)) rfl ⟨Nat.le_of_ble_eq_true rfl, Nat.le_of_ble_eq_true rfl⟩ rfl (Nat.le_of_ble_eq_true rfl) dX7_bill_2 ⟨Nat.le_of_ble_eq_true rfl, Nat.le_of_ble_eq_true rfl⟩ (fun k9 hk9 => ?_) (fun hk9 => ?_)
  · have h9 := thr_l hk9 hX
    have h8 : o = .inl k9 ∧ Z' = q_1.2 := ⟨congrArg Prod.fst h9, congrArg Prod.snd h9⟩
    rw [← h8.2]
    exact hO _ _ _ _ _ _ h8.1 (Nat.le_of_ble_eq_true rfl) (Nat.le_of_ble_eq_true rfl)
  · replace hX := thr_r hk9 hX
    skip
    generalize q_1.2 = Zq_1 at hX ⊢
    refine xv_aload_n (pc := 5) hC dX7_bill_5 0 rfl rfl ?_
    refine xgX7 (v := .ref (a 19)) (pc := 6) hC dX7_bill_6 (rfl : shC 0 = 1) 0 (by decide) wf_310 rfl ?_
    refine xgX6 (v := .ref (a (19 + 8))) (pc := 9) hC dX7_bill_9 (rfl : shC 19 = 13) 4 (by decide) wf_134 rfl ?_
    refine xv_iload_n (pc := 12) hC dX7_bill_12 1 rfl rfl ?_
    obtain ⟨h_2, hX⟩ := gd_some hX
    refine xl_C15 (pc := 13) hC dX7_bill_13 (sh_X6_bills (rfl : shC 19 = 13)) h_2 ?_
    obtain ⟨h1, h2⟩ := some_pair hX
    exact xv_eqw (W := cwC dA a) h2 (hR _ _ _ _ _ h1.symm (Nat.le_of_ble_eq_true rfl) (Nat.le_of_ble_eq_true rfl) dX7_bill_14)
def sX7_isTalking (x1 : Int32) (Z : ZZ) : Option ((Nat ⊕ Int32) × ZZ) :=
  bnd (sX7_needSubscriber x1 Z) <| fun q_1 =>
  thr q_1 <| fun _ Zq_1 =>
    bnd (sX6_callIndexOf 19 x1 Zq_1) <| fun q_2 =>
    if q_2.1 = (-1) then (
      some (.inr 0, q_2.2)) else (
      some (.inr 1, q_2.2))
abbrev rmX7_isTalking : Room := { frames := 7, cells := 1, slots := 6, locals := 103 }
set_option maxHeartbeats 4000000 in
set_option maxRecDepth 100000 in
theorem kX7_isTalking {l : Launch} {D : va_G} {dA : Nat → ClassId} {sa : String → Nat → Nat} {a : Nat → Nat} (hl : l.stackTraces = false) {x1 : Int32} {Z Z' : ZZ} {o : Nat ⊕ Int32} (hX : sX7_isTalking x1 Z = some (o, Z')) : CXi l D dA sa yX7_isTalking (wz yX7_isTalking cX7_isTalking 2 (some .boolean)) rmX7_isTalking [.ref (a 0), .int x1] (cwC dA a Z) o (cwC dA a Z') := by
  refine xm_xz hl (by decide +kernel) (Nat.le_of_ble_eq_true rfl) rfl ?_
  intro p e s m args below meth c A Q hC hR hT hTw hTq hTqw hO
  unfold sX7_isTalking at hX
  show xv p l e rmX7_isTalking s m args below meth c D A 2 Q (cwC dA a Z) 0 0 0 [(0, .ref (a 0)), (1, .int x1)] []
  refine xv_aload_n (pc := 0) hC dX7_isTalking_0 0 rfl rfl ?_
  refine xv_iload_n (pc := 1) hC dX7_isTalking_1 1 rfl rfl ?_
  obtain ⟨q_1, hq_1, hX⟩ := bnd_some hX
  refine xv_callVxv0 (As := [.int x1]) (pc := 2) hC (kX7_needSubscriber hl hq_1) fV_X7_needSubscriber wf_1245 (rc_X7 (rfl : shC 0 = 1)) rfl ⟨Nat.le_of_ble_eq_true rfl, Nat.le_of_ble_eq_true rfl⟩ rfl (Nat.le_of_ble_eq_true rfl) dX7_isTalking_2 ⟨Nat.le_of_ble_eq_true rfl, Nat.le_of_ble_eq_true rfl⟩ (fun k9 hk9 => ?_) (fun hk9 => ?_)
  · have h9 := thr_l hk9 hX
    have h8 : o = .inl k9 ∧ Z' = q_1.2 := ⟨congrArg Prod.fst h9, congrArg Prod.snd h9⟩
    rw [← h8.2]
    exact hO _ _ _ _ _ _ h8.1 (Nat.le_of_ble_eq_true rfl) (Nat.le_of_ble_eq_true rfl)
  · replace hX := thr_r hk9 hX
    skip
    generalize q_1.2 = Zq_1 at hX ⊢
    refine xv_aload_n (pc := 5) hC dX7_isTalking_5 0 rfl rfl ?_
    refine xgX7 (v := .ref (a 19)) (pc := 6) hC dX7_isTalking_6 (rfl : shC 0 = 1) 0 (by decide) wf_310 rfl ?_
    refine xv_iload_n (pc := 9) hC dX7_isTalking_9 1 rfl rfl ?_
    obtain ⟨q_2, hq_2, hX⟩ := bnd_some hX
    refine xv_callVi0 (As := [.int x1]) (pc := 10) hC (kX6_callIndexOf hl hq_2) fV_X6_callIndexOf wf_915 (rc_X6 (rfl : shC 19 = 13)) rfl ⟨Nat.le_of_ble_eq_true rfl, Nat.le_of_ble_eq_true rfl⟩ rfl (Nat.le_of_ble_eq_true rfl) dX7_isTalking_10 ⟨Nat.le_of_ble_eq_true rfl, Nat.le_of_ble_eq_true rfl⟩ ?_
    refine xv_iconst (v := (-1)) (pc := 13) hC dX7_isTalking_13 (by decide) ?_
    refine xv_icmp_eq (tgt := 21) (pc := 14) hC dX7_isTalking_14 (by decide) (fun c_3 => ?_) (fun c_3 => ?_)
    · replace hX := if_t c_3 hX
      refine xv_iconst (v := 0) (pc := 21) hC dX7_isTalking_21 (by decide) ?_
      obtain ⟨h1, h2⟩ := some_pair hX
      exact xv_eqw (W := cwC dA a) h2 (hR _ _ _ _ _ h1.symm (by decide) (Nat.le_of_ble_eq_true rfl) (Nat.le_of_ble_eq_true rfl) dX7_isTalking_22)
    · replace hX := if_f c_3 hX
      refine xv_iconst (v := 1) (pc := 17) hC dX7_isTalking_17 (by decide) ?_
      refine xv_goto (tgt := 22) (pc := 18) hC dX7_isTalking_18 (by decide) ?_
      obtain ⟨h1, h2⟩ := some_pair hX
      exact xv_eqw (W := cwC dA a) h2 (hR _ _ _ _ _ h1.symm (by decide) (Nat.le_of_ble_eq_true rfl) (Nat.le_of_ble_eq_true rfl) dX7_isTalking_22)
def sX7_needCall (x1 : Int32) (Z : ZZ) : Option ((Nat ⊕ Nat) × ZZ) :=
  bnd (sX7_needSubscriber x1 Z) <| fun q_1 =>
  thr q_1 <| fun _ Zq_1 =>
    bnd (sX6_callIndexOf 19 x1 Zq_1) <| fun q_2 =>
    nm (q_2.1) <| fun y_3 =>
    if y_3 = (-1) then (
      some (.inl 5, q_2.2)) else (
      gd (vin y_3 5 = true) <|
      some (.inr (elC (19 + 9) y_3), q_2.2))
abbrev rmX7_needCall : Room := { frames := 7, cells := 2, slots := 12, locals := 103 }
set_option maxHeartbeats 4000000 in
set_option maxRecDepth 100000 in
theorem kX7_needCall {l : Launch} {D : va_G} {dA : Nat → ClassId} {sa : String → Nat → Nat} {a : Nat → Nat} (hl : l.stackTraces = false) {x1 : Int32} {Z Z' : ZZ} {o : Nat ⊕ Nat} (hX : sX7_needCall x1 Z = some (o, Z')) : CXr l D dA sa yX7_needCall (wz yX7_needCall cX7_needCall 3 (some (.object "Switchboard$Call"))) rmX7_needCall [.ref (a 0), .int x1] (cwC dA a Z) a o (cwC dA a Z') := by
  refine xm_xr hl (by decide +kernel) (Nat.le_of_ble_eq_true rfl) rfl ?_
  intro p e s m args below meth c A Q hC hR hT hTw hTq hTqw hO
  unfold sX7_needCall at hX
  show xv p l e rmX7_needCall s m args below meth c D A 3 Q (cwC dA a Z) 0 0 0 [(0, .ref (a 0)), (1, .int x1)] []
  refine xv_aload_n (pc := 0) hC dX7_needCall_0 0 rfl rfl ?_
  refine xv_iload_n (pc := 1) hC dX7_needCall_1 1 rfl rfl ?_
  obtain ⟨q_1, hq_1, hX⟩ := bnd_some hX
  refine xv_callVxv0 (As := [.int x1]) (pc := 2) hC (kX7_needSubscriber hl hq_1) fV_X7_needSubscriber wf_1245 (rc_X7 (rfl : shC 0 = 1)) rfl ⟨Nat.le_of_ble_eq_true rfl, Nat.le_of_ble_eq_true rfl⟩ rfl (Nat.le_of_ble_eq_true rfl) dX7_needCall_2 ⟨Nat.le_of_ble_eq_true rfl, Nat.le_of_ble_eq_true rfl⟩ (fun k9 hk9 => ?_) (fun hk9 => ?_)
  · have h9 := thr_l hk9 hX
    have h8 : o = .inl k9 ∧ Z' = q_1.2 := ⟨congrArg Prod.fst h9, congrArg Prod.snd h9⟩
    rw [← h8.2]
    exact hO _ _ _ _ _ _ h8.1 (Nat.le_of_ble_eq_true rfl) (Nat.le_of_ble_eq_true rfl)
  · replace hX := thr_r hk9 hX
    skip
    generalize q_1.2 = Zq_1 at hX ⊢
    refine xv_aload_n (pc := 5) hC dX7_needCall_5 0 rfl rfl ?_
    refine xgX7 (v := .ref (a 19)) (pc := 6) hC dX7_needCall_6 (rfl : shC 0 = 1) 0 (by decide) wf_310 rfl ?_
    refine xv_iload_n (pc := 9) hC dX7_needCall_9 1 rfl rfl ?_
    obtain ⟨q_2, hq_2, hX⟩ := bnd_some hX
    refine xv_callVi0 (As := [.int x1]) (pc := 10) hC (kX6_callIndexOf hl hq_2) fV_X6_callIndexOf wf_915 (rc_X6 (rfl : shC 19 = 13)) rfl ⟨Nat.le_of_ble_eq_true rfl, Nat.le_of_ble_eq_true rfl⟩ rfl (Nat.le_of_ble_eq_true rfl) dX7_needCall_10 ⟨Nat.le_of_ble_eq_true rfl, Nat.le_of_ble_eq_true rfl⟩ ?_
    obtain ⟨y_3, hy_3, hX⟩ := nm_some hX
    refine xv_nmi hy_3 ?_
    refine xv_istore_n (pc := 13) (lv' := [(2, .int y_3), (0, .ref (a 0)), (1, .int x1)]) hC dX7_needCall_13 rfl (by decide) rfl ?_
    refine xv_iload_n (pc := 14) hC dX7_needCall_14 0 rfl rfl ?_
    refine xv_iconst (v := (-1)) (pc := 15) hC dX7_needCall_15 (by decide) ?_
    refine xv_icmp_ne (tgt := 30) (pc := 16) hC dX7_needCall_16 (by decide) (fun c_4 => ?_) (fun c_4 => ?_)
    · replace hX := if_f c_4 hX
      refine xv_aload_n (pc := 30) hC dX7_needCall_30 1 rfl rfl ?_
      refine xgX7 (v := .ref (a 19)) (pc := 31) hC dX7_needCall_31 (rfl : shC 0 = 1) 0 (by decide) wf_310 rfl ?_
      refine xgX6 (v := .ref (a (19 + 9))) (pc := 34) hC dX7_needCall_34 (rfl : shC 19 = 13) 6 (by decide) wf_138 rfl ?_
      refine xv_iload_n (pc := 37) hC dX7_needCall_37 0 rfl rfl ?_
      obtain ⟨h_5, hX⟩ := gd_some hX
      refine xa_16 (pc := 38) hC dX7_needCall_38 (sh_X6_calls (rfl : shC 19 = 13)) h_5 ?_
      obtain ⟨h1, h2⟩ := some_pair hX
      exact xv_eqw (W := cwC dA a) h2 (hR _ _ _ _ _ h1.symm (Nat.le_of_ble_eq_true rfl) (Nat.le_of_ble_eq_true rfl) dX7_needCall_39)
    · replace hX := if_t c_4 hX
      obtain ⟨h1, h2⟩ := some_pair hX
      exact xv_eqw (W := cwC dA a) h2 (hTqw _ _ 19 5 _ _ _ _ _ _ _ _ h1.symm ⟨dX7_needCall_19, dX7_needCall_22, dX7_needCall_23, dX7_needCall_26, dX7_needCall_29⟩ tw_X7_240 (by decide +kernel : (_, 315, "the subscriber is not talking") ∈ xe_S) (Nat.le_of_ble_eq_true rfl) (Nat.le_of_ble_eq_true rfl) (Nat.le_of_ble_eq_true rfl) (Nat.le_of_ble_eq_true rfl))
def sX7_partner (x1 : Int32) (Z : ZZ) : Option ((Nat ⊕ Int32) × ZZ) :=
  bnd (sX7_needCall x1 Z) <| fun q_1 =>
  thr q_1 <| fun r9_q_1 Zq_1 =>
    gd (shC r9_q_1 = 17) <|
    if (gI Zq_1 r9_q_1 0) = x1 then (
      some (.inr (gI Zq_1 r9_q_1 1), Zq_1)) else (
      some (.inr (gI Zq_1 r9_q_1 0), Zq_1))
abbrev rmX7_partner : Room := { frames := 8, cells := 2, slots := 12, locals := 125 }
set_option maxHeartbeats 4000000 in
set_option maxRecDepth 100000 in
theorem kX7_partner {l : Launch} {D : va_G} {dA : Nat → ClassId} {sa : String → Nat → Nat} {a : Nat → Nat} (hl : l.stackTraces = false) {x1 : Int32} {Z Z' : ZZ} {o : Nat ⊕ Int32} (hX : sX7_partner x1 Z = some (o, Z')) : CXi l D dA sa yX7_partner (wz yX7_partner cX7_partner 3 (some .int)) rmX7_partner [.ref (a 0), .int x1] (cwC dA a Z) o (cwC dA a Z') := by
  refine xm_xi hl (by decide +kernel) (Nat.le_of_ble_eq_true rfl) rfl ?_
  intro p e s m args below meth c A Q hC hR hT hTw hTq hTqw hO
  unfold sX7_partner at hX
  show xv p l e rmX7_partner s m args below meth c D A 3 Q (cwC dA a Z) 0 0 0 [(0, .ref (a 0)), (1, .int x1)] []
  refine xv_aload_n (pc := 0) hC dX7_partner_0 0 rfl rfl ?_
  refine xv_iload_n (pc := 1) hC dX7_partner_1 1 rfl rfl ?_
  obtain ⟨q_1, hq_1, hX⟩ := bnd_some hX
  refine xv_callVxr0 (As := [.int x1]) (pc := 2) hC (kX7_needCall hl hq_1) fV_X7_needCall wf_1278 (rc_X7 (rfl : shC 0 = 1)) rfl ⟨Nat.le_of_ble_eq_true rfl, Nat.le_of_ble_eq_true rfl⟩ rfl (Nat.le_of_ble_eq_true rfl) dX7_partner_2 ⟨Nat.le_of_ble_eq_true rfl, Nat.le_of_ble_eq_true rfl⟩ (fun k9 hk9 => ?_) (fun r9 hk9 => ?_)
  · have h9 := thr_l hk9 hX
    have h8 : o = .inl k9 ∧ Z' = q_1.2 := ⟨congrArg Prod.fst h9, congrArg Prod.snd h9⟩
    rw [← h8.2]
    exact hO _ _ _ _ _ _ h8.1 (Nat.le_of_ble_eq_true rfl) (Nat.le_of_ble_eq_true rfl)
  · replace hX := thr_r hk9 hX
    revert hX hk9; revert r9; intro r9_q_1 hk9 hX
    generalize q_1.2 = Zq_1 at hX ⊢
    obtain ⟨hsq_1, hX⟩ := gd_some hX
    refine xv_astore_n (pc := 5) (lv' := [(2, .ref (a r9_q_1)), (0, .ref (a 0)), (1, .int x1)]) hC dX7_partner_5 rfl (by decide) rfl ?_
    refine xv_aload_n (pc := 6) hC dX7_partner_6 0 rfl rfl ?_
    refine xgX1 (v := .int (gI Zq_1 r9_q_1 0)) (pc := 7) hC dX7_partner_7 hsq_1 0 (by decide) wf_98 rfl ?_
    refine xv_iload_n (pc := 10) hC dX7_partner_10 2 rfl rfl ?_
    refine xv_icmp_ne (tgt := 21) (pc := 11) hC dX7_partner_11 (by decide) (fun c_2 => ?_) (fun c_2 => ?_)
    · replace hX := if_f c_2 hX
      refine xv_aload_n (pc := 21) hC dX7_partner_21 0 rfl rfl ?_
      refine xgX1 (v := .int (gI Zq_1 r9_q_1 0)) (pc := 22) hC dX7_partner_22 hsq_1 0 (by decide) wf_98 rfl ?_
      obtain ⟨h1, h2⟩ := some_pair hX
      exact xv_eqw (W := cwC dA a) h2 (hR _ _ _ _ _ h1.symm (Nat.le_of_ble_eq_true rfl) (Nat.le_of_ble_eq_true rfl) dX7_partner_25)
    · replace hX := if_t c_2 hX
      refine xv_aload_n (pc := 14) hC dX7_partner_14 0 rfl rfl ?_
      refine xgX1 (v := .int (gI Zq_1 r9_q_1 1)) (pc := 15) hC dX7_partner_15 hsq_1 1 (by decide) wf_101 rfl ?_
      refine xv_goto (tgt := 25) (pc := 18) hC dX7_partner_18 (by decide) ?_
      obtain ⟨h1, h2⟩ := some_pair hX
      exact xv_eqw (W := cwC dA a) h2 (hR _ _ _ _ _ h1.symm (Nat.le_of_ble_eq_true rfl) (Nat.le_of_ble_eq_true rfl) dX7_partner_25)
def sX7_minutes (x1 : Int32) (Z : ZZ) : Option ((Nat ⊕ Int32) × ZZ) :=
  bnd (sX7_needCall x1 Z) <| fun q_1 =>
  thr q_1 <| fun r9_q_1 Zq_1 =>
    gd (shC r9_q_1 = 17) <|
    some (.inr (gI Zq_1 r9_q_1 2), Zq_1)
abbrev rmX7_minutes : Room := { frames := 8, cells := 2, slots := 12, locals := 125 }
set_option maxHeartbeats 4000000 in
set_option maxRecDepth 100000 in
theorem kX7_minutes {l : Launch} {D : va_G} {dA : Nat → ClassId} {sa : String → Nat → Nat} {a : Nat → Nat} (hl : l.stackTraces = false) {x1 : Int32} {Z Z' : ZZ} {o : Nat ⊕ Int32} (hX : sX7_minutes x1 Z = some (o, Z')) : CXi l D dA sa yX7_minutes (wz yX7_minutes cX7_minutes 2 (some .int)) rmX7_minutes [.ref (a 0), .int x1] (cwC dA a Z) o (cwC dA a Z') := by
  refine xm_xi hl (by decide +kernel) (Nat.le_of_ble_eq_true rfl) rfl ?_
  intro p e s m args below meth c A Q hC hR hT hTw hTq hTqw hO
  unfold sX7_minutes at hX
  show xv p l e rmX7_minutes s m args below meth c D A 2 Q (cwC dA a Z) 0 0 0 [(0, .ref (a 0)), (1, .int x1)] []
  refine xv_aload_n (pc := 0) hC dX7_minutes_0 0 rfl rfl ?_
  refine xv_iload_n (pc := 1) hC dX7_minutes_1 1 rfl rfl ?_
  obtain ⟨q_1, hq_1, hX⟩ := bnd_some hX
  refine xv_callVxr0 (As := [.int x1]) (pc := 2) hC (kX7_needCall hl hq_1) fV_X7_needCall wf_1278 (rc_X7 (rfl : shC 0 = 1)) rfl ⟨Nat.le_of_ble_eq_true rfl, Nat.le_of_ble_eq_true rfl⟩ rfl (Nat.le_of_ble_eq_true rfl) dX7_minutes_2 ⟨Nat.le_of_ble_eq_true rfl, Nat.le_of_ble_eq_true rfl⟩ (fun k9 hk9 => ?_) (fun r9 hk9 => ?_)
  · have h9 := thr_l hk9 hX
    have h8 : o = .inl k9 ∧ Z' = q_1.2 := ⟨congrArg Prod.fst h9, congrArg Prod.snd h9⟩
    rw [← h8.2]
    exact hO _ _ _ _ _ _ h8.1 (Nat.le_of_ble_eq_true rfl) (Nat.le_of_ble_eq_true rfl)
  · replace hX := thr_r hk9 hX
    revert hX hk9; revert r9; intro r9_q_1 hk9 hX
    generalize q_1.2 = Zq_1 at hX ⊢
    obtain ⟨hsq_1, hX⟩ := gd_some hX
    refine xgX1 (v := .int (gI Zq_1 r9_q_1 2)) (pc := 5) hC dX7_minutes_5 hsq_1 2 (by decide) wf_104 rfl ?_
    obtain ⟨h1, h2⟩ := some_pair hX
    exact xv_eqw (W := cwC dA a) h2 (hR _ _ _ _ _ h1.symm (Nat.le_of_ble_eq_true rfl) (Nat.le_of_ble_eq_true rfl) dX7_minutes_8)
def sX7_routeSize (x1 : Int32) (Z : ZZ) : Option ((Nat ⊕ Int32) × ZZ) :=
  bnd (sX7_needCall x1 Z) <| fun q_1 =>
  thr q_1 <| fun r9_q_1 Zq_1 =>
    gd (shC r9_q_1 = 17) <|
    some (.inr (gI Zq_1 r9_q_1 3), Zq_1)
abbrev rmX7_routeSize : Room := { frames := 8, cells := 2, slots := 12, locals := 125 }
set_option maxHeartbeats 4000000 in
set_option maxRecDepth 100000 in
theorem kX7_routeSize {l : Launch} {D : va_G} {dA : Nat → ClassId} {sa : String → Nat → Nat} {a : Nat → Nat} (hl : l.stackTraces = false) {x1 : Int32} {Z Z' : ZZ} {o : Nat ⊕ Int32} (hX : sX7_routeSize x1 Z = some (o, Z')) : CXi l D dA sa yX7_routeSize (wz yX7_routeSize cX7_routeSize 2 (some .int)) rmX7_routeSize [.ref (a 0), .int x1] (cwC dA a Z) o (cwC dA a Z') := by
  refine xm_xi hl (by decide +kernel) (Nat.le_of_ble_eq_true rfl) rfl ?_
  intro p e s m args below meth c A Q hC hR hT hTw hTq hTqw hO
  unfold sX7_routeSize at hX
  show xv p l e rmX7_routeSize s m args below meth c D A 2 Q (cwC dA a Z) 0 0 0 [(0, .ref (a 0)), (1, .int x1)] []
  refine xv_aload_n (pc := 0) hC dX7_routeSize_0 0 rfl rfl ?_
  refine xv_iload_n (pc := 1) hC dX7_routeSize_1 1 rfl rfl ?_
  obtain ⟨q_1, hq_1, hX⟩ := bnd_some hX
  refine xv_callVxr0 (As := [.int x1]) (pc := 2) hC (kX7_needCall hl hq_1) fV_X7_needCall wf_1278 (rc_X7 (rfl : shC 0 = 1)) rfl ⟨Nat.le_of_ble_eq_true rfl, Nat.le_of_ble_eq_true rfl⟩ rfl (Nat.le_of_ble_eq_true rfl) dX7_routeSize_2 ⟨Nat.le_of_ble_eq_true rfl, Nat.le_of_ble_eq_true rfl⟩ (fun k9 hk9 => ?_) (fun r9 hk9 => ?_)
  · have h9 := thr_l hk9 hX
    have h8 : o = .inl k9 ∧ Z' = q_1.2 := ⟨congrArg Prod.fst h9, congrArg Prod.snd h9⟩
    rw [← h8.2]
    exact hO _ _ _ _ _ _ h8.1 (Nat.le_of_ble_eq_true rfl) (Nat.le_of_ble_eq_true rfl)
  · replace hX := thr_r hk9 hX
    revert hX hk9; revert r9; intro r9_q_1 hk9 hX
    generalize q_1.2 = Zq_1 at hX ⊢
    obtain ⟨hsq_1, hX⟩ := gd_some hX
    refine xgX1 (v := .int (gI Zq_1 r9_q_1 3)) (pc := 5) hC dX7_routeSize_5 hsq_1 3 (by decide) wf_107 rfl ?_
    obtain ⟨h1, h2⟩ := some_pair hX
    exact xv_eqw (W := cwC dA a) h2 (hR _ _ _ _ _ h1.symm (Nat.le_of_ble_eq_true rfl) (Nat.le_of_ble_eq_true rfl) dX7_routeSize_8)
def sX7_routeTrunk (x1 : Int32) (x2 : Int32) (Z : ZZ) : Option ((Nat ⊕ Int32) × ZZ) :=
  bnd (sX7_needCall x1 Z) <| fun q_1 =>
  thr q_1 <| fun r9_q_1 Zq_1 =>
    gd (shC r9_q_1 = 17) <|
    if x2 < 0 then (
      some (.inl 5, Zq_1)) else (
      if x2 < (gI Zq_1 r9_q_1 3) then (
        gd (vin x2 7 = true) <|
        some (.inr (gI Zq_1 (r9_q_1 + 1) x2.toNatClampNeg), Zq_1)) else (
        some (.inl 5, Zq_1)))
abbrev rmX7_routeTrunk : Room := { frames := 8, cells := 3, slots := 18, locals := 125 }
set_option maxHeartbeats 4000000 in
set_option maxRecDepth 100000 in
theorem kX7_routeTrunk {l : Launch} {D : va_G} {dA : Nat → ClassId} {sa : String → Nat → Nat} {a : Nat → Nat} (hl : l.stackTraces = false) {x1 : Int32} {x2 : Int32} {Z Z' : ZZ} {o : Nat ⊕ Int32} (hX : sX7_routeTrunk x1 x2 Z = some (o, Z')) : CXi l D dA sa yX7_routeTrunk (wz yX7_routeTrunk cX7_routeTrunk 4 (some .int)) rmX7_routeTrunk [.ref (a 0), .int x1, .int x2] (cwC dA a Z) o (cwC dA a Z') := by
  refine xm_xi hl (by decide +kernel) (Nat.le_of_ble_eq_true rfl) rfl ?_
  intro p e s m args below meth c A Q hC hR hT hTw hTq hTqw hO
  unfold sX7_routeTrunk at hX
  show xv p l e rmX7_routeTrunk s m args below meth c D A 4 Q (cwC dA a Z) 0 0 0 [(0, .ref (a 0)), (1, .int x1), (2, .int x2)] []
  refine xv_aload_n (pc := 0) hC dX7_routeTrunk_0 0 rfl rfl ?_
  refine xv_iload_n (pc := 1) hC dX7_routeTrunk_1 1 rfl rfl ?_
  obtain ⟨q_1, hq_1, hX⟩ := bnd_some hX
  refine xv_callVxr0 (As := [.int x1]) (pc := 2) hC (kX7_needCall hl hq_1) fV_X7_needCall wf_1278 (rc_X7 (rfl : shC 0 = 1)) rfl ⟨Nat.le_of_ble_eq_true rfl, Nat.le_of_ble_eq_true rfl⟩ rfl (Nat.le_of_ble_eq_true rfl) dX7_routeTrunk_2 ⟨Nat.le_of_ble_eq_true rfl, Nat.le_of_ble_eq_true rfl⟩ (fun k9 hk9 => ?_) (fun r9 hk9 => ?_)
  · have h9 := thr_l hk9 hX
    have h8 : o = .inl k9 ∧ Z' = q_1.2 := ⟨congrArg Prod.fst h9, congrArg Prod.snd h9⟩
    rw [← h8.2]
    exact hO _ _ _ _ _ _ h8.1 (Nat.le_of_ble_eq_true rfl) (Nat.le_of_ble_eq_true rfl)
  · replace hX := thr_r hk9 hX
    revert hX hk9; revert r9; intro r9_q_1 hk9 hX
    generalize q_1.2 = Zq_1 at hX ⊢
    obtain ⟨hsq_1, hX⟩ := gd_some hX
    refine xv_astore_n (pc := 5) (lv' := [(3, .ref (a r9_q_1)), (0, .ref (a 0)), (1, .int x1), (2, .int x2)]) hC dX7_routeTrunk_5 rfl (by decide) rfl ?_
    refine xv_iload_n (pc := 6) hC dX7_routeTrunk_6 3 rfl rfl ?_
    refine xv_if_lt (tgt := 18) (pc := 7) hC dX7_routeTrunk_7 (by decide) (fun c_2 => ?_) (fun c_2 => ?_)
    · replace hX := if_t c_2 hX
      obtain ⟨h1, h2⟩ := some_pair hX
      exact xv_eqw (W := cwC dA a) h2 (hTqw _ _ 18 5 _ _ _ _ _ _ _ _ h1.symm ⟨dX7_routeTrunk_18, dX7_routeTrunk_21, dX7_routeTrunk_22, dX7_routeTrunk_25, dX7_routeTrunk_28⟩ tw_X7_240 (by decide +kernel : (_, 301, "the route has no such index") ∈ xe_S) (Nat.le_of_ble_eq_true rfl) (Nat.le_of_ble_eq_true rfl) (Nat.le_of_ble_eq_true rfl) (Nat.le_of_ble_eq_true rfl))
    · replace hX := if_f c_2 hX
      refine xv_iload_n (pc := 10) hC dX7_routeTrunk_10 3 rfl rfl ?_
      refine xv_aload_n (pc := 11) hC dX7_routeTrunk_11 0 rfl rfl ?_
      refine xgX1 (v := .int (gI Zq_1 r9_q_1 3)) (pc := 12) hC dX7_routeTrunk_12 hsq_1 3 (by decide) wf_107 rfl ?_
      refine xv_icmp_lt (tgt := 29) (pc := 15) hC dX7_routeTrunk_15 (by decide) (fun c_3 => ?_) (fun c_3 => ?_)
      · replace hX := if_t c_3 hX
        refine xv_aload_n (pc := 29) hC dX7_routeTrunk_29 0 rfl rfl ?_
        refine xgX1 (v := .ref (a (r9_q_1 + 1))) (pc := 30) hC dX7_routeTrunk_30 hsq_1 5 (by decide) wf_112 rfl ?_
        refine xv_iload_n (pc := 33) hC dX7_routeTrunk_33 3 rfl rfl ?_
        obtain ⟨h_4, hX⟩ := gd_some hX
        refine xl_C11 (pc := 34) hC dX7_routeTrunk_34 (sh_X1_route hsq_1) h_4 ?_
        obtain ⟨h1, h2⟩ := some_pair hX
        exact xv_eqw (W := cwC dA a) h2 (hR _ _ _ _ _ h1.symm (Nat.le_of_ble_eq_true rfl) (Nat.le_of_ble_eq_true rfl) dX7_routeTrunk_35)
      · replace hX := if_f c_3 hX
        obtain ⟨h1, h2⟩ := some_pair hX
        exact xv_eqw (W := cwC dA a) h2 (hTqw _ _ 18 5 _ _ _ _ _ _ _ _ h1.symm ⟨dX7_routeTrunk_18, dX7_routeTrunk_21, dX7_routeTrunk_22, dX7_routeTrunk_25, dX7_routeTrunk_28⟩ tw_X7_240 (by decide +kernel : (_, 301, "the route has no such index") ∈ xe_S) (Nat.le_of_ble_eq_true rfl) (Nat.le_of_ble_eq_true rfl) (Nat.le_of_ble_eq_true rfl) (Nat.le_of_ble_eq_true rfl))
def sX7_chargeNow (x1 : Int32) (Z : ZZ) : Option ((Nat ⊕ Int32) × ZZ) :=
  bnd (sX7_needCall x1 Z) <| fun q_1 =>
  thr q_1 <| fun r9_q_1 Zq_1 =>
    gd (shC r9_q_1 = 17) <|
    bnd (sX6_chargeOf 19 r9_q_1 Zq_1) <| fun q_2 =>
    some (.inr q_2.1, q_2.2)
abbrev rmX7_chargeNow : Room := { frames := 8, cells := 2, slots := 12, locals := 125 }
set_option maxHeartbeats 4000000 in
set_option maxRecDepth 100000 in
theorem kX7_chargeNow {l : Launch} {D : va_G} {dA : Nat → ClassId} {sa : String → Nat → Nat} {a : Nat → Nat} (hl : l.stackTraces = false) {x1 : Int32} {Z Z' : ZZ} {o : Nat ⊕ Int32} (hX : sX7_chargeNow x1 Z = some (o, Z')) : CXi l D dA sa yX7_chargeNow (wz yX7_chargeNow cX7_chargeNow 2 (some .int)) rmX7_chargeNow [.ref (a 0), .int x1] (cwC dA a Z) o (cwC dA a Z') := by
  refine xm_xi hl (by decide +kernel) (Nat.le_of_ble_eq_true rfl) rfl ?_
  intro p e s m args below meth c A Q hC hR hT hTw hTq hTqw hO
  unfold sX7_chargeNow at hX
  show xv p l e rmX7_chargeNow s m args below meth c D A 2 Q (cwC dA a Z) 0 0 0 [(0, .ref (a 0)), (1, .int x1)] []
  refine xv_aload_n (pc := 0) hC dX7_chargeNow_0 0 rfl rfl ?_
  refine xgX7 (v := .ref (a 19)) (pc := 1) hC dX7_chargeNow_1 (rfl : shC 0 = 1) 0 (by decide) wf_310 rfl ?_
  refine xv_aload_n (pc := 4) hC dX7_chargeNow_4 0 rfl rfl ?_
  refine xv_iload_n (pc := 5) hC dX7_chargeNow_5 1 rfl rfl ?_
  obtain ⟨q_1, hq_1, hX⟩ := bnd_some hX
  refine xv_callVxr0 (As := [.int x1]) (pc := 6) hC (kX7_needCall hl hq_1) fV_X7_needCall wf_1278 (rc_X7 (rfl : shC 0 = 1)) rfl ⟨Nat.le_of_ble_eq_true rfl, Nat.le_of_ble_eq_true rfl⟩ rfl (Nat.le_of_ble_eq_true rfl) dX7_chargeNow_6 ⟨Nat.le_of_ble_eq_true rfl, Nat.le_of_ble_eq_true rfl⟩ (fun k9 hk9 => ?_) (fun r9 hk9 => ?_)
  · have h9 := thr_l hk9 hX
    have h8 : o = .inl k9 ∧ Z' = q_1.2 := ⟨congrArg Prod.fst h9, congrArg Prod.snd h9⟩
    rw [← h8.2]
    exact hO _ _ _ _ _ _ h8.1 (Nat.le_of_ble_eq_true rfl) (Nat.le_of_ble_eq_true rfl)
  · replace hX := thr_r hk9 hX
    revert hX hk9; revert r9; intro r9_q_1 hk9 hX
    generalize q_1.2 = Zq_1 at hX ⊢
    obtain ⟨hsq_1, hX⟩ := gd_some hX
    obtain ⟨q_2, hq_2, hX⟩ := bnd_some hX
    refine xv_callVi0 (As := [.ref (a r9_q_1)]) (pc := 9) hC (kX6_chargeOf hl hq_2) fV_X6_chargeOf wf_1312 (rc_X6 (rfl : shC 19 = 13)) rfl ⟨Nat.le_of_ble_eq_true rfl, Nat.le_of_ble_eq_true rfl⟩ rfl (Nat.le_of_ble_eq_true rfl) dX7_chargeNow_9 ⟨Nat.le_of_ble_eq_true rfl, Nat.le_of_ble_eq_true rfl⟩ ?_
    obtain ⟨h1, h2⟩ := some_pair hX
    exact xv_eqw (W := cwC dA a) h2 (hR _ _ _ _ _ h1.symm (Nat.le_of_ble_eq_true rfl) (Nat.le_of_ble_eq_true rfl) dX7_chargeNow_12)
def sX7_calls (Z : ZZ) : Option (Int32 × ZZ) :=
  some (gI Z 19 5, Z)
abbrev rmX7_calls : Room := { frames := 0, cells := 0, slots := 0, locals := 0 }
set_option maxHeartbeats 4000000 in
set_option maxRecDepth 100000 in
theorem kX7_calls {l : Launch} {D : va_G} {dA : Nat → ClassId} {sa : String → Nat → Nat} {a : Nat → Nat} (hl : l.stackTraces = false) {Z Z' : ZZ} {v : Int32} (hX : sX7_calls Z = some (v, Z')) : CTi l D dA sa yX7_calls (wz yX7_calls cX7_calls 1 (some .int)) rmX7_calls [.ref (a 0)] (cwC dA a Z) v (cwC dA a Z') := by
  refine xm_i hl (by decide +kernel) (Nat.le_of_ble_eq_true rfl) rfl ?_
  intro p e s m args below meth c A Q hC hR
  unfold sX7_calls at hX
  show xv p l e rmX7_calls s m args below meth c D A 1 Q (cwC dA a Z) 0 0 0 [(0, .ref (a 0))] []
  refine xv_aload_n (pc := 0) hC dX7_calls_0 0 rfl rfl ?_
  refine xgX7 (v := .ref (a 19)) (pc := 1) hC dX7_calls_1 (rfl : shC 0 = 1) 0 (by decide) wf_310 rfl ?_
  refine xgX6 (v := .int (gI Z 19 5)) (pc := 4) hC dX7_calls_4 (rfl : shC 19 = 13) 5 (by decide) wf_136 rfl ?_
  obtain ⟨h1, h2⟩ := some_pair hX
  exact xv_eqi (W := cwC dA a) h1 h2 (hR _ _ _ _ (Nat.le_of_ble_eq_true rfl) (Nat.le_of_ble_eq_true rfl) dX7_calls_7)
def sX7_blockedCalls (Z : ZZ) : Option (Int32 × ZZ) :=
  some (gI Z 3 0, Z)
abbrev rmX7_blockedCalls : Room := { frames := 0, cells := 0, slots := 0, locals := 0 }
set_option maxHeartbeats 4000000 in
set_option maxRecDepth 100000 in
theorem kX7_blockedCalls {l : Launch} {D : va_G} {dA : Nat → ClassId} {sa : String → Nat → Nat} {a : Nat → Nat} (hl : l.stackTraces = false) {Z Z' : ZZ} {v : Int32} (hX : sX7_blockedCalls Z = some (v, Z')) : CTi l D dA sa yX7_blockedCalls (wz yX7_blockedCalls cX7_blockedCalls 1 (some .int)) rmX7_blockedCalls [.ref (a 0)] (cwC dA a Z) v (cwC dA a Z') := by
  refine xm_i hl (by decide +kernel) (Nat.le_of_ble_eq_true rfl) rfl ?_
  intro p e s m args below meth c A Q hC hR
  unfold sX7_blockedCalls at hX
  show xv p l e rmX7_blockedCalls s m args below meth c D A 1 Q (cwC dA a Z) 0 0 0 [(0, .ref (a 0))] []
  refine xv_aload_n (pc := 0) hC dX7_blockedCalls_0 0 rfl rfl ?_
  refine xgX7 (v := .ref (a 3)) (pc := 1) hC dX7_blockedCalls_1 (rfl : shC 0 = 1) 4 (by decide) wf_314 rfl ?_
  refine xgX0 (v := .int (gI Z 3 0)) (pc := 4) hC dX7_blockedCalls_4 (rfl : shC 3 = 4) 0 (by decide) wf_189 rfl ?_
  obtain ⟨h1, h2⟩ := some_pair hX
  exact xv_eqi (W := cwC dA a) h1 h2 (hR _ _ _ _ (Nat.le_of_ble_eq_true rfl) (Nat.le_of_ble_eq_true rfl) dX7_blockedCalls_7)
def sX7_needBlocked (x1 : Int32) (Z : ZZ) : Option ((Nat ⊕ Unit) × ZZ) :=
  if x1 < 0 then (
    some (.inl 5, Z)) else (
    if x1 < (gI Z 3 0) then (
      some (.inr (), Z)) else (
      some (.inl 5, Z)))
abbrev rmX7_needBlocked : Room := { frames := 6, cells := 1, slots := 6, locals := 82 }
set_option maxHeartbeats 4000000 in
set_option maxRecDepth 100000 in
theorem kX7_needBlocked {l : Launch} {D : va_G} {dA : Nat → ClassId} {sa : String → Nat → Nat} {a : Nat → Nat} (hl : l.stackTraces = false) {x1 : Int32} {Z Z' : ZZ} {o : Nat ⊕ Unit} (hX : sX7_needBlocked x1 Z = some (o, Z')) : CXv l D dA sa yX7_needBlocked (wz yX7_needBlocked cX7_needBlocked 2 none) rmX7_needBlocked [.ref (a 0), .int x1] (cwC dA a Z) o (cwC dA a Z') := by
  refine xm_xv hl (by decide +kernel) (Nat.le_of_ble_eq_true rfl) rfl ?_
  intro p e s m args below meth c A Q hC hR hT hTw hTq hTqw hO
  unfold sX7_needBlocked at hX
  show xv p l e rmX7_needBlocked s m args below meth c D A 2 Q (cwC dA a Z) 0 0 0 [(0, .ref (a 0)), (1, .int x1)] []
  refine xv_iload_n (pc := 0) hC dX7_needBlocked_0 1 rfl rfl ?_
  refine xv_if_lt (tgt := 15) (pc := 1) hC dX7_needBlocked_1 (by decide) (fun c_1 => ?_) (fun c_1 => ?_)
  · replace hX := if_t c_1 hX
    obtain ⟨h1, h2⟩ := some_pair hX
    exact xv_eqw (W := cwC dA a) h2 (hTqw _ _ 15 5 _ _ _ _ _ _ _ _ h1.symm ⟨dX7_needBlocked_15, dX7_needBlocked_18, dX7_needBlocked_19, dX7_needBlocked_22, dX7_needBlocked_25⟩ tw_X7_240 (by decide +kernel : (_, 333, "there is no such blocked call") ∈ xe_S) (Nat.le_of_ble_eq_true rfl) (Nat.le_of_ble_eq_true rfl) (Nat.le_of_ble_eq_true rfl) (Nat.le_of_ble_eq_true rfl))
  · replace hX := if_f c_1 hX
    refine xv_iload_n (pc := 4) hC dX7_needBlocked_4 1 rfl rfl ?_
    refine xv_aload_n (pc := 5) hC dX7_needBlocked_5 0 rfl rfl ?_
    refine xgX7 (v := .ref (a 3)) (pc := 6) hC dX7_needBlocked_6 (rfl : shC 0 = 1) 4 (by decide) wf_314 rfl ?_
    refine xgX0 (v := .int (gI Z 3 0)) (pc := 9) hC dX7_needBlocked_9 (rfl : shC 3 = 4) 0 (by decide) wf_189 rfl ?_
    refine xv_icmp_lt (tgt := 26) (pc := 12) hC dX7_needBlocked_12 (by decide) (fun c_2 => ?_) (fun c_2 => ?_)
    · replace hX := if_t c_2 hX
      obtain ⟨h1, h2⟩ := some_pair hX
      exact xv_eqw (W := cwC dA a) h2 (hR _ _ _ _ h1.symm (Nat.le_of_ble_eq_true rfl) (Nat.le_of_ble_eq_true rfl) dX7_needBlocked_26)
    · replace hX := if_f c_2 hX
      obtain ⟨h1, h2⟩ := some_pair hX
      exact xv_eqw (W := cwC dA a) h2 (hTqw _ _ 15 5 _ _ _ _ _ _ _ _ h1.symm ⟨dX7_needBlocked_15, dX7_needBlocked_18, dX7_needBlocked_19, dX7_needBlocked_22, dX7_needBlocked_25⟩ tw_X7_240 (by decide +kernel : (_, 333, "there is no such blocked call") ∈ xe_S) (Nat.le_of_ble_eq_true rfl) (Nat.le_of_ble_eq_true rfl) (Nat.le_of_ble_eq_true rfl) (Nat.le_of_ble_eq_true rfl))
def sX7_blockedCaller (x1 : Int32) (Z : ZZ) : Option ((Nat ⊕ Int32) × ZZ) :=
  bnd (sX7_needBlocked x1 Z) <| fun q_1 =>
  thr q_1 <| fun _ Zq_1 =>
    gd (vin x1 8 = true) <|
    some (.inr (gI Zq_1 4 x1.toNatClampNeg), Zq_1)
abbrev rmX7_blockedCaller : Room := { frames := 7, cells := 1, slots := 6, locals := 103 }
set_option maxHeartbeats 4000000 in
set_option maxRecDepth 100000 in
theorem kX7_blockedCaller {l : Launch} {D : va_G} {dA : Nat → ClassId} {sa : String → Nat → Nat} {a : Nat → Nat} (hl : l.stackTraces = false) {x1 : Int32} {Z Z' : ZZ} {o : Nat ⊕ Int32} (hX : sX7_blockedCaller x1 Z = some (o, Z')) : CXi l D dA sa yX7_blockedCaller (wz yX7_blockedCaller cX7_blockedCaller 2 (some .int)) rmX7_blockedCaller [.ref (a 0), .int x1] (cwC dA a Z) o (cwC dA a Z') := by
  refine xm_xi hl (by decide +kernel) (Nat.le_of_ble_eq_true rfl) rfl ?_
  intro p e s m args below meth c A Q hC hR hT hTw hTq hTqw hO
  unfold sX7_blockedCaller at hX
  show xv p l e rmX7_blockedCaller s m args below meth c D A 2 Q (cwC dA a Z) 0 0 0 [(0, .ref (a 0)), (1, .int x1)] []
  refine xv_aload_n (pc := 0) hC dX7_blockedCaller_0 0 rfl rfl ?_
  refine xv_iload_n (pc := 1) hC dX7_blockedCaller_1 1 rfl rfl ?_
  obtain ⟨q_1, hq_1, hX⟩ := bnd_some hX
  refine xv_callVxv0 (As := [.int x1]) (pc := 2) hC (kX7_needBlocked hl hq_1) fV_X7_needBlocked wf_1320 (rc_X7 (rfl : shC 0 = 1)) rfl ⟨Nat.le_of_ble_eq_true rfl, Nat.le_of_ble_eq_true rfl⟩ rfl (Nat.le_of_ble_eq_true rfl) dX7_blockedCaller_2 ⟨Nat.le_of_ble_eq_true rfl, Nat.le_of_ble_eq_true rfl⟩ (fun k9 hk9 => ?_) (fun hk9 => ?_)
  · have h9 := thr_l hk9 hX
    have h8 : o = .inl k9 ∧ Z' = q_1.2 := ⟨congrArg Prod.fst h9, congrArg Prod.snd h9⟩
    rw [← h8.2]
    exact hO _ _ _ _ _ _ h8.1 (Nat.le_of_ble_eq_true rfl) (Nat.le_of_ble_eq_true rfl)
  · replace hX := thr_r hk9 hX
    skip
    generalize q_1.2 = Zq_1 at hX ⊢
    refine xv_aload_n (pc := 5) hC dX7_blockedCaller_5 0 rfl rfl ?_
    refine xgX7 (v := .ref (a 3)) (pc := 6) hC dX7_blockedCaller_6 (rfl : shC 0 = 1) 4 (by decide) wf_314 rfl ?_
    refine xgX0 (v := .ref (a 4)) (pc := 9) hC dX7_blockedCaller_9 (rfl : shC 3 = 4) 1 (by decide) wf_191 rfl ?_
    refine xv_iload_n (pc := 12) hC dX7_blockedCaller_12 1 rfl rfl ?_
    obtain ⟨h_2, hX⟩ := gd_some hX
    refine xl_C5 (pc := 13) hC dX7_blockedCaller_13 (rfl : shC 4 = 5) h_2 ?_
    obtain ⟨h1, h2⟩ := some_pair hX
    exact xv_eqw (W := cwC dA a) h2 (hR _ _ _ _ _ h1.symm (Nat.le_of_ble_eq_true rfl) (Nat.le_of_ble_eq_true rfl) dX7_blockedCaller_14)
def sX7_blockedCallee (x1 : Int32) (Z : ZZ) : Option ((Nat ⊕ Int32) × ZZ) :=
  bnd (sX7_needBlocked x1 Z) <| fun q_1 =>
  thr q_1 <| fun _ Zq_1 =>
    gd (vin x1 8 = true) <|
    some (.inr (gI Zq_1 5 x1.toNatClampNeg), Zq_1)
abbrev rmX7_blockedCallee : Room := { frames := 7, cells := 1, slots := 6, locals := 103 }
set_option maxHeartbeats 4000000 in
set_option maxRecDepth 100000 in
theorem kX7_blockedCallee {l : Launch} {D : va_G} {dA : Nat → ClassId} {sa : String → Nat → Nat} {a : Nat → Nat} (hl : l.stackTraces = false) {x1 : Int32} {Z Z' : ZZ} {o : Nat ⊕ Int32} (hX : sX7_blockedCallee x1 Z = some (o, Z')) : CXi l D dA sa yX7_blockedCallee (wz yX7_blockedCallee cX7_blockedCallee 2 (some .int)) rmX7_blockedCallee [.ref (a 0), .int x1] (cwC dA a Z) o (cwC dA a Z') := by
  refine xm_xi hl (by decide +kernel) (Nat.le_of_ble_eq_true rfl) rfl ?_
  intro p e s m args below meth c A Q hC hR hT hTw hTq hTqw hO
  unfold sX7_blockedCallee at hX
  show xv p l e rmX7_blockedCallee s m args below meth c D A 2 Q (cwC dA a Z) 0 0 0 [(0, .ref (a 0)), (1, .int x1)] []
  refine xv_aload_n (pc := 0) hC dX7_blockedCallee_0 0 rfl rfl ?_
  refine xv_iload_n (pc := 1) hC dX7_blockedCallee_1 1 rfl rfl ?_
  obtain ⟨q_1, hq_1, hX⟩ := bnd_some hX
  refine xv_callVxv0 (As := [.int x1]) (pc := 2) hC (kX7_needBlocked hl hq_1) fV_X7_needBlocked wf_1320 (rc_X7 (rfl : shC 0 = 1)) rfl ⟨Nat.le_of_ble_eq_true rfl, Nat.le_of_ble_eq_true rfl⟩ rfl (Nat.le_of_ble_eq_true rfl) dX7_blockedCallee_2 ⟨Nat.le_of_ble_eq_true rfl, Nat.le_of_ble_eq_true rfl⟩ (fun k9 hk9 => ?_) (fun hk9 => ?_)
  · have h9 := thr_l hk9 hX
    have h8 : o = .inl k9 ∧ Z' = q_1.2 := ⟨congrArg Prod.fst h9, congrArg Prod.snd h9⟩
    rw [← h8.2]
    exact hO _ _ _ _ _ _ h8.1 (Nat.le_of_ble_eq_true rfl) (Nat.le_of_ble_eq_true rfl)
  · replace hX := thr_r hk9 hX
    skip
    generalize q_1.2 = Zq_1 at hX ⊢
    refine xv_aload_n (pc := 5) hC dX7_blockedCallee_5 0 rfl rfl ?_
    refine xgX7 (v := .ref (a 3)) (pc := 6) hC dX7_blockedCallee_6 (rfl : shC 0 = 1) 4 (by decide) wf_314 rfl ?_
    refine xgX0 (v := .ref (a 5)) (pc := 9) hC dX7_blockedCallee_9 (rfl : shC 3 = 4) 2 (by decide) wf_193 rfl ?_
    refine xv_iload_n (pc := 12) hC dX7_blockedCallee_12 1 rfl rfl ?_
    obtain ⟨h_2, hX⟩ := gd_some hX
    refine xl_C5 (pc := 13) hC dX7_blockedCallee_13 (rfl : shC 5 = 5) h_2 ?_
    obtain ⟨h1, h2⟩ := some_pair hX
    exact xv_eqw (W := cwC dA a) h2 (hR _ _ _ _ _ h1.symm (Nat.le_of_ble_eq_true rfl) (Nat.le_of_ble_eq_true rfl) dX7_blockedCallee_14)
def sX7_blockedReason (x1 : Int32) (Z : ZZ) : Option ((Nat ⊕ Int32) × ZZ) :=
  bnd (sX7_needBlocked x1 Z) <| fun q_1 =>
  thr q_1 <| fun _ Zq_1 =>
    gd (vin x1 8 = true) <|
    gd (nch (gI Zq_1 6 x1.toNatClampNeg) = true) <|
    some (.inr (gI Zq_1 6 x1.toNatClampNeg), Zq_1)
abbrev rmX7_blockedReason : Room := { frames := 7, cells := 1, slots := 6, locals := 103 }
set_option maxHeartbeats 4000000 in
set_option maxRecDepth 100000 in
theorem kX7_blockedReason {l : Launch} {D : va_G} {dA : Nat → ClassId} {sa : String → Nat → Nat} {a : Nat → Nat} (hl : l.stackTraces = false) {x1 : Int32} {Z Z' : ZZ} {o : Nat ⊕ Int32} (hX : sX7_blockedReason x1 Z = some (o, Z')) : CXi l D dA sa yX7_blockedReason (wz yX7_blockedReason cX7_blockedReason 2 (some .char)) rmX7_blockedReason [.ref (a 0), .int x1] (cwC dA a Z) o (cwC dA a Z') := by
  refine xm_xz hl (by decide +kernel) (Nat.le_of_ble_eq_true rfl) rfl ?_
  intro p e s m args below meth c A Q hC hR hT hTw hTq hTqw hO
  unfold sX7_blockedReason at hX
  show xv p l e rmX7_blockedReason s m args below meth c D A 2 Q (cwC dA a Z) 0 0 0 [(0, .ref (a 0)), (1, .int x1)] []
  refine xv_aload_n (pc := 0) hC dX7_blockedReason_0 0 rfl rfl ?_
  refine xv_iload_n (pc := 1) hC dX7_blockedReason_1 1 rfl rfl ?_
  obtain ⟨q_1, hq_1, hX⟩ := bnd_some hX
  refine xv_callVxv0 (As := [.int x1]) (pc := 2) hC (kX7_needBlocked hl hq_1) fV_X7_needBlocked wf_1320 (rc_X7 (rfl : shC 0 = 1)) rfl ⟨Nat.le_of_ble_eq_true rfl, Nat.le_of_ble_eq_true rfl⟩ rfl (Nat.le_of_ble_eq_true rfl) dX7_blockedReason_2 ⟨Nat.le_of_ble_eq_true rfl, Nat.le_of_ble_eq_true rfl⟩ (fun k9 hk9 => ?_) (fun hk9 => ?_)
  · have h9 := thr_l hk9 hX
    have h8 : o = .inl k9 ∧ Z' = q_1.2 := ⟨congrArg Prod.fst h9, congrArg Prod.snd h9⟩
    rw [← h8.2]
    exact hO _ _ _ _ _ _ h8.1 (Nat.le_of_ble_eq_true rfl) (Nat.le_of_ble_eq_true rfl)
  · replace hX := thr_r hk9 hX
    skip
    generalize q_1.2 = Zq_1 at hX ⊢
    refine xv_aload_n (pc := 5) hC dX7_blockedReason_5 0 rfl rfl ?_
    refine xgX7 (v := .ref (a 3)) (pc := 6) hC dX7_blockedReason_6 (rfl : shC 0 = 1) 4 (by decide) wf_314 rfl ?_
    refine xgX0 (v := .ref (a 6)) (pc := 9) hC dX7_blockedReason_9 (rfl : shC 3 = 4) 3 (by decide) wf_195 rfl ?_
    refine xv_iload_n (pc := 12) hC dX7_blockedReason_12 1 rfl rfl ?_
    obtain ⟨h_2, hX⟩ := gd_some hX
    refine xl_C6 (pc := 13) hC dX7_blockedReason_13 (rfl : shC 6 = 6) h_2 ?_
    obtain ⟨h_3, hX⟩ := gd_some hX
    obtain ⟨h1, h2⟩ := some_pair hX
    exact xv_eqw (W := cwC dA a) h2 (hR _ _ _ _ _ h1.symm (nch_n h_3) (Nat.le_of_ble_eq_true rfl) (Nat.le_of_ble_eq_true rfl) dX7_blockedReason_14)
def sX7_totalBills (Z : ZZ) : Option (Int64 × ZZ) :=
  bnd (sX6_sumOfBills 19 Z) <| fun q_1 =>
  some (q_1.1, q_1.2)
abbrev rmX7_totalBills : Room := { frames := 1, cells := 0, slots := 0, locals := 23 }
set_option maxHeartbeats 4000000 in
set_option maxRecDepth 100000 in
theorem kX7_totalBills {l : Launch} {D : va_G} {dA : Nat → ClassId} {sa : String → Nat → Nat} {a : Nat → Nat} (hl : l.stackTraces = false) {Z Z' : ZZ} {v : Int64} (hX : sX7_totalBills Z = some (v, Z')) : CTl l D dA sa yX7_totalBills (wz yX7_totalBills cX7_totalBills 1 (some .long)) rmX7_totalBills [.ref (a 0)] (cwC dA a Z) v (cwC dA a Z') := by
  refine xm_l hl (by decide +kernel) (Nat.le_of_ble_eq_true rfl) rfl ?_
  intro p e s m args below meth c A Q hC hR
  unfold sX7_totalBills at hX
  show xv p l e rmX7_totalBills s m args below meth c D A 1 Q (cwC dA a Z) 0 0 0 [(0, .ref (a 0))] []
  refine xv_aload_n (pc := 0) hC dX7_totalBills_0 0 rfl rfl ?_
  refine xgX7 (v := .ref (a 19)) (pc := 1) hC dX7_totalBills_1 (rfl : shC 0 = 1) 0 (by decide) wf_310 rfl ?_
  obtain ⟨q_1, hq_1, hX⟩ := bnd_some hX
  refine xv_callVl0 (As := []) (pc := 4) hC (kX6_sumOfBills hl hq_1) fV_X6_sumOfBills wf_368 (rc_X6 (rfl : shC 19 = 13)) rfl ⟨Nat.le_of_ble_eq_true rfl, Nat.le_of_ble_eq_true rfl⟩ rfl (Nat.le_of_ble_eq_true rfl) dX7_totalBills_4 ⟨Nat.le_of_ble_eq_true rfl, Nat.le_of_ble_eq_true rfl⟩ ?_
  obtain ⟨h1, h2⟩ := some_pair hX
  exact xv_eql (W := cwC dA a) h1 h2 (hR _ _ _ _ (Nat.le_of_ble_eq_true rfl) (Nat.le_of_ble_eq_true rfl) dX7_totalBills_7)
def sX7_totalCharges (Z : ZZ) : Option (Int64 × ZZ) :=
  some (gL Z 19, Z)
abbrev rmX7_totalCharges : Room := { frames := 0, cells := 0, slots := 0, locals := 0 }
set_option maxHeartbeats 4000000 in
set_option maxRecDepth 100000 in
theorem kX7_totalCharges {l : Launch} {D : va_G} {dA : Nat → ClassId} {sa : String → Nat → Nat} {a : Nat → Nat} (hl : l.stackTraces = false) {Z Z' : ZZ} {v : Int64} (hX : sX7_totalCharges Z = some (v, Z')) : CTl l D dA sa yX7_totalCharges (wz yX7_totalCharges cX7_totalCharges 1 (some .long)) rmX7_totalCharges [.ref (a 0)] (cwC dA a Z) v (cwC dA a Z') := by
  refine xm_l hl (by decide +kernel) (Nat.le_of_ble_eq_true rfl) rfl ?_
  intro p e s m args below meth c A Q hC hR
  unfold sX7_totalCharges at hX
  show xv p l e rmX7_totalCharges s m args below meth c D A 1 Q (cwC dA a Z) 0 0 0 [(0, .ref (a 0))] []
  refine xv_aload_n (pc := 0) hC dX7_totalCharges_0 0 rfl rfl ?_
  refine xgX7 (v := .ref (a 19)) (pc := 1) hC dX7_totalCharges_1 (rfl : shC 0 = 1) 0 (by decide) wf_310 rfl ?_
  refine xgX6 (v := .long (gL Z 19)) (pc := 4) hC dX7_totalCharges_4 (rfl : shC 19 = 13) 7 (by decide) wf_140 rfl ?_
  obtain ⟨h1, h2⟩ := some_pair hX
  exact xv_eql (W := cwC dA a) h1 h2 (hR _ _ _ _ (Nat.le_of_ble_eq_true rfl) (Nat.le_of_ble_eq_true rfl) dX7_totalCharges_7)
def sX7_subscriberByBill_L2 (x1 : Int32) : Nat → Int32 → ZZ → Option ((Nat ⊕ Int32) × ZZ)
  | 0, _, _ => none
  | n + 1, y2, Z =>
  if (gI Z 19 1) ≤ y2 then (
    some (.inl 5, Z)) else (
    bnd (sX6_rankOf 19 y2 Z) <| fun q_2 =>
    if q_2.1 = x1 then (
      some (.inr y2, q_2.2)) else (
      nm (y2 + 1) <| fun y_4 =>
      sX7_subscriberByBill_L2 x1 n y_4 q_2.2))
def sX7_subscriberByBill (x1 : Int32) (Z : ZZ) : Option ((Nat ⊕ Int32) × ZZ) :=
  sX7_subscriberByBill_L2 x1 3000 0 Z
abbrev rmX7_subscriberByBill : Room := { frames := 6, cells := 1, slots := 6, locals := 82 }
set_option maxHeartbeats 4000000 in
set_option maxRecDepth 100000 in
theorem kX7_subscriberByBill {l : Launch} {D : va_G} {dA : Nat → ClassId} {sa : String → Nat → Nat} {a : Nat → Nat} (hl : l.stackTraces = false) {x1 : Int32} {Z Z' : ZZ} {o : Nat ⊕ Int32} (hX : sX7_subscriberByBill x1 Z = some (o, Z')) : CXi l D dA sa yX7_subscriberByBill (wz yX7_subscriberByBill cX7_subscriberByBill 3 (some .int)) rmX7_subscriberByBill [.ref (a 0), .int x1] (cwC dA a Z) o (cwC dA a Z') := by
  refine xm_xi hl (by decide +kernel) (Nat.le_of_ble_eq_true rfl) rfl ?_
  intro p e s m args below meth c A Q hC hR hT hTw hTq hTqw hO
  unfold sX7_subscriberByBill at hX
  have v2 : ∀ (n : Nat) (y2 : Int32) (Z : ZZ), sX7_subscriberByBill_L2 x1 n y2 Z = some (o, Z') → xv p l e rmX7_subscriberByBill s m args below meth c D A 3 Q (cwC dA a Z) 0 0 2 [(0, .ref (a 0)), (1, .int x1), (2, .int y2)] [] := by
    intro n
    induction n with
    | zero =>
      intro y2 Z hX
      exact absurd hX (by simp [sX7_subscriberByBill_L2])
    | succ n ih =>
      intro y2 Z hX
      rw [sX7_subscriberByBill_L2] at hX
      refine xv_iload_n (pc := 2) hC dX7_subscriberByBill_2 2 rfl rfl ?_
      refine xv_aload_n (pc := 3) hC dX7_subscriberByBill_3 0 rfl rfl ?_
      refine xgX7 (v := .ref (a 19)) (pc := 4) hC dX7_subscriberByBill_4 (rfl : shC 0 = 1) 0 (by decide) wf_310 rfl ?_
      refine xgX6 (v := .int (gI Z 19 1)) (pc := 7) hC dX7_subscriberByBill_7 (rfl : shC 19 = 13) 1 (by decide) wf_129 rfl ?_
      refine xv_icmp_ge (tgt := 33) (pc := 10) hC dX7_subscriberByBill_10 (by decide) (fun c_1 => ?_) (fun c_1 => ?_)
      · replace hX := if_t c_1 hX
        obtain ⟨h1, h2⟩ := some_pair hX
        exact xv_eqw (W := cwC dA a) h2 (hTqw _ _ 33 5 _ _ _ _ _ _ _ _ h1.symm ⟨dX7_subscriberByBill_33, dX7_subscriberByBill_36, dX7_subscriberByBill_37, dX7_subscriberByBill_40, dX7_subscriberByBill_43⟩ tw_X7_240 (by decide +kernel : (_, 346, "there is no such rank") ∈ xe_S) (Nat.le_of_ble_eq_true rfl) (Nat.le_of_ble_eq_true rfl) (Nat.le_of_ble_eq_true rfl) (Nat.le_of_ble_eq_true rfl))
      · replace hX := if_f c_1 hX
        refine xv_aload_n (pc := 13) hC dX7_subscriberByBill_13 0 rfl rfl ?_
        refine xgX7 (v := .ref (a 19)) (pc := 14) hC dX7_subscriberByBill_14 (rfl : shC 0 = 1) 0 (by decide) wf_310 rfl ?_
        refine xv_iload_n (pc := 17) hC dX7_subscriberByBill_17 2 rfl rfl ?_
        obtain ⟨q_2, hq_2, hX⟩ := bnd_some hX
        refine xv_callVi0 (As := [.int y2]) (pc := 18) hC (kX6_rankOf hl hq_2) fV_X6_rankOf wf_1346 (rc_X6 (rfl : shC 19 = 13)) rfl ⟨Nat.le_of_ble_eq_true rfl, Nat.le_of_ble_eq_true rfl⟩ rfl (Nat.le_of_ble_eq_true rfl) dX7_subscriberByBill_18 ⟨Nat.le_of_ble_eq_true rfl, Nat.le_of_ble_eq_true rfl⟩ ?_
        refine xv_iload_n (pc := 21) hC dX7_subscriberByBill_21 1 rfl rfl ?_
        refine xv_icmp_ne (tgt := 27) (pc := 22) hC dX7_subscriberByBill_22 (by decide) (fun c_3 => ?_) (fun c_3 => ?_)
        · replace hX := if_f c_3 hX
          obtain ⟨y_4, hy_4, hX⟩ := nm_some hX
          refine xv_iinc (pc := 27) (v := y_4) (lv' := [(2, .int y_4), (0, .ref (a 0)), (1, .int x1)]) hC dX7_subscriberByBill_27 2 rfl (by rw [hy_4]; rfl) (by decide) rfl ?_
          refine xv_goto (tgt := 2) (pc := 30) hC dX7_subscriberByBill_30 (by decide) ?_
          refine xv_sub (lv' := [(0, .ref (a 0)), (1, .int x1), (2, .int y_4)]) [1, 2, 0] rfl ?_
          exact ih y_4 q_2.2 hX
        · replace hX := if_t c_3 hX
          refine xv_iload_n (pc := 25) hC dX7_subscriberByBill_25 2 rfl rfl ?_
          obtain ⟨h1, h2⟩ := some_pair hX
          exact xv_eqw (W := cwC dA a) h2 (hR _ _ _ _ _ h1.symm (Nat.le_of_ble_eq_true rfl) (Nat.le_of_ble_eq_true rfl) dX7_subscriberByBill_26)
  show xv p l e rmX7_subscriberByBill s m args below meth c D A 3 Q (cwC dA a Z) 0 0 0 [(0, .ref (a 0)), (1, .int x1)] []
  refine xv_iconst (v := 0) (pc := 0) hC dX7_subscriberByBill_0 (by decide) ?_
  refine xv_istore_n (pc := 1) (lv' := [(2, .int 0), (0, .ref (a 0)), (1, .int x1)]) hC dX7_subscriberByBill_1 rfl (by decide) rfl ?_
  refine xv_sub (lv' := [(0, .ref (a 0)), (1, .int x1), (2, .int 0)]) [1, 2, 0] rfl ?_
  exact v2 3000 0 Z hX
def sX7_isConsistent (Z : ZZ) : Option (Int32 × ZZ) :=
  bnd (sX6_freeTrunks 19 Z) <| fun q_1 =>
  bnd (sX5_agreesWithItself (19 + 1) q_1.1 q_1.2) <| fun q_2 =>
  if q_2.1 = 0 then (
    some (0, q_2.2)) else (
    bnd (sX6_sumOfBills 19 q_2.2) <| fun q_4 =>
    if (lg_cmp q_4.1 (gL q_4.2 19)) = 0 then (
      bnd (sX6_sharesNoTrunk 19 q_4.2) <| fun q_6 =>
      if q_6.1 = 0 then (
        some (0, q_6.2)) else (
        some (1, q_6.2))) else (
      some (0, q_4.2)))
abbrev rmX7_isConsistent : Room := { frames := 4, cells := 0, slots := 0, locals := 102 }
set_option maxHeartbeats 4000000 in
set_option maxRecDepth 100000 in
theorem kX7_isConsistent {l : Launch} {D : va_G} {dA : Nat → ClassId} {sa : String → Nat → Nat} {a : Nat → Nat} (hl : l.stackTraces = false) {Z Z' : ZZ} {v : Int32} (hX : sX7_isConsistent Z = some (v, Z')) : CTi l D dA sa yX7_isConsistent (wz yX7_isConsistent cX7_isConsistent 1 (some .boolean)) rmX7_isConsistent [.ref (a 0)] (cwC dA a Z) v (cwC dA a Z') := by
  refine xm_z hl (by decide +kernel) (Nat.le_of_ble_eq_true rfl) rfl ?_
  intro p e s m args below meth c A Q hC hR
  unfold sX7_isConsistent at hX
  show xv p l e rmX7_isConsistent s m args below meth c D A 1 Q (cwC dA a Z) 0 0 0 [(0, .ref (a 0))] []
  refine xv_aload_n (pc := 0) hC dX7_isConsistent_0 0 rfl rfl ?_
  refine xgX7 (v := .ref (a 13)) (pc := 1) hC dX7_isConsistent_1 (rfl : shC 0 = 1) 6 (by decide) wf_316 rfl ?_
  refine xv_aload_n (pc := 4) hC dX7_isConsistent_4 0 rfl rfl ?_
  refine xgX7 (v := .ref (a 19)) (pc := 5) hC dX7_isConsistent_5 (rfl : shC 0 = 1) 0 (by decide) wf_310 rfl ?_
  refine xgX6 (v := .ref (a (19 + 1))) (pc := 8) hC dX7_isConsistent_8 (rfl : shC 19 = 13) 0 (by decide) wf_127 rfl ?_
  refine xv_aload_n (pc := 11) hC dX7_isConsistent_11 0 rfl rfl ?_
  refine xgX7 (v := .ref (a 19)) (pc := 12) hC dX7_isConsistent_12 (rfl : shC 0 = 1) 0 (by decide) wf_310 rfl ?_
  obtain ⟨q_1, hq_1, hX⟩ := bnd_some hX
  refine xv_callVi0 (As := []) (pc := 15) hC (kX6_freeTrunks hl hq_1) fV_X6_freeTrunks wf_380 (rc_X6 (rfl : shC 19 = 13)) rfl ⟨Nat.le_of_ble_eq_true rfl, Nat.le_of_ble_eq_true rfl⟩ rfl (Nat.le_of_ble_eq_true rfl) dX7_isConsistent_15 ⟨Nat.le_of_ble_eq_true rfl, Nat.le_of_ble_eq_true rfl⟩ ?_
  obtain ⟨q_2, hq_2, hX⟩ := bnd_some hX
  refine xv_callVi0 (As := [.ref (a (19 + 1)), .int q_1.1]) (pc := 18) hC (kX5_agreesWithItself hl hq_2) fV_X5_agreesWithItself wf_399 (rc_X5 (rfl : shC 13 = 10)) rfl ⟨Nat.le_of_ble_eq_true rfl, Nat.le_of_ble_eq_true rfl⟩ rfl (Nat.le_of_ble_eq_true rfl) dX7_isConsistent_18 ⟨Nat.le_of_ble_eq_true rfl, Nat.le_of_ble_eq_true rfl⟩ ?_
  refine xv_if_eq (tgt := 56) (pc := 21) hC dX7_isConsistent_21 (by decide) (fun c_3 => ?_) (fun c_3 => ?_)
  · replace hX := if_t c_3 hX
    refine xv_iconst (v := 0) (pc := 56) hC dX7_isConsistent_56 (by decide) ?_
    obtain ⟨h1, h2⟩ := some_pair hX
    exact xv_eqi (W := cwC dA a) h1 h2 (hR _ _ _ _ (by rw [← h1]; exact (by decide)) (Nat.le_of_ble_eq_true rfl) (Nat.le_of_ble_eq_true rfl) dX7_isConsistent_57)
  · replace hX := if_f c_3 hX
    refine xv_aload_n (pc := 24) hC dX7_isConsistent_24 0 rfl rfl ?_
    refine xgX7 (v := .ref (a 19)) (pc := 25) hC dX7_isConsistent_25 (rfl : shC 0 = 1) 0 (by decide) wf_310 rfl ?_
    obtain ⟨q_4, hq_4, hX⟩ := bnd_some hX
    refine xv_callVl0 (As := []) (pc := 28) hC (kX6_sumOfBills hl hq_4) fV_X6_sumOfBills wf_368 (rc_X6 (rfl : shC 19 = 13)) rfl ⟨Nat.le_of_ble_eq_true rfl, Nat.le_of_ble_eq_true rfl⟩ rfl (Nat.le_of_ble_eq_true rfl) dX7_isConsistent_28 ⟨Nat.le_of_ble_eq_true rfl, Nat.le_of_ble_eq_true rfl⟩ ?_
    refine xv_aload_n (pc := 31) hC dX7_isConsistent_31 0 rfl rfl ?_
    refine xgX7 (v := .ref (a 19)) (pc := 32) hC dX7_isConsistent_32 (rfl : shC 0 = 1) 0 (by decide) wf_310 rfl ?_
    refine xgX6 (v := .long (gL q_4.2 19)) (pc := 35) hC dX7_isConsistent_35 (rfl : shC 19 = 13) 7 (by decide) wf_140 rfl ?_
    refine xv_lcmp (pc := 38) hC dX7_isConsistent_38 ?_
    refine xv_if_ne (tgt := 56) (pc := 39) hC dX7_isConsistent_39 (by decide) (fun c_5 => ?_) (fun c_5 => ?_)
    · replace hX := if_f c_5 hX
      refine xv_iconst (v := 0) (pc := 56) hC dX7_isConsistent_56 (by decide) ?_
      obtain ⟨h1, h2⟩ := some_pair hX
      exact xv_eqi (W := cwC dA a) h1 h2 (hR _ _ _ _ (by rw [← h1]; exact (by decide)) (Nat.le_of_ble_eq_true rfl) (Nat.le_of_ble_eq_true rfl) dX7_isConsistent_57)
    · replace hX := if_t c_5 hX
      refine xv_aload_n (pc := 42) hC dX7_isConsistent_42 0 rfl rfl ?_
      refine xgX7 (v := .ref (a 19)) (pc := 43) hC dX7_isConsistent_43 (rfl : shC 0 = 1) 0 (by decide) wf_310 rfl ?_
      obtain ⟨q_6, hq_6, hX⟩ := bnd_some hX
      refine xv_callVi0 (As := []) (pc := 46) hC (kX6_sharesNoTrunk hl hq_6) fV_X6_sharesNoTrunk wf_477 (rc_X6 (rfl : shC 19 = 13)) rfl ⟨Nat.le_of_ble_eq_true rfl, Nat.le_of_ble_eq_true rfl⟩ rfl (Nat.le_of_ble_eq_true rfl) dX7_isConsistent_46 ⟨Nat.le_of_ble_eq_true rfl, Nat.le_of_ble_eq_true rfl⟩ ?_
      refine xv_if_eq (tgt := 56) (pc := 49) hC dX7_isConsistent_49 (by decide) (fun c_7 => ?_) (fun c_7 => ?_)
      · replace hX := if_t c_7 hX
        refine xv_iconst (v := 0) (pc := 56) hC dX7_isConsistent_56 (by decide) ?_
        obtain ⟨h1, h2⟩ := some_pair hX
        exact xv_eqi (W := cwC dA a) h1 h2 (hR _ _ _ _ (by rw [← h1]; exact (by decide)) (Nat.le_of_ble_eq_true rfl) (Nat.le_of_ble_eq_true rfl) dX7_isConsistent_57)
      · replace hX := if_f c_7 hX
        refine xv_iconst (v := 1) (pc := 52) hC dX7_isConsistent_52 (by decide) ?_
        refine xv_goto (tgt := 57) (pc := 53) hC dX7_isConsistent_53 (by decide) ?_
        obtain ⟨h1, h2⟩ := some_pair hX
        exact xv_eqi (W := cwC dA a) h1 h2 (hR _ _ _ _ (by rw [← h1]; exact (by decide)) (Nat.le_of_ble_eq_true rfl) (Nat.le_of_ble_eq_true rfl) dX7_isConsistent_57)
def sX7_type (x1 : Int32) (Z : ZZ) : Option ((Nat ⊕ Int32) × ZZ) :=
  if (gI Z 7 1) < 60 then (
    bnd (sX4_append x1 Z) <| fun q_2 =>
    some (.inr q_2.1, q_2.2)) else (
    some (.inl 3, Z))
abbrev rmX7_type : Room := { frames := 6, cells := 1, slots := 6, locals := 82 }
set_option maxHeartbeats 4000000 in
set_option maxRecDepth 100000 in
theorem kX7_type {l : Launch} {D : va_G} {dA : Nat → ClassId} {sa : String → Nat → Nat} {a : Nat → Nat} (hl : l.stackTraces = false) {x1 : Int32} {Z Z' : ZZ} {o : Nat ⊕ Int32} (hX : sX7_type x1 Z = some (o, Z')) : CXi l D dA sa yX7_type (wz yX7_type cX7_type 2 (some .int)) rmX7_type [.ref (a 0), .int x1] (cwC dA a Z) o (cwC dA a Z') := by
  refine xm_xi hl (by decide +kernel) (Nat.le_of_ble_eq_true rfl) rfl ?_
  intro p e s m args below meth c A Q hC hR hT hTw hTq hTqw hO
  unfold sX7_type at hX
  show xv p l e rmX7_type s m args below meth c D A 2 Q (cwC dA a Z) 0 0 0 [(0, .ref (a 0)), (1, .int x1)] []
  refine xv_aload_n (pc := 0) hC dX7_type_0 0 rfl rfl ?_
  refine xgX7 (v := .ref (a 7)) (pc := 1) hC dX7_type_1 (rfl : shC 0 = 1) 5 (by decide) wf_315 rfl ?_
  refine xgX4 (v := .int (gI Z 7 1)) (pc := 4) hC dX7_type_4 (rfl : shC 7 = 7) 1 (by decide) wf_214 rfl ?_
  refine xv_bipush (v := 60) (pc := 7) hC dX7_type_7 (by decide) ?_
  refine xv_icmp_lt (tgt := 23) (pc := 9) hC dX7_type_9 (by decide) (fun c_1 => ?_) (fun c_1 => ?_)
  · replace hX := if_t c_1 hX
    refine xv_aload_n (pc := 23) hC dX7_type_23 0 rfl rfl ?_
    refine xgX7 (v := .ref (a 7)) (pc := 24) hC dX7_type_24 (rfl : shC 0 = 1) 5 (by decide) wf_315 rfl ?_
    refine xv_iload_n (pc := 27) hC dX7_type_27 1 rfl rfl ?_
    obtain ⟨q_2, hq_2, hX⟩ := bnd_some hX
    refine xv_callVi0 (As := [.int x1]) (pc := 28) hC (kX4_append hl hq_2) fV_X4_append wf_1419 (rc_X4 (rfl : shC 7 = 7)) rfl ⟨Nat.le_of_ble_eq_true rfl, Nat.le_of_ble_eq_true rfl⟩ rfl (Nat.le_of_ble_eq_true rfl) dX7_type_28 ⟨Nat.le_of_ble_eq_true rfl, Nat.le_of_ble_eq_true rfl⟩ ?_
    obtain ⟨h1, h2⟩ := some_pair hX
    exact xv_eqw (W := cwC dA a) h2 (hR _ _ _ _ _ h1.symm (Nat.le_of_ble_eq_true rfl) (Nat.le_of_ble_eq_true rfl) dX7_type_31)
  · replace hX := if_f c_1 hX
    obtain ⟨h1, h2⟩ := some_pair hX
    exact xv_eqw (W := cwC dA a) h2 (hTw _ _ 12 3 _ _ _ _ _ _ h1.symm ⟨dX7_type_12, dX7_type_15, dX7_type_16, dX7_type_19, dX7_type_22⟩ tw_X7_102 (by decide +kernel : (_, 410, "the program buffer is full") ∈ xe_S) (Nat.le_of_ble_eq_true rfl) (Nat.le_of_ble_eq_true rfl) (Nat.le_of_ble_eq_true rfl) (Nat.le_of_ble_eq_true rfl))
def sX7_performProgram_L2 : Nat → Int32 → ZZ → Option (Int32 × ZZ)
  | 0, _, _ => none
  | n + 1, y1, Z =>
  if (gI Z 7 2) ≤ y1 then (
    some ((-1), Z)) else (
    gd (vin y1 13 = true) <|
    nm (gI Z 9 y1.toNatClampNeg) <| fun y_3 =>
    gd (vin y1 13 = true) <|
    nm (gI Z 10 y1.toNatClampNeg) <| fun y_5 =>
    gd (vin y1 13 = true) <|
    nm (gI Z 11 y1.toNatClampNeg) <| fun y_7 =>
    gd (vin y1 13 = true) <|
    nm (gI Z 12 y1.toNatClampNeg) <| fun y_9 =>
    bnd (sX7_problemOf y_3 y_5 y_7 y_9 Z) <| fun q_10 =>
    if q_10.1 = 0 then (
      bnd (sX7_perform y_3 y_5 y_7 y_9 q_10.2) <| fun q_12 =>
      nm (y1 + 1) <| fun y_13 =>
      sX7_performProgram_L2 n y_13 q_12.2) else (
      some (y1, q_10.2)))
def sX7_performProgram (Z : ZZ) : Option (Int32 × ZZ) :=
  sX7_performProgram_L2 3000 0 Z
abbrev rmX7_performProgram : Room := { frames := 6, cells := 0, slots := 0, locals := 174 }
set_option maxHeartbeats 4000000 in
set_option maxRecDepth 100000 in
theorem kX7_performProgram {l : Launch} {D : va_G} {dA : Nat → ClassId} {sa : String → Nat → Nat} {a : Nat → Nat} (hl : l.stackTraces = false) {Z Z' : ZZ} {v : Int32} (hX : sX7_performProgram Z = some (v, Z')) : CTi l D dA sa yX7_performProgram (wz yX7_performProgram cX7_performProgram 6 (some .int)) rmX7_performProgram [.ref (a 0)] (cwC dA a Z) v (cwC dA a Z') := by
  refine xm_i hl (by decide +kernel) (Nat.le_of_ble_eq_true rfl) rfl ?_
  intro p e s m args below meth c A Q hC hR
  unfold sX7_performProgram at hX
  have v2 : ∀ (n : Nat) (y1 : Int32) (Z : ZZ), sX7_performProgram_L2 n y1 Z = some (v, Z') → xv p l e rmX7_performProgram s m args below meth c D A 6 Q (cwC dA a Z) 0 0 2 [(0, .ref (a 0)), (1, .int y1)] [] := by
    intro n
    induction n with
    | zero =>
      intro y1 Z hX
      exact absurd hX (by simp [sX7_performProgram_L2])
    | succ n ih =>
      intro y1 Z hX
      rw [sX7_performProgram_L2] at hX
      refine xv_iload_n (pc := 2) hC dX7_performProgram_2 1 rfl rfl ?_
      refine xv_aload_n (pc := 3) hC dX7_performProgram_3 0 rfl rfl ?_
      refine xgX7 (v := .ref (a 7)) (pc := 4) hC dX7_performProgram_4 (rfl : shC 0 = 1) 5 (by decide) wf_315 rfl ?_
      refine xgX4 (v := .int (gI Z 7 2)) (pc := 7) hC dX7_performProgram_7 (rfl : shC 7 = 7) 2 (by decide) wf_216 rfl ?_
      refine xv_icmp_ge (tgt := 87) (pc := 10) hC dX7_performProgram_10 (by decide) (fun c_1 => ?_) (fun c_1 => ?_)
      · replace hX := if_t c_1 hX
        refine xv_iconst (v := (-1)) (pc := 87) hC dX7_performProgram_87 (by decide) ?_
        obtain ⟨h1, h2⟩ := some_pair hX
        exact xv_eqi (W := cwC dA a) h1 h2 (hR _ _ _ _ (Nat.le_of_ble_eq_true rfl) (Nat.le_of_ble_eq_true rfl) dX7_performProgram_88)
      · replace hX := if_f c_1 hX
        refine xv_aload_n (pc := 13) hC dX7_performProgram_13 0 rfl rfl ?_
        refine xgX7 (v := .ref (a 7)) (pc := 14) hC dX7_performProgram_14 (rfl : shC 0 = 1) 5 (by decide) wf_315 rfl ?_
        refine xgX4 (v := .ref (a 9)) (pc := 17) hC dX7_performProgram_17 (rfl : shC 7 = 7) 3 (by decide) wf_218 rfl ?_
        refine xv_iload_n (pc := 20) hC dX7_performProgram_20 1 rfl rfl ?_
        obtain ⟨h_2, hX⟩ := gd_some hX
        refine xl_C9 (pc := 21) hC dX7_performProgram_21 (rfl : shC 9 = 9) h_2 ?_
        obtain ⟨y_3, hy_3, hX⟩ := nm_some hX
        refine xv_nmi hy_3 ?_
        refine xv_istore_n (pc := 22) (lv' := [(2, .int y_3), (0, .ref (a 0)), (1, .int y1)]) hC dX7_performProgram_22 rfl (by decide) rfl ?_
        refine xv_aload_n (pc := 23) hC dX7_performProgram_23 1 rfl rfl ?_
        refine xgX7 (v := .ref (a 7)) (pc := 24) hC dX7_performProgram_24 (rfl : shC 0 = 1) 5 (by decide) wf_315 rfl ?_
        refine xgX4 (v := .ref (a 10)) (pc := 27) hC dX7_performProgram_27 (rfl : shC 7 = 7) 4 (by decide) wf_220 rfl ?_
        refine xv_iload_n (pc := 30) hC dX7_performProgram_30 2 rfl rfl ?_
        obtain ⟨h_4, hX⟩ := gd_some hX
        refine xl_C9 (pc := 31) hC dX7_performProgram_31 (rfl : shC 10 = 9) h_4 ?_
        obtain ⟨y_5, hy_5, hX⟩ := nm_some hX
        refine xv_nmi hy_5 ?_
        refine xv_istore_n (pc := 32) (lv' := [(3, .int y_5), (2, .int y_3), (0, .ref (a 0)), (1, .int y1)]) hC dX7_performProgram_32 rfl (by decide) rfl ?_
        refine xv_aload_n (pc := 33) hC dX7_performProgram_33 2 rfl rfl ?_
        refine xgX7 (v := .ref (a 7)) (pc := 34) hC dX7_performProgram_34 (rfl : shC 0 = 1) 5 (by decide) wf_315 rfl ?_
        refine xgX4 (v := .ref (a 11)) (pc := 37) hC dX7_performProgram_37 (rfl : shC 7 = 7) 5 (by decide) wf_222 rfl ?_
        refine xv_iload_n (pc := 40) hC dX7_performProgram_40 3 rfl rfl ?_
        obtain ⟨h_6, hX⟩ := gd_some hX
        refine xl_C9 (pc := 41) hC dX7_performProgram_41 (rfl : shC 11 = 9) h_6 ?_
        obtain ⟨y_7, hy_7, hX⟩ := nm_some hX
        refine xv_nmi hy_7 ?_
        refine xv_istore (pc := 42) (lv' := [(4, .int y_7), (3, .int y_5), (2, .int y_3), (0, .ref (a 0)), (1, .int y1)]) hC dX7_performProgram_42 (by decide) rfl ?_
        refine xv_aload_n (pc := 44) hC dX7_performProgram_44 3 rfl rfl ?_
        refine xgX7 (v := .ref (a 7)) (pc := 45) hC dX7_performProgram_45 (rfl : shC 0 = 1) 5 (by decide) wf_315 rfl ?_
        refine xgX4 (v := .ref (a 12)) (pc := 48) hC dX7_performProgram_48 (rfl : shC 7 = 7) 6 (by decide) wf_224 rfl ?_
        refine xv_iload_n (pc := 51) hC dX7_performProgram_51 4 rfl rfl ?_
        obtain ⟨h_8, hX⟩ := gd_some hX
        refine xl_C9 (pc := 52) hC dX7_performProgram_52 (rfl : shC 12 = 9) h_8 ?_
        obtain ⟨y_9, hy_9, hX⟩ := nm_some hX
        refine xv_nmi hy_9 ?_
        refine xv_istore (pc := 53) (lv' := [(5, .int y_9), (4, .int y_7), (3, .int y_5), (2, .int y_3), (0, .ref (a 0)), (1, .int y1)]) hC dX7_performProgram_53 (by decide) rfl ?_
        refine xv_aload_n (pc := 55) hC dX7_performProgram_55 4 rfl rfl ?_
        refine xv_iload_n (pc := 56) hC dX7_performProgram_56 3 rfl rfl ?_
        refine xv_iload_n (pc := 57) hC dX7_performProgram_57 2 rfl rfl ?_
        refine xv_iload (pc := 58) hC dX7_performProgram_58 1 rfl ?_
        refine xv_iload (pc := 60) hC dX7_performProgram_60 0 rfl ?_
        obtain ⟨q_10, hq_10, hX⟩ := bnd_some hX
        refine xv_callVi0 (As := [.int y_3, .int y_5, .int y_7, .int y_9]) (pc := 62) hC (kX7_problemOf hl hq_10) fV_X7_problemOf wf_889 (rc_X7 (rfl : shC 0 = 1)) rfl ⟨Nat.le_of_ble_eq_true rfl, Nat.le_of_ble_eq_true rfl⟩ rfl (Nat.le_of_ble_eq_true rfl) dX7_performProgram_62 ⟨Nat.le_of_ble_eq_true rfl, Nat.le_of_ble_eq_true rfl⟩ ?_
        refine xv_if_eq (tgt := 70) (pc := 65) hC dX7_performProgram_65 (by decide) (fun c_11 => ?_) (fun c_11 => ?_)
        · replace hX := if_t c_11 hX
          refine xv_aload_n (pc := 70) hC dX7_performProgram_70 4 rfl rfl ?_
          refine xv_iload_n (pc := 71) hC dX7_performProgram_71 3 rfl rfl ?_
          refine xv_iload_n (pc := 72) hC dX7_performProgram_72 2 rfl rfl ?_
          refine xv_iload (pc := 73) hC dX7_performProgram_73 1 rfl ?_
          refine xv_iload (pc := 75) hC dX7_performProgram_75 0 rfl ?_
          obtain ⟨q_12, hq_12, hX⟩ := bnd_some hX
          refine xv_callVi0 (As := [.int y_3, .int y_5, .int y_7, .int y_9]) (pc := 77) hC (kX7_perform hl hq_12) fV_X7_perform wf_1012 (rc_X7 (rfl : shC 0 = 1)) rfl ⟨Nat.le_of_ble_eq_true rfl, Nat.le_of_ble_eq_true rfl⟩ rfl (Nat.le_of_ble_eq_true rfl) dX7_performProgram_77 ⟨Nat.le_of_ble_eq_true rfl, Nat.le_of_ble_eq_true rfl⟩ ?_
          refine xv_pop (pc := 80) hC dX7_performProgram_80 rfl ?_
          obtain ⟨y_13, hy_13, hX⟩ := nm_some hX
          refine xv_iinc (pc := 81) (v := y_13) (lv' := [(1, .int y_13), (5, .int y_9), (4, .int y_7), (3, .int y_5), (2, .int y_3), (0, .ref (a 0))]) hC dX7_performProgram_81 5 rfl (by rw [hy_13]; rfl) (by decide) rfl ?_
          refine xv_goto (tgt := 2) (pc := 84) hC dX7_performProgram_84 (by decide) ?_
          refine xv_sub (lv' := [(0, .ref (a 0)), (1, .int y_13)]) [5, 0] rfl ?_
          exact ih y_13 q_12.2 hX
        · replace hX := if_f c_11 hX
          refine xv_iload_n (pc := 68) hC dX7_performProgram_68 5 rfl rfl ?_
          obtain ⟨h1, h2⟩ := some_pair hX
          exact xv_eqi (W := cwC dA a) h1 h2 (hR _ _ _ _ (Nat.le_of_ble_eq_true rfl) (Nat.le_of_ble_eq_true rfl) dX7_performProgram_69)
  show xv p l e rmX7_performProgram s m args below meth c D A 6 Q (cwC dA a Z) 0 0 0 [(0, .ref (a 0))] []
  refine xv_iconst (v := 0) (pc := 0) hC dX7_performProgram_0 (by decide) ?_
  refine xv_istore_n (pc := 1) (lv' := [(1, .int 0), (0, .ref (a 0))]) hC dX7_performProgram_1 rfl (by decide) rfl ?_
  refine xv_sub (lv' := [(0, .ref (a 0)), (1, .int 0)]) [1, 0] rfl ?_
  exact v2 3000 0 Z hX
def sX7_run (Z : ZZ) : Option ((Nat ⊕ Int32) × ZZ) :=
  bnd (sX4_parse Z) <| fun q_1 =>
  nm (q_1.1) <| fun y_2 =>
  if y_2 = (-1) then (
    bnd (sX6_copyFrom 59 19 q_1.2) <| fun q_4 =>
    bnd (sX7_performProgram q_4) <| fun q_5 =>
    nm (q_5.1) <| fun y_6 =>
    if y_6 = (-1) then (
      bnd (sX2_keep 59 q_5.2) <| fun q_8 =>
      some (.inr (gI q_8 7 2), q_8)) else (
      bnd (sX6_copyFrom 19 59 q_5.2) <| fun q_9 =>
      nm (pI q_9 0 10 y_6) <| fun Z_10 =>
      some (.inl 4, Z_10))) else (
    nm (pI q_1.2 0 9 y_2) <| fun Z_11 =>
    some (.inl 2, Z_11))
abbrev rmX7_run : Room := { frames := 7, cells := 1, slots := 6, locals := 199 }
set_option maxHeartbeats 4000000 in
set_option maxRecDepth 100000 in
theorem kX7_run {l : Launch} {D : va_G} {dA : Nat → ClassId} {sa : String → Nat → Nat} {a : Nat → Nat} (hl : l.stackTraces = false) {Z Z' : ZZ} {o : Nat ⊕ Int32} (hX : sX7_run Z = some (o, Z')) : CXi l D dA sa yX7_run (wz yX7_run cX7_run 3 (some .int)) rmX7_run [.ref (a 0)] (cwC dA a Z) o (cwC dA a Z') := by
  refine xm_xi hl (by decide +kernel) (Nat.le_of_ble_eq_true rfl) rfl ?_
  intro p e s m args below meth c A Q hC hR hT hTw hTq hTqw hO
  unfold sX7_run at hX
  show xv p l e rmX7_run s m args below meth c D A 3 Q (cwC dA a Z) 0 0 0 [(0, .ref (a 0))] []
  refine xv_aload_n (pc := 0) hC dX7_run_0 0 rfl rfl ?_
  refine xgX7 (v := .ref (a 7)) (pc := 1) hC dX7_run_1 (rfl : shC 0 = 1) 5 (by decide) wf_315 rfl ?_
  obtain ⟨q_1, hq_1, hX⟩ := bnd_some hX
  refine xv_callVi0 (As := []) (pc := 4) hC (kX4_parse hl hq_1) fV_X4_parse wf_1430 (rc_X4 (rfl : shC 7 = 7)) rfl ⟨Nat.le_of_ble_eq_true rfl, Nat.le_of_ble_eq_true rfl⟩ rfl (Nat.le_of_ble_eq_true rfl) dX7_run_4 ⟨Nat.le_of_ble_eq_true rfl, Nat.le_of_ble_eq_true rfl⟩ ?_
  obtain ⟨y_2, hy_2, hX⟩ := nm_some hX
  refine xv_nmi hy_2 ?_
  refine xv_istore_n (pc := 7) (lv' := [(1, .int y_2), (0, .ref (a 0))]) hC dX7_run_7 rfl (by decide) rfl ?_
  refine xv_iload_n (pc := 8) hC dX7_run_8 0 rfl rfl ?_
  refine xv_iconst (v := (-1)) (pc := 9) hC dX7_run_9 (by decide) ?_
  refine xv_icmp_eq (tgt := 29) (pc := 10) hC dX7_run_10 (by decide) (fun c_3 => ?_) (fun c_3 => ?_)
  · replace hX := if_t c_3 hX
    refine xv_aload_n (pc := 29) hC dX7_run_29 1 rfl rfl ?_
    refine xgX7 (v := .ref (a 59)) (pc := 30) hC dX7_run_30 (rfl : shC 0 = 1) 2 (by decide) wf_312 rfl ?_
    refine xv_aload_n (pc := 33) hC dX7_run_33 1 rfl rfl ?_
    refine xgX7 (v := .ref (a 19)) (pc := 34) hC dX7_run_34 (rfl : shC 0 = 1) 0 (by decide) wf_310 rfl ?_
    obtain ⟨q_4, hq_4, hX⟩ := bnd_some hX
    refine xv_callVv0 (As := [.ref (a 19)]) (pc := 37) hC (kX6_copyFrom hl hq_4) fV_X6_copyFrom wf_858 (rc_X6 (rfl : shC 59 = 13)) rfl ⟨Nat.le_of_ble_eq_true rfl, Nat.le_of_ble_eq_true rfl⟩ rfl (Nat.le_of_ble_eq_true rfl) dX7_run_37 ⟨Nat.le_of_ble_eq_true rfl, Nat.le_of_ble_eq_true rfl⟩ ?_
    refine xv_aload_n (pc := 40) hC dX7_run_40 1 rfl rfl ?_
    obtain ⟨q_5, hq_5, hX⟩ := bnd_some hX
    refine xv_callVi0 (As := []) (pc := 41) hC (kX7_performProgram hl hq_5) fV_X7_performProgram wf_1502 (rc_X7 (rfl : shC 0 = 1)) rfl ⟨Nat.le_of_ble_eq_true rfl, Nat.le_of_ble_eq_true rfl⟩ rfl (Nat.le_of_ble_eq_true rfl) dX7_run_41 ⟨Nat.le_of_ble_eq_true rfl, Nat.le_of_ble_eq_true rfl⟩ ?_
    obtain ⟨y_6, hy_6, hX⟩ := nm_some hX
    refine xv_nmi hy_6 ?_
    refine xv_istore_n (pc := 44) (lv' := [(2, .int y_6), (1, .int y_2), (0, .ref (a 0))]) hC dX7_run_44 rfl (by decide) rfl ?_
    refine xv_iload_n (pc := 45) hC dX7_run_45 0 rfl rfl ?_
    refine xv_iconst (v := (-1)) (pc := 46) hC dX7_run_46 (by decide) ?_
    refine xv_icmp_eq (tgt := 77) (pc := 47) hC dX7_run_47 (by decide) (fun c_7 => ?_) (fun c_7 => ?_)
    · replace hX := if_t c_7 hX
      refine xv_aload_n (pc := 77) hC dX7_run_77 2 rfl rfl ?_
      refine xgX7 (v := .ref (a 1)) (pc := 78) hC dX7_run_78 (rfl : shC 0 = 1) 3 (by decide) wf_313 rfl ?_
      refine xv_aload_n (pc := 81) hC dX7_run_81 2 rfl rfl ?_
      refine xgX7 (v := .ref (a 59)) (pc := 82) hC dX7_run_82 (rfl : shC 0 = 1) 2 (by decide) wf_312 rfl ?_
      obtain ⟨q_8, hq_8, hX⟩ := bnd_some hX
      refine xv_callVv0 (As := [.ref (a 59)]) (pc := 85) hC (kX2_keep hl hq_8) fV_X2_keep wf_1006 (rc_X2 (rfl : shC 1 = 2)) rfl ⟨Nat.le_of_ble_eq_true rfl, Nat.le_of_ble_eq_true rfl⟩ rfl (Nat.le_of_ble_eq_true rfl) dX7_run_85 ⟨Nat.le_of_ble_eq_true rfl, Nat.le_of_ble_eq_true rfl⟩ ?_
      refine xv_aload_n (pc := 88) hC dX7_run_88 2 rfl rfl ?_
      refine xgX7 (v := .ref (a 7)) (pc := 89) hC dX7_run_89 (rfl : shC 0 = 1) 5 (by decide) wf_315 rfl ?_
      refine xgX4 (v := .int (gI q_8 7 2)) (pc := 92) hC dX7_run_92 (rfl : shC 7 = 7) 2 (by decide) wf_216 rfl ?_
      obtain ⟨h1, h2⟩ := some_pair hX
      exact xv_eqw (W := cwC dA a) h2 (hR _ _ _ _ _ h1.symm (Nat.le_of_ble_eq_true rfl) (Nat.le_of_ble_eq_true rfl) dX7_run_95)
    · replace hX := if_f c_7 hX
      refine xv_aload_n (pc := 50) hC dX7_run_50 2 rfl rfl ?_
      refine xgX7 (v := .ref (a 19)) (pc := 51) hC dX7_run_51 (rfl : shC 0 = 1) 0 (by decide) wf_310 rfl ?_
      refine xv_aload_n (pc := 54) hC dX7_run_54 2 rfl rfl ?_
      refine xgX7 (v := .ref (a 59)) (pc := 55) hC dX7_run_55 (rfl : shC 0 = 1) 2 (by decide) wf_312 rfl ?_
      obtain ⟨q_9, hq_9, hX⟩ := bnd_some hX
      refine xv_callVv0 (As := [.ref (a 59)]) (pc := 58) hC (kX6_copyFrom hl hq_9) fV_X6_copyFrom wf_858 (rc_X6 (rfl : shC 19 = 13)) rfl ⟨Nat.le_of_ble_eq_true rfl, Nat.le_of_ble_eq_true rfl⟩ rfl (Nat.le_of_ble_eq_true rfl) dX7_run_58 ⟨Nat.le_of_ble_eq_true rfl, Nat.le_of_ble_eq_true rfl⟩ ?_
      refine xv_aload_n (pc := 61) hC dX7_run_61 2 rfl rfl ?_
      refine xv_iload_n (pc := 62) hC dX7_run_62 0 rfl rfl ?_
      obtain ⟨Z_10, hZ_10, hX⟩ := nm_some hX
      refine xpX7 (ty := .int) (pc := 63) hC dX7_run_63 (rfl : shC 0 = 1) 10 (by decide) wf_320 rfl (by decide +kernel) rfl rfl rfl hZ_10 ?_
      obtain ⟨h1, h2⟩ := some_pair hX
      exact xv_eqw (W := cwC dA a) h2 (hTw _ _ 66 4 _ _ _ _ _ _ h1.symm ⟨dX7_run_66, dX7_run_69, dX7_run_70, dX7_run_73, dX7_run_76⟩ tw_X7_107 (by decide +kernel : (_, 426, "a command of the program failed") ∈ xe_S) (Nat.le_of_ble_eq_true rfl) (Nat.le_of_ble_eq_true rfl) (Nat.le_of_ble_eq_true rfl) (Nat.le_of_ble_eq_true rfl))
  · replace hX := if_f c_3 hX
    refine xv_aload_n (pc := 13) hC dX7_run_13 1 rfl rfl ?_
    refine xv_iload_n (pc := 14) hC dX7_run_14 0 rfl rfl ?_
    obtain ⟨Z_11, hZ_11, hX⟩ := nm_some hX
    refine xpX7 (ty := .int) (pc := 15) hC dX7_run_15 (rfl : shC 0 = 1) 9 (by decide) wf_319 rfl (by decide +kernel) rfl rfl rfl hZ_11 ?_
    obtain ⟨h1, h2⟩ := some_pair hX
    exact xv_eqw (W := cwC dA a) h2 (hTw _ _ 18 2 _ _ _ _ _ _ h1.symm ⟨dX7_run_18, dX7_run_21, dX7_run_22, dX7_run_25, dX7_run_28⟩ tw_X7_97 (by decide +kernel : (_, 418, "the text is not a program") ∈ xe_S) (Nat.le_of_ble_eq_true rfl) (Nat.le_of_ble_eq_true rfl) (Nat.le_of_ble_eq_true rfl) (Nat.le_of_ble_eq_true rfl))
def sX7_errorPosition (Z : ZZ) : Option ((Nat ⊕ Int32) × ZZ) :=
  if (gI Z 0 9) = (-1) then (
    some (.inl 5, Z)) else (
    some (.inr (gI Z 0 9), Z))
abbrev rmX7_errorPosition : Room := { frames := 6, cells := 1, slots := 6, locals := 82 }
set_option maxHeartbeats 4000000 in
set_option maxRecDepth 100000 in
theorem kX7_errorPosition {l : Launch} {D : va_G} {dA : Nat → ClassId} {sa : String → Nat → Nat} {a : Nat → Nat} (hl : l.stackTraces = false) {Z Z' : ZZ} {o : Nat ⊕ Int32} (hX : sX7_errorPosition Z = some (o, Z')) : CXi l D dA sa yX7_errorPosition (wz yX7_errorPosition cX7_errorPosition 1 (some .int)) rmX7_errorPosition [.ref (a 0)] (cwC dA a Z) o (cwC dA a Z') := by
  refine xm_xi hl (by decide +kernel) (Nat.le_of_ble_eq_true rfl) rfl ?_
  intro p e s m args below meth c A Q hC hR hT hTw hTq hTqw hO
  unfold sX7_errorPosition at hX
  show xv p l e rmX7_errorPosition s m args below meth c D A 1 Q (cwC dA a Z) 0 0 0 [(0, .ref (a 0))] []
  refine xv_aload_n (pc := 0) hC dX7_errorPosition_0 0 rfl rfl ?_
  refine xgX7 (v := .int (gI Z 0 9)) (pc := 1) hC dX7_errorPosition_1 (rfl : shC 0 = 1) 9 (by decide) wf_319 rfl ?_
  refine xv_iconst (v := (-1)) (pc := 4) hC dX7_errorPosition_4 (by decide) ?_
  refine xv_icmp_ne (tgt := 19) (pc := 5) hC dX7_errorPosition_5 (by decide) (fun c_1 => ?_) (fun c_1 => ?_)
  · replace hX := if_f c_1 hX
    refine xv_aload_n (pc := 19) hC dX7_errorPosition_19 0 rfl rfl ?_
    refine xgX7 (v := .int (gI Z 0 9)) (pc := 20) hC dX7_errorPosition_20 (rfl : shC 0 = 1) 9 (by decide) wf_319 rfl ?_
    obtain ⟨h1, h2⟩ := some_pair hX
    exact xv_eqw (W := cwC dA a) h2 (hR _ _ _ _ _ h1.symm (Nat.le_of_ble_eq_true rfl) (Nat.le_of_ble_eq_true rfl) dX7_errorPosition_23)
  · replace hX := if_t c_1 hX
    obtain ⟨h1, h2⟩ := some_pair hX
    exact xv_eqw (W := cwC dA a) h2 (hTqw _ _ 8 5 _ _ _ _ _ _ _ _ h1.symm ⟨dX7_errorPosition_8, dX7_errorPosition_11, dX7_errorPosition_12, dX7_errorPosition_15, dX7_errorPosition_18⟩ tw_X7_240 (by decide +kernel : (_, 431, "every text was a program") ∈ xe_S) (Nat.le_of_ble_eq_true rfl) (Nat.le_of_ble_eq_true rfl) (Nat.le_of_ble_eq_true rfl) (Nat.le_of_ble_eq_true rfl))
def sX7_failedCommand (Z : ZZ) : Option ((Nat ⊕ Int32) × ZZ) :=
  if (gI Z 0 10) = (-1) then (
    some (.inl 5, Z)) else (
    some (.inr (gI Z 0 10), Z))
abbrev rmX7_failedCommand : Room := { frames := 6, cells := 1, slots := 6, locals := 82 }
set_option maxHeartbeats 4000000 in
set_option maxRecDepth 100000 in
theorem kX7_failedCommand {l : Launch} {D : va_G} {dA : Nat → ClassId} {sa : String → Nat → Nat} {a : Nat → Nat} (hl : l.stackTraces = false) {Z Z' : ZZ} {o : Nat ⊕ Int32} (hX : sX7_failedCommand Z = some (o, Z')) : CXi l D dA sa yX7_failedCommand (wz yX7_failedCommand cX7_failedCommand 1 (some .int)) rmX7_failedCommand [.ref (a 0)] (cwC dA a Z) o (cwC dA a Z') := by
  refine xm_xi hl (by decide +kernel) (Nat.le_of_ble_eq_true rfl) rfl ?_
  intro p e s m args below meth c A Q hC hR hT hTw hTq hTqw hO
  unfold sX7_failedCommand at hX
  show xv p l e rmX7_failedCommand s m args below meth c D A 1 Q (cwC dA a Z) 0 0 0 [(0, .ref (a 0))] []
  refine xv_aload_n (pc := 0) hC dX7_failedCommand_0 0 rfl rfl ?_
  refine xgX7 (v := .int (gI Z 0 10)) (pc := 1) hC dX7_failedCommand_1 (rfl : shC 0 = 1) 10 (by decide) wf_320 rfl ?_
  refine xv_iconst (v := (-1)) (pc := 4) hC dX7_failedCommand_4 (by decide) ?_
  refine xv_icmp_ne (tgt := 19) (pc := 5) hC dX7_failedCommand_5 (by decide) (fun c_1 => ?_) (fun c_1 => ?_)
  · replace hX := if_f c_1 hX
    refine xv_aload_n (pc := 19) hC dX7_failedCommand_19 0 rfl rfl ?_
    refine xgX7 (v := .int (gI Z 0 10)) (pc := 20) hC dX7_failedCommand_20 (rfl : shC 0 = 1) 10 (by decide) wf_320 rfl ?_
    obtain ⟨h1, h2⟩ := some_pair hX
    exact xv_eqw (W := cwC dA a) h2 (hR _ _ _ _ _ h1.symm (Nat.le_of_ble_eq_true rfl) (Nat.le_of_ble_eq_true rfl) dX7_failedCommand_23)
  · replace hX := if_t c_1 hX
    obtain ⟨h1, h2⟩ := some_pair hX
    exact xv_eqw (W := cwC dA a) h2 (hTqw _ _ 8 5 _ _ _ _ _ _ _ _ h1.symm ⟨dX7_failedCommand_8, dX7_failedCommand_11, dX7_failedCommand_12, dX7_failedCommand_15, dX7_failedCommand_18⟩ tw_X7_240 (by decide +kernel : (_, 433, "no command failed") ∈ xe_S) (Nat.le_of_ble_eq_true rfl) (Nat.le_of_ble_eq_true rfl) (Nat.le_of_ble_eq_true rfl) (Nat.le_of_ble_eq_true rfl))
def sX7_undo (Z : ZZ) : Option ((Nat ⊕ Int32) × ZZ) :=
  if (gI Z 1 0) = 0 then (
    some (.inl 3, Z)) else (
    bnd (sX2_takeBack 19 Z) <| fun q_2 =>
    some (.inr (gI q_2 1 0), q_2))
abbrev rmX7_undo : Room := { frames := 6, cells := 1, slots := 6, locals := 145 }
set_option maxHeartbeats 4000000 in
set_option maxRecDepth 100000 in
theorem kX7_undo {l : Launch} {D : va_G} {dA : Nat → ClassId} {sa : String → Nat → Nat} {a : Nat → Nat} (hl : l.stackTraces = false) {Z Z' : ZZ} {o : Nat ⊕ Int32} (hX : sX7_undo Z = some (o, Z')) : CXi l D dA sa yX7_undo (wz yX7_undo cX7_undo 1 (some .int)) rmX7_undo [.ref (a 0)] (cwC dA a Z) o (cwC dA a Z') := by
  refine xm_xi hl (by decide +kernel) (Nat.le_of_ble_eq_true rfl) rfl ?_
  intro p e s m args below meth c A Q hC hR hT hTw hTq hTqw hO
  unfold sX7_undo at hX
  show xv p l e rmX7_undo s m args below meth c D A 1 Q (cwC dA a Z) 0 0 0 [(0, .ref (a 0))] []
  refine xv_aload_n (pc := 0) hC dX7_undo_0 0 rfl rfl ?_
  refine xgX7 (v := .ref (a 1)) (pc := 1) hC dX7_undo_1 (rfl : shC 0 = 1) 3 (by decide) wf_313 rfl ?_
  refine xgX2 (v := .int (gI Z 1 0)) (pc := 4) hC dX7_undo_4 (rfl : shC 1 = 2) 0 (by decide) wf_172 rfl ?_
  refine xv_if_ne (tgt := 21) (pc := 7) hC dX7_undo_7 (by decide) (fun c_1 => ?_) (fun c_1 => ?_)
  · replace hX := if_f c_1 hX
    refine xv_aload_n (pc := 21) hC dX7_undo_21 0 rfl rfl ?_
    refine xgX7 (v := .ref (a 1)) (pc := 22) hC dX7_undo_22 (rfl : shC 0 = 1) 3 (by decide) wf_313 rfl ?_
    refine xv_aload_n (pc := 25) hC dX7_undo_25 0 rfl rfl ?_
    refine xgX7 (v := .ref (a 19)) (pc := 26) hC dX7_undo_26 (rfl : shC 0 = 1) 0 (by decide) wf_310 rfl ?_
    obtain ⟨q_2, hq_2, hX⟩ := bnd_some hX
    refine xv_callVv0 (As := [.ref (a 19)]) (pc := 29) hC (kX2_takeBack hl hq_2) fV_X2_takeBack wf_1531 (rc_X2 (rfl : shC 1 = 2)) rfl ⟨Nat.le_of_ble_eq_true rfl, Nat.le_of_ble_eq_true rfl⟩ rfl (Nat.le_of_ble_eq_true rfl) dX7_undo_29 ⟨Nat.le_of_ble_eq_true rfl, Nat.le_of_ble_eq_true rfl⟩ ?_
    refine xv_aload_n (pc := 32) hC dX7_undo_32 0 rfl rfl ?_
    refine xgX7 (v := .ref (a 1)) (pc := 33) hC dX7_undo_33 (rfl : shC 0 = 1) 3 (by decide) wf_313 rfl ?_
    refine xgX2 (v := .int (gI q_2 1 0)) (pc := 36) hC dX7_undo_36 (rfl : shC 1 = 2) 0 (by decide) wf_172 rfl ?_
    obtain ⟨h1, h2⟩ := some_pair hX
    exact xv_eqw (W := cwC dA a) h2 (hR _ _ _ _ _ h1.symm (Nat.le_of_ble_eq_true rfl) (Nat.le_of_ble_eq_true rfl) dX7_undo_39)
  · replace hX := if_t c_1 hX
    obtain ⟨h1, h2⟩ := some_pair hX
    exact xv_eqw (W := cwC dA a) h2 (hTw _ _ 10 3 _ _ _ _ _ _ h1.symm ⟨dX7_undo_10, dX7_undo_13, dX7_undo_14, dX7_undo_17, dX7_undo_20⟩ tw_X7_102 (by decide +kernel : (_, 448, "no change can be undone") ∈ xe_S) (Nat.le_of_ble_eq_true rfl) (Nat.le_of_ble_eq_true rfl) (Nat.le_of_ble_eq_true rfl) (Nat.le_of_ble_eq_true rfl))
def sX7_save (Z : ZZ) : Option (Int32 × ZZ) :=
  bnd (sX6_copyFrom 39 19 Z) <| fun q_1 =>
  nm (pI q_1 0 8 1) <| fun Z_2 =>
  some (gI Z_2 19 1, Z_2)
abbrev rmX7_save : Room := { frames := 4, cells := 0, slots := 0, locals := 124 }
set_option maxHeartbeats 4000000 in
set_option maxRecDepth 100000 in
theorem kX7_save {l : Launch} {D : va_G} {dA : Nat → ClassId} {sa : String → Nat → Nat} {a : Nat → Nat} (hl : l.stackTraces = false) {Z Z' : ZZ} {v : Int32} (hX : sX7_save Z = some (v, Z')) : CTi l D dA sa yX7_save (wz yX7_save cX7_save 1 (some .int)) rmX7_save [.ref (a 0)] (cwC dA a Z) v (cwC dA a Z') := by
  refine xm_i hl (by decide +kernel) (Nat.le_of_ble_eq_true rfl) rfl ?_
  intro p e s m args below meth c A Q hC hR
  unfold sX7_save at hX
  show xv p l e rmX7_save s m args below meth c D A 1 Q (cwC dA a Z) 0 0 0 [(0, .ref (a 0))] []
  refine xv_aload_n (pc := 0) hC dX7_save_0 0 rfl rfl ?_
  refine xgX7 (v := .ref (a 39)) (pc := 1) hC dX7_save_1 (rfl : shC 0 = 1) 1 (by decide) wf_311 rfl ?_
  refine xv_aload_n (pc := 4) hC dX7_save_4 0 rfl rfl ?_
  refine xgX7 (v := .ref (a 19)) (pc := 5) hC dX7_save_5 (rfl : shC 0 = 1) 0 (by decide) wf_310 rfl ?_
  obtain ⟨q_1, hq_1, hX⟩ := bnd_some hX
  refine xv_callVv0 (As := [.ref (a 19)]) (pc := 8) hC (kX6_copyFrom hl hq_1) fV_X6_copyFrom wf_858 (rc_X6 (rfl : shC 39 = 13)) rfl ⟨Nat.le_of_ble_eq_true rfl, Nat.le_of_ble_eq_true rfl⟩ rfl (Nat.le_of_ble_eq_true rfl) dX7_save_8 ⟨Nat.le_of_ble_eq_true rfl, Nat.le_of_ble_eq_true rfl⟩ ?_
  refine xv_aload_n (pc := 11) hC dX7_save_11 0 rfl rfl ?_
  refine xv_iconst (v := 1) (pc := 12) hC dX7_save_12 (by decide) ?_
  obtain ⟨Z_2, hZ_2, hX⟩ := nm_some hX
  refine xpX7 (ty := .boolean) (pc := 13) hC dX7_save_13 (rfl : shC 0 = 1) 8 (by decide) wf_318 rfl (by decide +kernel) (by decide) (by decide) rfl hZ_2 ?_
  refine xv_aload_n (pc := 16) hC dX7_save_16 0 rfl rfl ?_
  refine xgX7 (v := .ref (a 19)) (pc := 17) hC dX7_save_17 (rfl : shC 0 = 1) 0 (by decide) wf_310 rfl ?_
  refine xgX6 (v := .int (gI Z_2 19 1)) (pc := 20) hC dX7_save_20 (rfl : shC 19 = 13) 1 (by decide) wf_129 rfl ?_
  obtain ⟨h1, h2⟩ := some_pair hX
  exact xv_eqi (W := cwC dA a) h1 h2 (hR _ _ _ _ (Nat.le_of_ble_eq_true rfl) (Nat.le_of_ble_eq_true rfl) dX7_save_23)
def sX7_restore (Z : ZZ) : Option ((Nat ⊕ Int32) × ZZ) :=
  if (gI Z 0 8) = 0 then (
    some (.inl 3, Z)) else (
    bnd (sX6_copyFrom 19 39 Z) <| fun q_2 =>
    bnd (sX2_forget q_2) <| fun q_3 =>
    some (.inr (gI q_3 19 1), q_3))
abbrev rmX7_restore : Room := { frames := 6, cells := 1, slots := 6, locals := 124 }
set_option maxHeartbeats 4000000 in
set_option maxRecDepth 100000 in
theorem kX7_restore {l : Launch} {D : va_G} {dA : Nat → ClassId} {sa : String → Nat → Nat} {a : Nat → Nat} (hl : l.stackTraces = false) {Z Z' : ZZ} {o : Nat ⊕ Int32} (hX : sX7_restore Z = some (o, Z')) : CXi l D dA sa yX7_restore (wz yX7_restore cX7_restore 1 (some .int)) rmX7_restore [.ref (a 0)] (cwC dA a Z) o (cwC dA a Z') := by
  refine xm_xi hl (by decide +kernel) (Nat.le_of_ble_eq_true rfl) rfl ?_
  intro p e s m args below meth c A Q hC hR hT hTw hTq hTqw hO
  unfold sX7_restore at hX
  show xv p l e rmX7_restore s m args below meth c D A 1 Q (cwC dA a Z) 0 0 0 [(0, .ref (a 0))] []
  refine xv_aload_n (pc := 0) hC dX7_restore_0 0 rfl rfl ?_
  refine xgX7 (v := .int (gI Z 0 8)) (pc := 1) hC dX7_restore_1 (rfl : shC 0 = 1) 8 (by decide) wf_318 rfl ?_
  refine xv_if_ne (tgt := 18) (pc := 4) hC dX7_restore_4 (by decide) (fun c_1 => ?_) (fun c_1 => ?_)
  · replace hX := if_f c_1 hX
    refine xv_aload_n (pc := 18) hC dX7_restore_18 0 rfl rfl ?_
    refine xgX7 (v := .ref (a 19)) (pc := 19) hC dX7_restore_19 (rfl : shC 0 = 1) 0 (by decide) wf_310 rfl ?_
    refine xv_aload_n (pc := 22) hC dX7_restore_22 0 rfl rfl ?_
    refine xgX7 (v := .ref (a 39)) (pc := 23) hC dX7_restore_23 (rfl : shC 0 = 1) 1 (by decide) wf_311 rfl ?_
    obtain ⟨q_2, hq_2, hX⟩ := bnd_some hX
    refine xv_callVv0 (As := [.ref (a 39)]) (pc := 26) hC (kX6_copyFrom hl hq_2) fV_X6_copyFrom wf_858 (rc_X6 (rfl : shC 19 = 13)) rfl ⟨Nat.le_of_ble_eq_true rfl, Nat.le_of_ble_eq_true rfl⟩ rfl (Nat.le_of_ble_eq_true rfl) dX7_restore_26 ⟨Nat.le_of_ble_eq_true rfl, Nat.le_of_ble_eq_true rfl⟩ ?_
    refine xv_aload_n (pc := 29) hC dX7_restore_29 0 rfl rfl ?_
    refine xgX7 (v := .ref (a 1)) (pc := 30) hC dX7_restore_30 (rfl : shC 0 = 1) 3 (by decide) wf_313 rfl ?_
    obtain ⟨q_3, hq_3, hX⟩ := bnd_some hX
    refine xv_callVv0 (As := []) (pc := 33) hC (kX2_forget hl hq_3) fV_X2_forget wf_1543 (rc_X2 (rfl : shC 1 = 2)) rfl ⟨Nat.le_of_ble_eq_true rfl, Nat.le_of_ble_eq_true rfl⟩ rfl (Nat.le_of_ble_eq_true rfl) dX7_restore_33 ⟨Nat.le_of_ble_eq_true rfl, Nat.le_of_ble_eq_true rfl⟩ ?_
    refine xv_aload_n (pc := 36) hC dX7_restore_36 0 rfl rfl ?_
    refine xgX7 (v := .ref (a 19)) (pc := 37) hC dX7_restore_37 (rfl : shC 0 = 1) 0 (by decide) wf_310 rfl ?_
    refine xgX6 (v := .int (gI q_3 19 1)) (pc := 40) hC dX7_restore_40 (rfl : shC 19 = 13) 1 (by decide) wf_129 rfl ?_
    obtain ⟨h1, h2⟩ := some_pair hX
    exact xv_eqw (W := cwC dA a) h2 (hR _ _ _ _ _ h1.symm (Nat.le_of_ble_eq_true rfl) (Nat.le_of_ble_eq_true rfl) dX7_restore_43)
  · replace hX := if_t c_1 hX
    obtain ⟨h1, h2⟩ := some_pair hX
    exact xv_eqw (W := cwC dA a) h2 (hTw _ _ 7 3 _ _ _ _ _ _ h1.symm ⟨dX7_restore_7, dX7_restore_10, dX7_restore_11, dX7_restore_14, dX7_restore_17⟩ tw_X7_102 (by decide +kernel : (_, 453, "no state was saved") ∈ xe_S) (Nat.le_of_ble_eq_true rfl) (Nat.le_of_ble_eq_true rfl) (Nat.le_of_ble_eq_true rfl) (Nat.le_of_ble_eq_true rfl))
def sX8_thrown (Z : ZZ) : Option (Int32 × ZZ) :=
  some (gI Z 0 8, Z)
abbrev rmX8_thrown : Room := { frames := 0, cells := 0, slots := 0, locals := 0 }
set_option maxHeartbeats 4000000 in
set_option maxRecDepth 100000 in
theorem kX8_thrown {l : Launch} {D : va_G} {dA : Nat → ClassId} {sa : String → Nat → Nat} {a : Nat → Nat} (hl : l.stackTraces = false) {Z Z' : ZZ} {v : Int32} (hX : sX8_thrown Z = some (v, Z')) : CTi l D dA sa yX8_thrown (wz yX8_thrown cX8_thrown 1 (some .int)) rmX8_thrown [.ref (a 0)] (cwR dA a Z) v (cwR dA a Z') := by
  refine xm_i hl (by decide +kernel) (Nat.le_of_ble_eq_true rfl) rfl ?_
  intro p e s m args below meth c A Q hC hR
  unfold sX8_thrown at hX
  show xv p l e rmX8_thrown s m args below meth c D A 1 Q (cwR dA a Z) 0 0 0 [(0, .ref (a 0))] []
  refine xv_aload_n (pc := 0) hC dX8_thrown_0 0 rfl rfl ?_
  refine xgX8 (v := .int (gI Z 0 8)) (pc := 1) hC dX8_thrown_1 (rfl : shR 0 = 1) 8 (by decide) wf_1561 rfl ?_
  obtain ⟨h1, h2⟩ := some_pair hX
  exact xv_eqi (W := cwR dA a) h1 h2 (hR _ _ _ _ (Nat.le_of_ble_eq_true rfl) (Nat.le_of_ble_eq_true rfl) dX8_thrown_4)
def sX8_in (x0 : Int32) (x1 : Int32) (x2 : Int32) (Z : ZZ) : Option (Int32 × ZZ) :=
  if x0 < x1 then (
    some (0, Z)) else (
    if x2 < x0 then (
      some (0, Z)) else (
      some (1, Z)))
abbrev rmX8_in : Room := { frames := 0, cells := 0, slots := 0, locals := 0 }
set_option maxHeartbeats 4000000 in
set_option maxRecDepth 100000 in
theorem kX8_in {l : Launch} {D : va_G} {dA : Nat → ClassId} {sa : String → Nat → Nat} {a : Nat → Nat} (hl : l.stackTraces = false) {x0 : Int32} {x1 : Int32} {x2 : Int32} {Z Z' : ZZ} {v : Int32} (hX : sX8_in x0 x1 x2 Z = some (v, Z')) : CTi l D dA sa yX8_in (wz yX8_in cX8_in 3 (some .boolean)) rmX8_in [.int x0, .int x1, .int x2] (cwR dA a Z) v (cwR dA a Z') := by
  refine xm_z hl (by decide +kernel) (Nat.le_of_ble_eq_true rfl) rfl ?_
  intro p e s m args below meth c A Q hC hR
  unfold sX8_in at hX
  show xv p l e rmX8_in s m args below meth c D A 3 Q (cwR dA a Z) 0 0 0 [(0, .int x0), (1, .int x1), (2, .int x2)] []
  refine xv_iload_n (pc := 0) hC dX8_in_0 0 rfl rfl ?_
  refine xv_iload_n (pc := 1) hC dX8_in_1 1 rfl rfl ?_
  refine xv_icmp_lt (tgt := 14) (pc := 2) hC dX8_in_2 (by decide) (fun c_1 => ?_) (fun c_1 => ?_)
  · replace hX := if_t c_1 hX
    refine xv_iconst (v := 0) (pc := 14) hC dX8_in_14 (by decide) ?_
    obtain ⟨h1, h2⟩ := some_pair hX
    exact xv_eqi (W := cwR dA a) h1 h2 (hR _ _ _ _ (by rw [← h1]; exact (by decide)) (Nat.le_of_ble_eq_true rfl) (Nat.le_of_ble_eq_true rfl) dX8_in_15)
  · replace hX := if_f c_1 hX
    refine xv_iload_n (pc := 5) hC dX8_in_5 0 rfl rfl ?_
    refine xv_iload_n (pc := 6) hC dX8_in_6 2 rfl rfl ?_
    refine xv_icmp_gt (tgt := 14) (pc := 7) hC dX8_in_7 (by decide) (fun c_2 => ?_) (fun c_2 => ?_)
    · replace hX := if_t c_2 hX
      refine xv_iconst (v := 0) (pc := 14) hC dX8_in_14 (by decide) ?_
      obtain ⟨h1, h2⟩ := some_pair hX
      exact xv_eqi (W := cwR dA a) h1 h2 (hR _ _ _ _ (by rw [← h1]; exact (by decide)) (Nat.le_of_ble_eq_true rfl) (Nat.le_of_ble_eq_true rfl) dX8_in_15)
    · replace hX := if_f c_2 hX
      refine xv_iconst (v := 1) (pc := 10) hC dX8_in_10 (by decide) ?_
      refine xv_goto (tgt := 15) (pc := 11) hC dX8_in_11 (by decide) ?_
      obtain ⟨h1, h2⟩ := some_pair hX
      exact xv_eqi (W := cwR dA a) h1 h2 (hR _ _ _ _ (by rw [← h1]; exact (by decide)) (Nat.le_of_ble_eq_true rfl) (Nat.le_of_ble_eq_true rfl) dX8_in_15)
