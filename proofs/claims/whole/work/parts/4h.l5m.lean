theorem wf_1372 : Cond.classLink "Switchboard" 351 "java/lang/ArithmeticException" ∈ WT := wt_of (i := 1372) (by decide +kernel) rfl
theorem wf_28 : Cond.initialized "java/lang/ArithmeticException" ∈ WT := wt_of (i := 28) (by decide +kernel) rfl
set_option maxRecDepth 100000 in
theorem tw_X7_355 : xTw "Switchboard" "java/lang/ArithmeticException" 351 355 := ⟨wf_1372, wf_28, by decide +kernel, fun x hx => by
  rcases (by decide +kernel : ∀ x ∈ vx_atS "Switchboard" 355 "java/lang/ArithmeticException" ["java/lang/RuntimeException", "java/lang/Exception"], (x ∈ lw_tbl ∧ goodWord x = true) ∨ x = .castable "java/lang/ArithmeticException" "java/lang/ArithmeticException" ∨ ∃ y ∈ xe_D, x = .declares y) x hx with h | h | h
  · exact Or.inl (wt_in h.1 h.2)
  · exact Or.inr (Or.inl ⟨h, by decide⟩)
  · exact Or.inr (Or.inr h), by decide +kernel⟩
theorem wf_142 : Cond.fieldLink "Switchboard" 348 "Switchboard$State" "endedCalls" "I" ∈ WT := wt_of (i := 142) (by decide +kernel) rfl
theorem wf_1384 : Cond.methodLink "Switchboard" 361 ⟨"java/lang/Integer", "bitCount", "(I)I"⟩ ∈ WT := wt_of (i := 1384) (by decide +kernel) rfl
/-! meanCharge and usedShare, of class and reference -/
section SFL
variable {p : Program} {l : Launch} {e : Env} {R : Room} {s : State} {m : MethodId} {args : Array Value} {below : List Frame} {meth : Method} {c : Code} {Q : State → Prop} {D : va_G} {dA : Nat → ClassId} {sa : String → Nat → Nat} {A : Nat → Prop} {cc : ByteArray} {nL cells slots pc : Nat} {own : String} {w w2 : va_W} {lv lv' : List (Nat × Value)} {st st0 rest : List Value} {cw : Cond}
theorem xv_l2d (C : xv_C p l s m args meth c D dA sa A cc nL own (cw :: WT)) {x : Int64} (d : decode cc pc = .ok (.l2d, 1)) (k : xv p l e R s m args below meth c D A nL Q w cells slots (pc + 1) lv (.double (FP.l2d x) :: st)) : xv p l e R s m args below meth c D A nL Q w cells slots pc lv (.long x :: st) := fun H locs ls hP hD hS hl => lv_l2d C.1.1 C.1.2.1 d (k H locs ls hP hD hS hl)
theorem xv_i2d (C : xv_C p l s m args meth c D dA sa A cc nL own (cw :: WT)) {x : Int32} (d : decode cc pc = .ok (.i2d, 1)) (k : xv p l e R s m args below meth c D A nL Q w cells slots (pc + 1) lv (.double (FP.i2d x) :: st)) : xv p l e R s m args below meth c D A nL Q w cells slots pc lv (.int x :: st) := fun H locs ls hP hD hS hl => lv_i2d C.1.1 C.1.2.1 d (k H locs ls hP hD hS hl)
theorem xv_i2f (C : xv_C p l s m args meth c D dA sa A cc nL own (cw :: WT)) {x : Int32} (d : decode cc pc = .ok (.i2f, 1)) (k : xv p l e R s m args below meth c D A nL Q w cells slots (pc + 1) lv (.float (FP.i2f x) :: st)) : xv p l e R s m args below meth c D A nL Q w cells slots pc lv (.int x :: st) := fun H locs ls hP hD hS hl => lv_i2f C.1.1 C.1.2.1 d (k H locs ls hP hD hS hl)
theorem xv_ddiv (C : xv_C p l s m args meth c D dA sa A cc nL own (cw :: WT)) {x y : UInt64} (d : decode cc pc = .ok (.ddiv, 1)) (hne : vf_n64 (FP.ddiv x y)) (k : xv p l e R s m args below meth c D A nL Q w cells slots (pc + 1) lv (.double (FP.ddiv x y) :: st)) : xv p l e R s m args below meth c D A nL Q w cells slots pc lv (.double y :: .double x :: st) := fun H locs ls hP hD hS hl => lv_ddiv C.1.1 C.1.2.1 d hne (k H locs ls hP hD hS hl)
theorem xv_fdiv (C : xv_C p l s m args meth c D dA sa A cc nL own (cw :: WT)) {x y : UInt32} (d : decode cc pc = .ok (.fdiv, 1)) (hne : vf_n32 (FP.fdiv x y)) (k : xv p l e R s m args below meth c D A nL Q w cells slots (pc + 1) lv (.float (FP.fdiv x y) :: st)) : xv p l e R s m args below meth c D A nL Q w cells slots pc lv (.float y :: .float x :: st) := fun H locs ls hP hD hS hl => lv_fdiv C.1.1 C.1.2.1 d hne (k H locs ls hP hD hS hl)
theorem xv_dc0 (C : xv_C p l s m args meth c D dA sa A cc nL own (cw :: WT)) (d : decode cc pc = .ok (.dconst 0, 1)) (k : xv p l e R s m args below meth c D A nL Q w cells slots (pc + 1) lv (.double FP.dconst0 :: st)) : xv p l e R s m args below meth c D A nL Q w cells slots pc lv st := fun H locs ls hP hD hS hl => lv_dconst0 C.1.1 C.1.2.1 d (k H locs ls hP hD hS hl)
theorem xv_fc0 (C : xv_C p l s m args meth c D dA sa A cc nL own (cw :: WT)) (d : decode cc pc = .ok (.fconst 0, 1)) (k : xv p l e R s m args below meth c D A nL Q w cells slots (pc + 1) lv (.float FP.fconst0 :: st)) : xv p l e R s m args below meth c D A nL Q w cells slots pc lv st := fun H locs ls hP hD hS hl => lv_fconst0 C.1.1 C.1.2.1 d (k H locs ls hP hD hS hl)
end SFL
def mch (N : NN) : UInt64 := FP.ddiv (FP.i2d (nI (N 5))) (FP.i2d (nI (N 4)))
def usd (N : NN) : Nat → Nat := sumf (fun i => if usr N i < N 3 then 1 else 0)
def ush (N : NN) : UInt32 := FP.fdiv (FP.i2f (nI (usd N (N 1)))) (FP.i2f (nI (N 1)))
theorem usd_le (N : NN) (k : Nat) : usd N k ≤ k := by
  induction k with
  | zero => exact Nat.le_refl _
  | succ k ih =>
    unfold usd sumf
    unfold usd at ih
    split <;> omega
theorem usd_s (N : NN) (k : Nat) : usd N (k + 1) = usd N k + (if usr N k < N 3 then 1 else 0) := rfl
theorem usd_16 {N : NN} {W : Nat} (hI : iN N W) : ∀ k, usd N (N 1 + k) = usd N (N 1) := by
  intro k
  induction k with
  | zero => rfl
  | succ k ih =>
    show usd N ((N 1 + k) + 1) = _
    rw [usd_s, if_neg, Nat.add_zero, ih]
    intro h
    have h2 : onC N (usr N (N 1 + k)) (N 1 + k) = true := (fnd_lt h).1
    obtain ⟨j, j1, j2⟩ := of_decide_eq_true h2
    have := ((hI.2.2.2.2.2.1 _ h).2.2.2.2.2 j j1).1
    omega
theorem cB_usd {N : NN} {W : Nat} (hI : iN N W) : cB (uBits N (N 3)) = usd N (N 1) := by
  have h16 := hI.1.2.1
  have e : cB (uBits N (N 3)) = usd N 16 := by
    unfold cB usd
    congr 1
    funext i
    rw [usd_bit]
    by_cases h : usr N i < N 3
    · rw [decide_eq_true h, if_pos rfl, if_pos h]
    · rw [decide_eq_false h, if_neg (by decide), if_neg h]
  rw [e]
  have := usd_16 hI (16 - N 1)
  rw [show N 1 + (16 - N 1) = 16 by omega] at this
  exact this
abbrev rmF1 : Room := ({ frames := 8, cells := 2, slots := 12, locals := 150 } : Room)
set_option maxHeartbeats 4000000 in
set_option maxRecDepth 100000 in
theorem kF_mc_f {l : Launch} {D : va_G} {dA : Nat → ClassId} {sa : String → Nat → Nat} (hl : l.stackTraces = false) {a : Nat → Nat} {N : NN} {W : Nat} {Z : ZZ} (hB : rB N Z 19) (hI : iN N W) (h4 : N 4 = 0) : CXd l D dA sa yX7_meanCharge (wz yX7_meanCharge cX7_meanCharge 1 (some .double)) rmF1 [.ref (a 0)] (cwC dA a Z) (.inl 6) (cwC dA a Z) := by
  refine xm_xd hl (by decide +kernel) (Nat.le_of_ble_eq_true rfl) rfl ?_
  intro p e s m args below meth c A Q hC hR hT hTw hTq hTqw hO
  show xv p l e rmF1 s m args below meth c D A 1 Q (cwC dA a Z) 0 0 0 [(0, .ref (a 0))] []
  have be : gI Z 19 8 = nI (N 4) := (rB19.1 hB).1.2.2.2.2.1
  refine xv_aload_n (pc := 0) hC dX7_meanCharge_0 0 rfl rfl ?_
  refine xgX7 (v := .ref (a 19)) (pc := 1) hC dX7_meanCharge_1 (rfl : shC 0 = 1) 0 (by decide) wf_310 rfl ?_
  refine xgX6 (v := .int (gI Z 19 8)) (pc := 4) hC dX7_meanCharge_4 (rfl : shC 19 = 13) 8 (by decide) wf_142 rfl ?_
  rw [be]
  rw [h4]
  refine xv_if_ne (tgt := 21) (pc := 7) hC dX7_meanCharge_7 (by decide) (fun c9 => absurd c9 (show ¬ ¬ nI 0 = 0 by decide)) (fun _ => ?_)
  exact hTw _ _ 10 6 _ _ _ _ _ _ rfl ⟨dX7_meanCharge_10, dX7_meanCharge_13, dX7_meanCharge_14, dX7_meanCharge_17, dX7_meanCharge_20⟩ tw_X7_355 (by decide +kernel : (_, 353, "no call has ended") ∈ xe_S) (Nat.le_of_ble_eq_true rfl) (Nat.le_of_ble_eq_true rfl) (Nat.le_of_ble_eq_true rfl) (Nat.le_of_ble_eq_true rfl)
set_option maxHeartbeats 4000000 in
set_option maxRecDepth 100000 in
theorem kF_mc_t {l : Launch} {D : va_G} {dA : Nat → ClassId} {sa : String → Nat → Nat} (hl : l.stackTraces = false) {a : Nat → Nat} {N : NN} {W : Nat} {Z : ZZ} (hB : rB N Z 19) (hI : iN N W) (hW : W ≤ 7000) (h4 : N 4 ≠ 0) : CXd l D dA sa yX7_meanCharge (wz yX7_meanCharge cX7_meanCharge 1 (some .double)) rmF1 [.ref (a 0)] (cwC dA a Z) (.inr (mch N)) (cwC dA a Z) := by
  refine xm_xd hl (by decide +kernel) (Nat.le_of_ble_eq_true rfl) rfl ?_
  intro p e s m args below meth c A Q hC hR hT hTw hTq hTqw hO
  show xv p l e rmF1 s m args below meth c D A 1 Q (cwC dA a Z) 0 0 0 [(0, .ref (a 0))] []
  have be : gI Z 19 8 = nI (N 4) := (rB19.1 hB).1.2.2.2.2.1
  refine xv_aload_n (pc := 0) hC dX7_meanCharge_0 0 rfl rfl ?_
  refine xgX7 (v := .ref (a 19)) (pc := 1) hC dX7_meanCharge_1 (rfl : shC 0 = 1) 0 (by decide) wf_310 rfl ?_
  refine xgX6 (v := .int (gI Z 19 8)) (pc := 4) hC dX7_meanCharge_4 (rfl : shC 19 = 13) 8 (by decide) wf_142 rfl ?_
  rw [be]
  have h5 := hI.1.2.2.2.2
  have hq := hI.2.2.2.2.2.2.2.2
  refine xv_if_ne (tgt := 21) (pc := 7) hC dX7_meanCharge_7 (by decide) (fun _ => ?_) (fun c9 => absurd c9 (nI_ne0 (show 0 < N 4 by omega) (by omega)))
  refine xv_aload_n (pc := 21) hC dX7_meanCharge_21 0 rfl rfl ?_
  refine xgX7 (v := .ref (a 19)) (pc := 22) hC dX7_meanCharge_22 (rfl : shC 0 = 1) 0 (by decide) wf_310 rfl ?_
  refine xgX6 (v := .long (gL Z 19)) (pc := 25) hC dX7_meanCharge_25 (rfl : shC 19 = 13) 7 (by decide) wf_140 rfl ?_
  rw [(rB19.1 hB).1.2.2.2.2.2]
  refine xv_l2d (pc := 28) hC dX7_meanCharge_28 ?_
  rw [l2d_i2d (by omega)]
  refine xv_aload_n (pc := 29) hC dX7_meanCharge_29 0 rfl rfl ?_
  refine xgX7 (v := .ref (a 19)) (pc := 30) hC dX7_meanCharge_30 (rfl : shC 0 = 1) 0 (by decide) wf_310 rfl ?_
  refine xgX6 (v := .int (gI Z 19 8)) (pc := 33) hC dX7_meanCharge_33 (rfl : shC 19 = 13) 8 (by decide) wf_142 rfl ?_
  rw [be]
  refine xv_i2d (pc := 36) hC dX7_meanCharge_36 ?_
  refine xv_ddiv (pc := 37) hC dX7_meanCharge_37 (n64_dv (nI_ne0 (show 0 < N 4 by omega) (by omega))) ?_
  exact hR _ _ _ _ _ rfl (Nat.le_of_ble_eq_true rfl) (Nat.le_of_ble_eq_true rfl) dX7_meanCharge_38
set_option maxHeartbeats 4000000 in
set_option maxRecDepth 100000 in
theorem kF_us_f {l : Launch} {D : va_G} {dA : Nat → ClassId} {sa : String → Nat → Nat} (hl : l.stackTraces = false) {a : Nat → Nat} {N : NN} {W : Nat} {Z : ZZ} (hB : rB N Z 19) (hI : iN N W) (h4 : N 1 = 0) : CXf l D dA sa yX7_usedShare (wz yX7_usedShare cX7_usedShare 1 (some .float)) rmF1 [.ref (a 0)] (cwC dA a Z) (.inl 6) (cwC dA a Z) := by
  refine xm_xf hl (by decide +kernel) (Nat.le_of_ble_eq_true rfl) rfl ?_
  intro p e s m args below meth c A Q hC hR hT hTw hTq hTqw hO
  show xv p l e rmF1 s m args below meth c D A 1 Q (cwC dA a Z) 0 0 0 [(0, .ref (a 0))] []
  have be : gI Z 20 1 = nI (N 1) := (rB19.1 hB).1.2.1
  refine xv_aload_n (pc := 0) hC dX7_usedShare_0 0 rfl rfl ?_
  refine xgX7 (v := .ref (a 19)) (pc := 1) hC dX7_usedShare_1 (rfl : shC 0 = 1) 0 (by decide) wf_310 rfl ?_
  refine xgX6 (v := .ref (a 20)) (pc := 4) hC dX7_usedShare_4 (rfl : shC 19 = 13) 0 (by decide) wf_127 rfl ?_
  refine xgX3 (v := .int (gI Z 20 1)) (pc := 7) hC dX7_usedShare_7 (rfl : shC 20 = 14) 1 (by decide) wf_58 rfl ?_
  rw [be]
  rw [h4]
  refine xv_if_ne (tgt := 24) (pc := 10) hC dX7_usedShare_10 (by decide) (fun c9 => absurd c9 (show ¬ ¬ nI 0 = 0 by decide)) (fun _ => ?_)
  exact hTw _ _ 13 6 _ _ _ _ _ _ rfl ⟨dX7_usedShare_13, dX7_usedShare_16, dX7_usedShare_17, dX7_usedShare_20, dX7_usedShare_23⟩ tw_X7_355 (by decide +kernel : (_, 356, "there are no trunks") ∈ xe_S) (Nat.le_of_ble_eq_true rfl) (Nat.le_of_ble_eq_true rfl) (Nat.le_of_ble_eq_true rfl) (Nat.le_of_ble_eq_true rfl)
set_option maxHeartbeats 4000000 in
set_option maxRecDepth 100000 in
theorem kF_us_t {l : Launch} {D : va_G} {dA : Nat → ClassId} {sa : String → Nat → Nat} (hl : l.stackTraces = false) {a : Nat → Nat} {N : NN} {W : Nat} {Z : ZZ} (hB : rB N Z 19) (hI : iN N W) (h4 : N 1 ≠ 0) : CXf l D dA sa yX7_usedShare (wz yX7_usedShare cX7_usedShare 1 (some .float)) rmF1 [.ref (a 0)] (cwC dA a Z) (.inr (ush N)) (cwC dA a Z) := by
  refine xm_xf hl (by decide +kernel) (Nat.le_of_ble_eq_true rfl) rfl ?_
  intro p e s m args below meth c A Q hC hR hT hTw hTq hTqw hO
  show xv p l e rmF1 s m args below meth c D A 1 Q (cwC dA a Z) 0 0 0 [(0, .ref (a 0))] []
  have be : gI Z 20 1 = nI (N 1) := (rB19.1 hB).1.2.1
  refine xv_aload_n (pc := 0) hC dX7_usedShare_0 0 rfl rfl ?_
  refine xgX7 (v := .ref (a 19)) (pc := 1) hC dX7_usedShare_1 (rfl : shC 0 = 1) 0 (by decide) wf_310 rfl ?_
  refine xgX6 (v := .ref (a 20)) (pc := 4) hC dX7_usedShare_4 (rfl : shC 19 = 13) 0 (by decide) wf_127 rfl ?_
  refine xgX3 (v := .int (gI Z 20 1)) (pc := 7) hC dX7_usedShare_7 (rfl : shC 20 = 14) 1 (by decide) wf_58 rfl ?_
  rw [be]
  have h16 := hI.1.2.1
  refine xv_if_ne (tgt := 24) (pc := 10) hC dX7_usedShare_10 (by decide) (fun _ => ?_) (fun c9 => absurd c9 (nI_ne0 (show 0 < N 1 by omega) (by omega)))
  refine xv_aload_n (pc := 24) hC dX7_usedShare_24 0 rfl rfl ?_
  refine xgX7 (v := .ref (a 19)) (pc := 25) hC dX7_usedShare_25 (rfl : shC 0 = 1) 0 (by decide) wf_310 rfl ?_
  refine xv_callVi0 (As := []) (pc := 28) hC (kX6_usedTrunks hl (p_usedTrunks hB hI)) fV_X6_usedTrunks wf_1383 (rc_X6 (rfl : shC 19 = 13)) rfl ⟨(Nat.le_of_ble_eq_true rfl), (Nat.le_of_ble_eq_true rfl)⟩ rfl (Nat.le_of_ble_eq_true rfl) dX7_usedShare_28 ⟨(Nat.le_of_ble_eq_true rfl), (Nat.le_of_ble_eq_true rfl)⟩ ?_
  refine xv_callSi0 (As := [.int (nI (uBits N (N 3)))]) (pc := 31) hC (kJ_bitCount hl (p_bc (Z := Z) (uBits_lt hI (N 3) (Nat.le_refl _)))) fS_J6_bitCount_0f7a4 wf_1384 rfl ⟨(Nat.le_of_ble_eq_true rfl), (Nat.le_of_ble_eq_true rfl)⟩ rfl (Nat.le_of_ble_eq_true rfl) dX7_usedShare_31 ⟨(Nat.le_of_ble_eq_true rfl), (Nat.le_of_ble_eq_true rfl)⟩ ?_
  rw [cB_usd hI]
  refine xv_i2f (pc := 34) hC dX7_usedShare_34 ?_
  refine xv_aload_n (pc := 35) hC dX7_usedShare_35 0 rfl rfl ?_
  refine xgX7 (v := .ref (a 19)) (pc := 36) hC dX7_usedShare_36 (rfl : shC 0 = 1) 0 (by decide) wf_310 rfl ?_
  refine xgX6 (v := .ref (a 20)) (pc := 39) hC dX7_usedShare_39 (rfl : shC 19 = 13) 0 (by decide) wf_127 rfl ?_
  refine xgX3 (v := .int (gI Z 20 1)) (pc := 42) hC dX7_usedShare_42 (rfl : shC 20 = 14) 1 (by decide) wf_58 rfl ?_
  rw [be]
  refine xv_i2f (pc := 45) hC dX7_usedShare_45 ?_
  refine xv_fdiv (pc := 46) hC dX7_usedShare_46 (n32_dv (nI_ne0 (show 0 < N 1 by omega) (by omega))) ?_
  exact hR _ _ _ _ _ rfl (Nat.le_of_ble_eq_true rfl) (Nat.le_of_ble_eq_true rfl) dX7_usedShare_47
set_option maxHeartbeats 4000000 in
set_option maxRecDepth 100000 in
theorem kG_mc_f {l : Launch} {D : va_G} {dA : Nat → ClassId} {sa : String → Nat → Nat} (hl : l.stackTraces = false) {a : Nat → Nat} {N : NN} {W : Nat} {Z : ZZ} (hA : rA N Z 1) (hI : iN N W) (h4 : N 4 = 0) : CTd l D dA sa yX8_meanCharge (wz yX8_meanCharge cX8_meanCharge 1 (some .double)) rmF1 [.ref (a 0)] (cwR dA a Z) FP.dconst0 (cwR dA a (pI Z 0 8 1)) := by
  refine xm_d hl (by decide +kernel) (Nat.le_of_ble_eq_true rfl) rfl ?_
  intro p e s m args below meth c A Q hC hR
  show xv p l e rmF1 s m args below meth c D A 1 Q (cwR dA a Z) 0 0 0 [(0, .ref (a 0))] []
  refine xv_aload_n (pc := 0) hC dX8_meanCharge_0 0 rfl rfl ?_
  refine xv_aload_n (pc := 1) hC dX8_meanCharge_1 0 rfl rfl ?_
  refine xgX8 (v := .ref (a 1)) (pc := 2) hC dX8_meanCharge_2 (rfl : shR 0 = 1) 0 (by decide) wf_1553 rfl ?_
  refine xv_iconst (v := 4) (pc := 5) hC dX8_meanCharge_5 (by decide) ?_
  refine xl_R2 (pc := 6) hC dX8_meanCharge_6 (rfl : shR 1 = 2) (by decide) ?_
  rw [show gI Z 1 (4 : Int32).toNatClampNeg = nI (N 4) from hA 4 (by decide)]
  rw [h4]
  refine xv_if_le (tgt := 14) (pc := 7) hC dX8_meanCharge_7 (by decide) (fun _ => ?_) (fun c9 => absurd (show nI 0 ≤ 0 by decide) c9)
  refine xv_iconst (v := 0) (pc := 14) hC dX8_meanCharge_14 (by decide) ?_
  refine xv_callVi0 (As := [.int 0]) (pc := 15) hC (kX8_checked hl chk_f) fV_X8_checked wf_1839 (rc_X8 (rfl : shR 0 = 1)) rfl ⟨(Nat.le_of_ble_eq_true rfl), (Nat.le_of_ble_eq_true rfl)⟩ rfl (Nat.le_of_ble_eq_true rfl) dX8_meanCharge_15 ⟨(Nat.le_of_ble_eq_true rfl), (Nat.le_of_ble_eq_true rfl)⟩ ?_
  refine xv_if_le (tgt := 25) (pc := 18) hC dX8_meanCharge_18 (by decide) (fun c9 => absurd c9 nm1r) (fun _ => ?_)
  refine xv_dc0 (pc := 21) hC dX8_meanCharge_21 ?_
  refine xv_goto (tgt := 40) (pc := 22) hC dX8_meanCharge_22 (by decide) ?_
  exact hR _ _ _ _ (Nat.le_of_ble_eq_true rfl) (Nat.le_of_ble_eq_true rfl) dX8_meanCharge_40
set_option maxHeartbeats 4000000 in
set_option maxRecDepth 100000 in
theorem kG_mc_t {l : Launch} {D : va_G} {dA : Nat → ClassId} {sa : String → Nat → Nat} (hl : l.stackTraces = false) {a : Nat → Nat} {N : NN} {W : Nat} {Z : ZZ} (hA : rA N Z 1) (hI : iN N W) (hW : W ≤ 7000) (h4 : N 4 ≠ 0) : CTd l D dA sa yX8_meanCharge (wz yX8_meanCharge cX8_meanCharge 1 (some .double)) rmF1 [.ref (a 0)] (cwR dA a Z) (mch N) (cwR dA a (pI Z 0 8 0)) := by
  refine xm_d hl (by decide +kernel) (Nat.le_of_ble_eq_true rfl) rfl ?_
  intro p e s m args below meth c A Q hC hR
  show xv p l e rmF1 s m args below meth c D A 1 Q (cwR dA a Z) 0 0 0 [(0, .ref (a 0))] []
  refine xv_aload_n (pc := 0) hC dX8_meanCharge_0 0 rfl rfl ?_
  refine xv_aload_n (pc := 1) hC dX8_meanCharge_1 0 rfl rfl ?_
  refine xgX8 (v := .ref (a 1)) (pc := 2) hC dX8_meanCharge_2 (rfl : shR 0 = 1) 0 (by decide) wf_1553 rfl ?_
  refine xv_iconst (v := 4) (pc := 5) hC dX8_meanCharge_5 (by decide) ?_
  refine xl_R2 (pc := 6) hC dX8_meanCharge_6 (rfl : shR 1 = 2) (by decide) ?_
  rw [show gI Z 1 (4 : Int32).toNatClampNeg = nI (N 4) from hA 4 (by decide)]
  have hA1 : rA N (pI Z 0 8 0) 1 := rA_8 hA
  have h5 := hI.1.2.2.2.2
  have h16 := hI.1.2.1
  have hq := hI.2.2.2.2.2.2.2.2
  refine xv_if_le (tgt := 14) (pc := 7) hC dX8_meanCharge_7 (by decide) (fun c9 => absurd c9 (nI_nle (show 0 < N 4 by omega) (by omega))) (fun _ => ?_)
  refine xv_iconst (v := 1) (pc := 10) hC dX8_meanCharge_10 (by decide) ?_
  refine xv_goto (tgt := 15) (pc := 11) hC dX8_meanCharge_11 (by decide) ?_
  refine xv_callVi0 (As := [.int 1]) (pc := 15) hC (kX8_checked hl chk_t) fV_X8_checked wf_1839 (rc_X8 (rfl : shR 0 = 1)) rfl ⟨(Nat.le_of_ble_eq_true rfl), (Nat.le_of_ble_eq_true rfl)⟩ rfl (Nat.le_of_ble_eq_true rfl) dX8_meanCharge_15 ⟨(Nat.le_of_ble_eq_true rfl), (Nat.le_of_ble_eq_true rfl)⟩ ?_
  refine xv_if_le (tgt := 25) (pc := 18) hC dX8_meanCharge_18 (by decide) (fun _ => ?_) (fun c9 => absurd le00 c9)
  refine xv_aload_n (pc := 25) hC dX8_meanCharge_25 0 rfl rfl ?_
  refine xgX8 (v := .ref (a 1)) (pc := 26) hC dX8_meanCharge_26 (rfl : shR 0 = 1) 0 (by decide) wf_1553 rfl ?_
  refine xv_iconst (v := 5) (pc := 29) hC dX8_meanCharge_29 (by decide) ?_
  refine xl_R2 (pc := 30) hC dX8_meanCharge_30 (rfl : shR 1 = 2) (by decide) ?_
  rw [show gI (pI Z 0 8 0) 1 (5 : Int32).toNatClampNeg = nI (N 5) from hA1 5 (by decide)]
  refine xv_i2d (pc := 31) hC dX8_meanCharge_31 ?_
  refine xv_aload_n (pc := 32) hC dX8_meanCharge_32 0 rfl rfl ?_
  refine xgX8 (v := .ref (a 1)) (pc := 33) hC dX8_meanCharge_33 (rfl : shR 0 = 1) 0 (by decide) wf_1553 rfl ?_
  refine xv_iconst (v := 4) (pc := 36) hC dX8_meanCharge_36 (by decide) ?_
  refine xl_R2 (pc := 37) hC dX8_meanCharge_37 (rfl : shR 1 = 2) (by decide) ?_
  rw [show gI (pI Z 0 8 0) 1 (4 : Int32).toNatClampNeg = nI (N 4) from hA1 4 (by decide)]
  refine xv_i2d (pc := 38) hC dX8_meanCharge_38 ?_
  refine xv_ddiv (pc := 39) hC dX8_meanCharge_39 (n64_dv (nI_ne0 (show 0 < N 4 by omega) (by omega))) ?_
  exact hR _ _ _ _ (Nat.le_of_ble_eq_true rfl) (Nat.le_of_ble_eq_true rfl) dX8_meanCharge_40
set_option maxHeartbeats 4000000 in
set_option maxRecDepth 100000 in
theorem kG_us_f {l : Launch} {D : va_G} {dA : Nat → ClassId} {sa : String → Nat → Nat} (hl : l.stackTraces = false) {a : Nat → Nat} {N : NN} {W : Nat} {Z : ZZ} (hA : rA N Z 1) (hI : iN N W) (h4 : N 1 = 0) : CTf l D dA sa yX8_usedShare (wz yX8_usedShare cX8_usedShare 3 (some .float)) rmF1 [.ref (a 0)] (cwR dA a Z) FP.fconst0 (cwR dA a (pI Z 0 8 1)) := by
  refine xm_f hl (by decide +kernel) (Nat.le_of_ble_eq_true rfl) rfl ?_
  intro p e s m args below meth c A Q hC hR
  show xv p l e rmF1 s m args below meth c D A 3 Q (cwR dA a Z) 0 0 0 [(0, .ref (a 0))] []
  refine xv_aload_n (pc := 0) hC dX8_usedShare_0 0 rfl rfl ?_
  refine xv_aload_n (pc := 1) hC dX8_usedShare_1 0 rfl rfl ?_
  refine xgX8 (v := .ref (a 1)) (pc := 2) hC dX8_usedShare_2 (rfl : shR 0 = 1) 0 (by decide) wf_1553 rfl ?_
  refine xv_iconst (v := 1) (pc := 5) hC dX8_usedShare_5 (by decide) ?_
  refine xl_R2 (pc := 6) hC dX8_usedShare_6 (rfl : shR 1 = 2) (by decide) ?_
  rw [show gI Z 1 (1 : Int32).toNatClampNeg = nI (N 1) from hA 1 (by decide)]
  rw [h4]
  refine xv_if_le (tgt := 14) (pc := 7) hC dX8_usedShare_7 (by decide) (fun _ => ?_) (fun c9 => absurd (show nI 0 ≤ 0 by decide) c9)
  refine xv_iconst (v := 0) (pc := 14) hC dX8_usedShare_14 (by decide) ?_
  refine xv_callVi0 (As := [.int 0]) (pc := 15) hC (kX8_checked hl chk_f) fV_X8_checked wf_1839 (rc_X8 (rfl : shR 0 = 1)) rfl ⟨(Nat.le_of_ble_eq_true rfl), (Nat.le_of_ble_eq_true rfl)⟩ rfl (Nat.le_of_ble_eq_true rfl) dX8_usedShare_15 ⟨(Nat.le_of_ble_eq_true rfl), (Nat.le_of_ble_eq_true rfl)⟩ ?_
  refine xv_if_le (tgt := 23) (pc := 18) hC dX8_usedShare_18 (by decide) (fun c9 => absurd c9 nm1r) (fun _ => ?_)
  refine xv_fc0 (pc := 21) hC dX8_usedShare_21 ?_
  exact hR _ _ _ _ (Nat.le_of_ble_eq_true rfl) (Nat.le_of_ble_eq_true rfl) dX8_usedShare_22
set_option maxHeartbeats 4000000 in
set_option maxRecDepth 100000 in
theorem kG_us_t {l : Launch} {D : va_G} {dA : Nat → ClassId} {sa : String → Nat → Nat} (hl : l.stackTraces = false) {a : Nat → Nat} {N : NN} {W : Nat} {Z : ZZ} (hA : rA N Z 1) (hI : iN N W) (h4 : N 1 ≠ 0) : CTf l D dA sa yX8_usedShare (wz yX8_usedShare cX8_usedShare 3 (some .float)) rmF1 [.ref (a 0)] (cwR dA a Z) (ush N) (cwR dA a (pI Z 0 8 0)) := by
  refine xm_f hl (by decide +kernel) (Nat.le_of_ble_eq_true rfl) rfl ?_
  intro p e s m args below meth c A Q hC hR
  show xv p l e rmF1 s m args below meth c D A 3 Q (cwR dA a Z) 0 0 0 [(0, .ref (a 0))] []
  refine xv_aload_n (pc := 0) hC dX8_usedShare_0 0 rfl rfl ?_
  refine xv_aload_n (pc := 1) hC dX8_usedShare_1 0 rfl rfl ?_
  refine xgX8 (v := .ref (a 1)) (pc := 2) hC dX8_usedShare_2 (rfl : shR 0 = 1) 0 (by decide) wf_1553 rfl ?_
  refine xv_iconst (v := 1) (pc := 5) hC dX8_usedShare_5 (by decide) ?_
  refine xl_R2 (pc := 6) hC dX8_usedShare_6 (rfl : shR 1 = 2) (by decide) ?_
  rw [show gI Z 1 (1 : Int32).toNatClampNeg = nI (N 1) from hA 1 (by decide)]
  have hA1 : rA N (pI Z 0 8 0) 1 := rA_8 hA
  have h5 := hI.1.2.2.2.2
  have h16 := hI.1.2.1
  have hq := hI.2.2.2.2.2.2.2.2
  refine xv_if_le (tgt := 14) (pc := 7) hC dX8_usedShare_7 (by decide) (fun c9 => absurd c9 (nI_nle (show 0 < N 1 by omega) (by omega))) (fun _ => ?_)
  refine xv_iconst (v := 1) (pc := 10) hC dX8_usedShare_10 (by decide) ?_
  refine xv_goto (tgt := 15) (pc := 11) hC dX8_usedShare_11 (by decide) ?_
  refine xv_callVi0 (As := [.int 1]) (pc := 15) hC (kX8_checked hl chk_t) fV_X8_checked wf_1839 (rc_X8 (rfl : shR 0 = 1)) rfl ⟨(Nat.le_of_ble_eq_true rfl), (Nat.le_of_ble_eq_true rfl)⟩ rfl (Nat.le_of_ble_eq_true rfl) dX8_usedShare_15 ⟨(Nat.le_of_ble_eq_true rfl), (Nat.le_of_ble_eq_true rfl)⟩ ?_
  refine xv_if_le (tgt := 23) (pc := 18) hC dX8_usedShare_18 (by decide) (fun _ => ?_) (fun c9 => absurd le00 c9)
  refine xv_iconst (v := 0) (pc := 23) hC dX8_usedShare_23 (by decide) ?_
  refine xv_istore_n (pc := 24) (lv' := [(1, .int (nI 0)), (0, .ref (a 0))]) hC dX8_usedShare_24 rfl (by decide) rfl ?_
  refine xv_iconst (v := 0) (pc := 25) hC dX8_usedShare_25 (by decide) ?_
  refine xv_istore_n (pc := 26) (lv' := [(2, .int (nI 0)), (1, .int (nI 0)), (0, .ref (a 0))]) hC dX8_usedShare_26 rfl (by decide) rfl ?_
  suffices loop : ∀ (e9 k9 cells slots : Nat), k9 + e9 = N 1 → cells ≤ 1 → slots ≤ 1 → xv p l e rmF1 s m args below meth c D A 3 Q (cwR dA a (pI Z 0 8 0)) cells slots 27 [(2, .int (nI k9)), (1, .int (nI (usd N k9))), (0, .ref (a 0))] [] from loop (N 1) 0 _ _ (by omega) (Nat.le_of_ble_eq_true rfl) (Nat.le_of_ble_eq_true rfl)
  intro e9
  induction e9 with
  | zero =>
    intro k9 cells slots hk hc9 hs9
    obtain rfl : k9 = N 1 := by omega
    have hle := usd_le N (N 1)
    refine xv_iload_n (pc := 27) hC dX8_usedShare_27 0 rfl rfl ?_
    refine xv_aload_n (pc := 28) hC dX8_usedShare_28 2 rfl rfl ?_
    refine xgX8 (v := .ref (a 1)) (pc := 29) hC dX8_usedShare_29 (rfl : shR 0 = 1) 0 (by decide) wf_1553 rfl ?_
    refine xv_iconst (v := 1) (pc := 32) hC dX8_usedShare_32 (by decide) ?_
    refine xl_R2 (pc := 33) hC dX8_usedShare_33 (rfl : shR 1 = 2) (by decide) ?_
    rw [show gI (pI Z 0 8 0) 1 (1 : Int32).toNatClampNeg = nI (N 1) from hA1 1 (by decide)]
    refine xv_icmp_ge (tgt := 59) (pc := 34) hC dX8_usedShare_34 (by decide) (fun _ => ?_) (fun c9 => absurd (nI_le (Nat.le_refl (N 1)) (show N 1 < 2 ^ 31 by omega)) c9)
    refine xv_iload_n (pc := 59) hC dX8_usedShare_59 1 rfl rfl ?_
    refine xv_i2f (pc := 60) hC dX8_usedShare_60 ?_
    refine xv_aload_n (pc := 61) hC dX8_usedShare_61 2 rfl rfl ?_
    refine xgX8 (v := .ref (a 1)) (pc := 62) hC dX8_usedShare_62 (rfl : shR 0 = 1) 0 (by decide) wf_1553 rfl ?_
    refine xv_iconst (v := 1) (pc := 65) hC dX8_usedShare_65 (by decide) ?_
    refine xl_R2 (pc := 66) hC dX8_usedShare_66 (rfl : shR 1 = 2) (by decide) ?_
    rw [show gI (pI Z 0 8 0) 1 (1 : Int32).toNatClampNeg = nI (N 1) from hA1 1 (by decide)]
    refine xv_i2f (pc := 67) hC dX8_usedShare_67 ?_
    refine xv_fdiv (pc := 68) hC dX8_usedShare_68 (n32_dv (nI_ne0 (show 0 < N 1 by omega) (by omega))) ?_
    exact hR _ _ _ _ (by show cells ≤ 2; omega) (by show slots ≤ 12; omega) dX8_usedShare_69
  | succ e9 ih =>
    intro k9 cells slots hk hc9 hs9
    have h53 := hI.1.2.2.2.1
    refine xv_iload_n (pc := 27) hC dX8_usedShare_27 0 rfl rfl ?_
    refine xv_aload_n (pc := 28) hC dX8_usedShare_28 2 rfl rfl ?_
    refine xgX8 (v := .ref (a 1)) (pc := 29) hC dX8_usedShare_29 (rfl : shR 0 = 1) 0 (by decide) wf_1553 rfl ?_
    refine xv_iconst (v := 1) (pc := 32) hC dX8_usedShare_32 (by decide) ?_
    refine xl_R2 (pc := 33) hC dX8_usedShare_33 (rfl : shR 1 = 2) (by decide) ?_
    rw [show gI (pI Z 0 8 0) 1 (1 : Int32).toNatClampNeg = nI (N 1) from hA1 1 (by decide)]
    refine xv_icmp_ge (tgt := 59) (pc := 34) hC dX8_usedShare_34 (by decide) (fun c9 => absurd c9 (nI_ge (show k9 < N 1 by omega) (show N 1 < 2 ^ 31 by omega))) (fun _ => ?_)
    refine xv_iload_n (pc := 37) hC dX8_usedShare_37 1 rfl rfl ?_
    refine xv_aload_n (pc := 38) hC dX8_usedShare_38 2 rfl rfl ?_
    refine xv_iload_n (pc := 39) hC dX8_usedShare_39 0 rfl rfl ?_
    refine xv_callVi0 (As := [.int (nI k9)]) (pc := 40) hC (kX8_callOn hl (p_callOn hA1 hI (by omega))) fV_X8_callOn wf_1711 (rc_X8 (rfl : shR 0 = 1)) rfl ⟨(Nat.le_of_ble_eq_true rfl), (Nat.le_of_ble_eq_true rfl)⟩ rfl (Nat.le_of_ble_eq_true rfl) dX8_usedShare_40 ⟨by show cells + 0 ≤ 2; omega, by show slots + 0 ≤ 12; omega⟩ ?_
    have fin : ∀ x9 : Nat, usd N (k9 + 1) = usd N k9 + x9 → xv p l e rmF1 s m args below meth c D A 3 Q (cwR dA a (pI Z 0 8 0)) cells slots 51 [(2, .int (nI k9)), (1, .int (nI (usd N k9))), (0, .ref (a 0))] [.int (nI x9), .int (nI (usd N k9))] := fun x9 hx9 => by
      refine xv_iadd (pc := 51) hC dX8_usedShare_51 ?_
      rw [nI_add, ← hx9]
      refine xv_istore_n (pc := 52) (lv' := [(1, .int (nI (usd N (k9 + 1)))), (2, .int (nI k9)), (0, .ref (a 0))]) hC dX8_usedShare_52 rfl (by decide) rfl ?_
      refine xv_iinc (pc := 53) (v := nI (k9 + 1)) (lv' := [(2, .int (nI (k9 + 1))), (1, .int (nI (usd N (k9 + 1)))), (0, .ref (a 0))]) hC dX8_usedShare_53 1 rfl (nI_1 k9) (by decide) rfl ?_
      refine xv_goto (tgt := 27) (pc := 56) hC dX8_usedShare_56 (by decide) ?_
      exact ih (k9 + 1) cells slots (by omega) hc9 hs9
    by_cases cu : usr N k9 < N 3
    · rw [if_pos cu]
      refine xv_if_lt (tgt := 50) (pc := 43) hC dX8_usedShare_43 (by decide) (fun c9 => absurd c9 (nI_pos (show usr N k9 < 2 ^ 31 by omega))) (fun _ => ?_)
      refine xv_iconst (v := 1) (pc := 46) hC dX8_usedShare_46 (by decide) ?_
      refine xv_goto (tgt := 51) (pc := 47) hC dX8_usedShare_47 (by decide) ?_
      exact fin 1 (by rw [usd_s, if_pos cu])
    · rw [if_neg cu]
      refine xv_if_lt (tgt := 50) (pc := 43) hC dX8_usedShare_43 (by decide) (fun _ => ?_) (fun c9 => absurd nm1l c9)
      refine xv_iconst (v := 0) (pc := 50) hC dX8_usedShare_50 (by decide) ?_
      exact fin 0 (by rw [usd_s, if_neg cu])
