theorem wf_61 : Cond.fieldLink "Switchboard" 374 "Switchboard$Network" "ones" "[I" ∈ WT := wt_of (i := 61) (by decide +kernel) rfl
theorem wf_64 : Cond.fieldLink "Switchboard" 377 "Switchboard$Network" "others" "[I" ∈ WT := wt_of (i := 64) (by decide +kernel) rfl
theorem wf_317 : Cond.fieldLink "Switchboard" 53 "Switchboard" "line" "Ljava/lang/StringBuilder;" ∈ WT := wt_of (i := 317) (by decide +kernel) rfl
theorem wf_485 : Cond.methodLink "Switchboard" 380 ⟨"java/lang/StringBuilder", "setLength", "(I)V"⟩ ∈ WT := wt_of (i := 485) (by decide +kernel) rfl
theorem wf_852 : Cond.methodLink "Switchboard" 388 ⟨"java/lang/StringBuilder", "append", "(I)Ljava/lang/StringBuilder;"⟩ ∈ WT := wt_of (i := 852) (by decide +kernel) rfl
theorem wf_830 : Cond.methodLink "Switchboard" 392 ⟨"java/lang/StringBuilder", "append", "(C)Ljava/lang/StringBuilder;"⟩ ∈ WT := wt_of (i := 830) (by decide +kernel) rfl
theorem wf_1392 : Cond.methodLink "Switchboard" 395 ⟨"java/lang/Math", "max", "(II)I"⟩ ∈ WT := wt_of (i := 1392) (by decide +kernel) rfl
theorem wf_853 : Cond.methodLink "Switchboard" 398 ⟨"java/lang/StringBuilder", "length", "()I"⟩ ∈ WT := wt_of (i := 853) (by decide +kernel) rfl
theorem wf_1383 : Cond.methodLink "Switchboard" 358 ⟨"Switchboard$State", "usedTrunks", "()I"⟩ ∈ WT := wt_of (i := 1383) (by decide +kernel) rfl
/-! the class's line: writeTrunk, writeCalls, charAt -/
section SXY
variable {D : va_G} {dA : Nat → ClassId} {sa : String → Nat → Nat} {l : Launch}
variable {y : MethodName} {cc : ByteArray} {n : Nat} {ret : Option FieldType} {rm : Room} {al : List Value} {w0 w1 : va_W}
theorem xm_pi {P1 : Int32 → va_W → Prop} (hl : l.stackTraces = false) (hy : plainName y.cls = true) (hlen : (lg_sl al).length ≤ n) (hret : ret = some .int)
    (body : ∀ (p : Program) (e : Env) (s : State) (m : MethodId) (args : Array Value) (below : List Frame) (meth : Method) (c : Code) (A : Nat → Prop) (Q : State → Prop), xv_C p l s m args meth c D dA sa A cc n y.cls (wz y cc n ret) →
      (∀ (w1 : va_W) (v : Int32) (cells slots pc : Nat) (lv : List (Nat × Value)), P1 v w1 → cells ≤ rm.cells → slots ≤ rm.slots → decode cc pc = .ok (.ireturn, 1) → xv p l e rm s m args below meth c D A n Q w1 cells slots pc lv [.int v]) →
      xv p l e rm s m args below meth c D A n Q w0 0 0 0 (lv_args 0 al) []) : CPi l D dA sa y (wz y cc n ret) rm al w0 P1 := by
  intro sz
  refine Met.ofW (cc := cc) (maxL := n) (ret := ret) hy rfl ?_
  intro p e s m args below meth c s₁ B hml hv
  obtain ⟨rfl, hsz, hP, hD, hC⟩ := xC_of hl B hml hv
  have hr := B.returns
  have hlv := lv_entry al hlen
  rw [lg_entry_eq]
  refine body p e s m al.toArray below meth c (va_A w0 sz) _ hC ?_ _ _ _ hP hD (by subst hsz; exact va_S.rf) hlv
  intro w1 v cells slots pc lv h1 hc hs d H locs ls hP hD hS hl9
  refine W.widen hc hs ?_
  have hx := hC.1.1
  have hb := hC.1.2.1
  exact W.iret hx hb (hr.trans hret) (fun t ht hW => ⟨⟨v, w1, rfl, h1, by rw [ht]; exact hP, va_K.moved hW.alike hC.2.1, hD⟩, hS.F ht⟩) hS.2.2 d hC.2.2.2.2.1
end SXY
section SBX
variable {p : Program} {l : Launch} {e : Env} {R : Room} {s : State} {m : MethodId} {args : Array Value} {below : List Frame} {meth : Method} {c : Code} {Q : State → Prop} {D : va_G} {dA : Nat → ClassId} {sa : String → Nat → Nat} {A : Nat → Prop} {cc : ByteArray} {nL cells slots pc : Nat} {own : String} {w w2 : va_W} {lv lv' : List (Nat × Value)} {st st0 rest : List Value} {cw : Cond}
theorem xv_g7 (C : xv_C p l s m args meth c D dA sa A cc nL own (cw :: WT)) {index q0 b : Nat} {fs : List Value} {vl : Value} (d : decode cc pc = .ok (.getfield index, 3)) (he : w[q0]? = some (b, .inr (7, fs))) (j : Nat) (hj : j < 11) (hw : Cond.fieldLink own index (TX7 j).1 (TX7 j).2.1 (TX7 j).2.2.1 ∈ WT) (hv : fs[j]? = some vl) (k : xv p l e R s m args below meth c D A nL Q w cells slots (pc + 3) lv (vl :: st)) : xv p l e R s m args below meth c D A nL Q w cells slots pc lv (.ref b :: st) :=
  xv_get (q0 := q0) (ci := 7) (fs := fs) C (ref := "") d (fun x h => List.mem_cons_of_mem _ (in_X7 x h)) rfl he j hj (List.mem_cons_of_mem _ hw) hv k
theorem xv_g6 (C : xv_C p l s m args meth c D dA sa A cc nL own (cw :: WT)) {index q0 b : Nat} {fs : List Value} {vl : Value} (d : decode cc pc = .ok (.getfield index, 3)) (he : w[q0]? = some (b, .inr (6, fs))) (j : Nat) (hj : j < 9) (hw : Cond.fieldLink own index (TX6 j).1 (TX6 j).2.1 (TX6 j).2.2.1 ∈ WT) (hv : fs[j]? = some vl) (k : xv p l e R s m args below meth c D A nL Q w cells slots (pc + 3) lv (vl :: st)) : xv p l e R s m args below meth c D A nL Q w cells slots pc lv (.ref b :: st) :=
  xv_get (q0 := q0) (ci := 6) (fs := fs) C (ref := "") d (fun x h => List.mem_cons_of_mem _ (in_X6 x h)) rfl he j hj (List.mem_cons_of_mem _ hw) hv k
theorem xv_g3 (C : xv_C p l s m args meth c D dA sa A cc nL own (cw :: WT)) {index q0 b : Nat} {fs : List Value} {vl : Value} (d : decode cc pc = .ok (.getfield index, 3)) (he : w[q0]? = some (b, .inr (3, fs))) (j : Nat) (hj : j < 7) (hw : Cond.fieldLink own index (TX3 j).1 (TX3 j).2.1 (TX3 j).2.2.1 ∈ WT) (hv : fs[j]? = some vl) (k : xv p l e R s m args below meth c D A nL Q w cells slots (pc + 3) lv (vl :: st)) : xv p l e R s m args below meth c D A nL Q w cells slots pc lv (.ref b :: st) :=
  xv_get (q0 := q0) (ci := 3) (fs := fs) C (ref := "") d (fun x h => List.mem_cons_of_mem _ (in_X3 x h)) rfl he j hj (List.mem_cons_of_mem _ hw) hv k
theorem xv_g1 (C : xv_C p l s m args meth c D dA sa A cc nL own (cw :: WT)) {index q0 b : Nat} {fs : List Value} {vl : Value} (d : decode cc pc = .ok (.getfield index, 3)) (he : w[q0]? = some (b, .inr (1, fs))) (j : Nat) (hj : j < 6) (hw : Cond.fieldLink own index (TX1 j).1 (TX1 j).2.1 (TX1 j).2.2.1 ∈ WT) (hv : fs[j]? = some vl) (k : xv p l e R s m args below meth c D A nL Q w cells slots (pc + 3) lv (vl :: st)) : xv p l e R s m args below meth c D A nL Q w cells slots pc lv (.ref b :: st) :=
  xv_get (q0 := q0) (ci := 1) (fs := fs) C (ref := "") d (fun x h => List.mem_cons_of_mem _ (in_X1 x h)) rfl he j hj (List.mem_cons_of_mem _ hw) hv k
end SBX
theorem cw_at {dA : Nat → ClassId} {a : Nat → Nat} {Z : ZZ} {post : va_W} {t : Nat} {x : va_E} (h : t < 239) (hx : cellC dA a t (Z.1 t) (Z.2 t) = x) : (cwC dA a Z ++ post)[t]? = some (a t, x) := by
  rw [List.getElem?_append_left (by show t < (tw (cellC dA a) a 239 Z).length; unfold tw; simpa using h)]
  exact tw_at h hx
theorem cut_bit {N : NN} {W i : Nat} (hI : iN N W) (hi : i < N 1) : (msk (fun i => decide (nT N i 3 = 1)) 16).testBit i = decide (nT N i 3 = 1) := by
  have := hI.1.2.1
  rw [msk_bit, decide_eq_true (show i < 16 by omega), Bool.true_and]
theorem usd_bit (N : NN) (i : Nat) : (uBits N (N 3)).testBit i = decide (usr N i < N 3) := by
  rw [uBits_bit]
  by_cases h : usr N i < N 3
  · rw [decide_eq_true h, decide_eq_true]
    exact ⟨_, h, (fnd_lt h).1⟩
  · rw [decide_eq_false h, decide_eq_false]
    rintro ⟨k, k1, k2⟩
    refine h ?_
    have hle : ∀ m, k < m → fnd (fun i_1 => onC N i_1 i) m < m := by
      intro m
      induction m with
      | zero => intro h; omega
      | succ m ih =>
        intro hm
        unfold fnd
        by_cases c : fnd (fun i_1 => onC N i_1 i) m < m
        · rw [if_pos c]; omega
        · have : k = m := by
            by_cases q : k < m
            · exact absurd (ih q) c
            · omega
          subst this
          rw [if_neg c, if_pos k2]
          omega
    exact hle _ k1
abbrev rmL1 : Room := ({ frames := 10, cells := 10, slots := 1600, locals := 300 } : Room)
set_option maxHeartbeats 4000000 in
set_option maxRecDepth 100000 in
theorem kL_wt {l : Launch} {D : va_G} {dA : Nat → ClassId} {sa : String → Nat → Nat} (hl : l.stackTraces = false) {a : Nat → Nat} {N : NN} {W : Nat} {Z : ZZ} {lw : LW} {v cap : Nat} {f : Nat → Int32} {ml : Int32} {i : Nat} (hi : i < N 1) (hB : rB N Z 19) (hI : iN N W) (h1 : lw.1 ≤ cap) (h2 : cap ≤ 160) (hf : okb f) (ht : ∀ j, j < lw.1 → f j = nI (lw.2 j)) : CPi l D dA sa yX7_writeTrunk (wz yX7_writeTrunk cX7_writeTrunk 4 (some .int)) rmL1 [.ref (a 0), .int (nI i)] (cwC dA a Z ++ sbW dA (a 300) v cap f lw.1 ml) (fun r w => r = nI (txT N i lw.2).1 ∧ ∃ ws, sbT dA (a 300) (txT N i lw.2) ws ∧ w = cwC dA a Z ++ ws) := by
  refine xm_pi hl (by decide +kernel) (Nat.le_of_ble_eq_true rfl) rfl ?_
  intro p e s m args below meth c A Q hC hR
  show xv p l e rmL1 s m args below meth c D A 4 Q (cwC dA a Z ++ sbW dA (a 300) v cap f lw.1 ml) 0 0 0 [(0, .ref (a 0)), (1, .int (nI i))] []
  have h16 := hI.1.2.1
  have h8 := hI.1.1
  obtain ⟨t0, t1, tn, -, t2, t3, -⟩ := hI.2.1 i hi
  obtain ⟨b0, b1, b2, -⟩ := (rB19.1 hB).2.2.1 i (by omega)
  have bm := (rB19.1 hB).2.1
  have l0 := dl_1 (show min (nT N i 0) (nT N i 1) < 10 by omega)
  have l1 := dl_1 (show max (nT N i 0) (nT N i 1) < 10 by omega)
  have l2 := dl_2 (show nT N i 2 < 100 by omega)
  refine xv_aload_n (pc := 0) hC dX7_writeTrunk_0 0 rfl rfl ?_
  refine xv_iload_n (pc := 1) hC dX7_writeTrunk_1 1 rfl rfl ?_
  refine xv_callVxv (As := [.int (nI i)]) (pc := 2) (pre := []) (w0 := cwC dA a Z) (w1 := cwC dA a Z) (post := (sbW dA (a 300) v cap f lw.1 ml)) (w2 := (cwC dA a Z ++ sbW dA (a 300) v cap f lw.1 ml)) hC (kX7_needTrunk hl (nt_t hB (viB_n hi (by omega)))) fV_X7_needTrunk wf_1139 (rc_X7 (rfl : shC 0 = 1)) rfl ⟨(Nat.le_of_ble_eq_true rfl), (Nat.le_of_ble_eq_true rfl)⟩ rfl (Nat.le_of_ble_eq_true rfl) dX7_writeTrunk_2 ⟨(Nat.le_of_ble_eq_true rfl), (Nat.le_of_ble_eq_true rfl)⟩ rfl rfl (fun k9 hk9 => by cases hk9) (fun _ => ?_)
  refine xv_aload_n (pc := 5) hC dX7_writeTrunk_5 0 rfl rfl ?_
  refine xv_g7 (pc := 6) (q0 := 0) (b := a (0)) (fs := fsX7 a 0 (Z.1 0) (Z.2 0)) hC dX7_writeTrunk_6 (cw_at (by omega) (ob_X7 (rfl : shC 0 = 1) _ _)) 0 (by decide) wf_310 rfl ?_
  refine xv_g6 (pc := 9) (q0 := 19) (b := a (19)) (fs := fsX6 a 19 (Z.1 19) (Z.2 19)) hC dX7_writeTrunk_9 (cw_at (by omega) (ob_X6 (rfl : shC 19 = 13) _ _)) 0 (by decide) wf_127 rfl ?_
  refine xv_g3 (pc := 12) (q0 := 20) (b := a (20)) (fs := fsX3 a 20 (Z.1 20) (Z.2 20)) hC dX7_writeTrunk_12 (cw_at (by omega) (ob_X3 (rfl : shC 20 = 14) _ _)) 2 (by decide) wf_61 rfl ?_
  refine xv_iload_n (pc := 15) hC dX7_writeTrunk_15 1 rfl rfl ?_
  refine xv_iald (pc := 16) (q0 := 21) (n := 16) hC dX7_writeTrunk_16 (cw_at (by omega) (ar_C12 (rfl : shC 21 = 12) _ _)) (vin_n (by omega) (by decide)) ?_
  rw [show Z.1 21 (nI i).toNatClampNeg = nI (nT N i 0) by rw [cl_n (by omega)]; exact b0]
  refine xv_istore_n (pc := 17) (lv' := [(2, .int (nI (nT N i 0))), (0, .ref (a 0)), (1, .int (nI i))]) hC dX7_writeTrunk_17 rfl (by decide) rfl ?_
  refine xv_aload_n (pc := 18) hC dX7_writeTrunk_18 1 rfl rfl ?_
  refine xv_g7 (pc := 19) (q0 := 0) (b := a (0)) (fs := fsX7 a 0 (Z.1 0) (Z.2 0)) hC dX7_writeTrunk_19 (cw_at (by omega) (ob_X7 (rfl : shC 0 = 1) _ _)) 0 (by decide) wf_310 rfl ?_
  refine xv_g6 (pc := 22) (q0 := 19) (b := a (19)) (fs := fsX6 a 19 (Z.1 19) (Z.2 19)) hC dX7_writeTrunk_22 (cw_at (by omega) (ob_X6 (rfl : shC 19 = 13) _ _)) 0 (by decide) wf_127 rfl ?_
  refine xv_g3 (pc := 25) (q0 := 20) (b := a (20)) (fs := fsX3 a 20 (Z.1 20) (Z.2 20)) hC dX7_writeTrunk_25 (cw_at (by omega) (ob_X3 (rfl : shC 20 = 14) _ _)) 3 (by decide) wf_64 rfl ?_
  refine xv_iload_n (pc := 28) hC dX7_writeTrunk_28 2 rfl rfl ?_
  refine xv_iald (pc := 29) (q0 := 22) (n := 16) hC dX7_writeTrunk_29 (cw_at (by omega) (ar_C12 (rfl : shC 22 = 12) _ _)) (vin_n (by omega) (by decide)) ?_
  rw [show Z.1 22 (nI i).toNatClampNeg = nI (nT N i 1) by rw [cl_n (by omega)]; exact b1]
  refine xv_istore_n (pc := 30) (lv' := [(3, .int (nI (nT N i 1))), (2, .int (nI (nT N i 0))), (0, .ref (a 0)), (1, .int (nI i))]) hC dX7_writeTrunk_30 rfl (by decide) rfl ?_
  refine xv_aload_n (pc := 31) hC dX7_writeTrunk_31 2 rfl rfl ?_
  refine xv_g7 (pc := 32) (q0 := 0) (b := a (0)) (fs := fsX7 a 0 (Z.1 0) (Z.2 0)) hC dX7_writeTrunk_32 (cw_at (by omega) (ob_X7 (rfl : shC 0 = 1) _ _)) 7 (by decide) wf_317 rfl ?_
  refine xv_iconst (v := 0) (pc := 35) hC dX7_writeTrunk_35 (by decide) ?_
  refine xv_callVpv (As := [.int (0)]) (pc := 36) (pre := cwC dA a Z) (post := []) (w0 := (sbW dA (a 300) v cap f lw.1 ml)) hC (kS_bsl hl h1 h2 hf ht) fV_J4_setLength_d00df wf_485 ⟨0, 9, _, _, _, rfl, rfl⟩ rfl ⟨(Nat.le_of_ble_eq_true rfl), (Nat.le_of_ble_eq_true rfl)⟩ rfl (Nat.le_of_ble_eq_true rfl) dX7_writeTrunk_36 ⟨(Nat.le_of_ble_eq_true rfl), (Nat.le_of_ble_eq_true rfl)⟩ (by rw [List.append_nil]) (fun w1 h9 => ?_)
  obtain ⟨v_1, cap_1, f_1, ml_1, rfl, hA_1, hB_1, hC_1, hD_1⟩ := h9
  rw [List.append_nil]
  refine xv_aload_n (pc := 39) hC dX7_writeTrunk_39 2 rfl rfl ?_
  refine xv_g7 (pc := 40) (q0 := 0) (b := a (0)) (fs := fsX7 a 0 (Z.1 0) (Z.2 0)) hC dX7_writeTrunk_40 (cw_at (by omega) (ob_X7 (rfl : shC 0 = 1) _ _)) 7 (by decide) wf_317 rfl ?_
  refine xv_iload_n (pc := 43) hC dX7_writeTrunk_43 1 rfl rfl ?_
  refine xv_iload_n (pc := 44) hC dX7_writeTrunk_44 0 rfl rfl ?_
  refine xv_immin (pc := 45) hC dX7_writeTrunk_45 wf_869 fm_min (Nat.le_of_ble_eq_true rfl) (Nat.le_of_ble_eq_true rfl) (Nat.le_of_ble_eq_true rfl) (Nat.le_of_ble_eq_true rfl) ?_
  rw [imin_nn (by omega) (by omega)]
  have n1 : (pnum (0, lw.2) (min (nT N i 0) (nT N i 1))).1 = 1 := by rw [pnum_1, l0]
  have n2 : (psh (pnum (0, lw.2) (min (nT N i 0) (nT N i 1))) 45).1 = 2 := by rw [psh_1, n1]
  have n3 : (pnum (psh (pnum (0, lw.2) (min (nT N i 0) (nT N i 1))) 45) (max (nT N i 0) (nT N i 1))).1 = 3 := by rw [pnum_1, l1, n2]
  have n4 : (psh (pnum (psh (pnum (0, lw.2) (min (nT N i 0) (nT N i 1))) 45) (max (nT N i 0) (nT N i 1))) 61).1 = 4 := by rw [psh_1, n3]
  have n5u : (pnum (psh (pnum (psh (pnum (0, lw.2) (min (nT N i 0) (nT N i 1))) 45) (max (nT N i 0) (nT N i 1))) 61) (nT N i 2)).1 ≤ 6 := by rw [pnum_1, n4]; omega
  have n5 : (txT0 N i lw.2).1 ≤ 6 := by show (pnum (psh (pnum (psh (pnum (0, lw.2) (min (nT N i 0) (nT N i 1))) 45) (max (nT N i 0) (nT N i 1))) 61) (nT N i 2)).1 ≤ 6; rw [pnum_1, n4]; omega
  refine xv_callVpr (As := [.int (nI (min (nT N i 0) (nT N i 1)))]) (pc := 48) (pre := cwC dA a Z) (post := []) (w0 := (sbW dA (a 300) v_1 cap_1 f_1 ((0, lw.2) : LW).1 ml_1)) hC (kS_bpi hl hA_1 hB_1 hC_1 hD_1 (by omega) (by rw [l0]; show 0 + 1 ≤ 80; omega)) fV_J4_append_bf812 wf_852 ⟨0, 9, _, _, _, rfl, rfl⟩ rfl ⟨(Nat.le_of_ble_eq_true rfl), (Nat.le_of_ble_eq_true rfl)⟩ rfl (Nat.le_of_ble_eq_true rfl) dX7_writeTrunk_48 ⟨(Nat.le_of_ble_eq_true rfl), (Nat.le_of_ble_eq_true rfl)⟩ (by rw [List.append_nil]) (fun w1 a9 h9 => ?_)
  obtain ⟨rfl, v_2, cap_2, f_2, ml_2, rfl, hA_2, hB_2, hC_2, hD_2⟩ := h9
  rw [List.append_nil]
  refine xv_bipush (v := 45) (pc := 51) hC dX7_writeTrunk_51 (by decide) ?_
  refine xv_callVpr (As := [.int (nI 45)]) (pc := 53) (pre := cwC dA a Z) (post := []) (w0 := (sbW dA (a 300) v_2 cap_2 f_2 (pnum (0, lw.2) (min (nT N i 0) (nT N i 1))).1 ml_2)) hC (kS_bpc hl hA_2 hB_2 hC_2 hD_2 (by omega) (by rw [n1]; omega)) fV_J4_append_cf468 wf_830 ⟨0, 9, _, _, _, rfl, rfl⟩ rfl ⟨(Nat.le_of_ble_eq_true rfl), (Nat.le_of_ble_eq_true rfl)⟩ rfl (Nat.le_of_ble_eq_true rfl) dX7_writeTrunk_53 ⟨(Nat.le_of_ble_eq_true rfl), (Nat.le_of_ble_eq_true rfl)⟩ (by rw [List.append_nil]) (fun w1 a9 h9 => ?_)
  obtain ⟨rfl, v_3, cap_3, f_3, ml_3, rfl, hA_3, hB_3, hC_3, hD_3⟩ := h9
  rw [List.append_nil]
  refine xv_iload_n (pc := 56) hC dX7_writeTrunk_56 1 rfl rfl ?_
  refine xv_iload_n (pc := 57) hC dX7_writeTrunk_57 0 rfl rfl ?_
  refine xv_immax (pc := 58) hC dX7_writeTrunk_58 wf_1392 fm_max (Nat.le_of_ble_eq_true rfl) (Nat.le_of_ble_eq_true rfl) (Nat.le_of_ble_eq_true rfl) (Nat.le_of_ble_eq_true rfl) ?_
  rw [imax_nn (by omega) (by omega)]
  refine xv_callVpr (As := [.int (nI (max (nT N i 0) (nT N i 1)))]) (pc := 61) (pre := cwC dA a Z) (post := []) (w0 := (sbW dA (a 300) v_3 cap_3 f_3 (psh (pnum (0, lw.2) (min (nT N i 0) (nT N i 1))) 45).1 ml_3)) hC (kS_bpi hl hA_3 hB_3 hC_3 hD_3 (by omega) (by rw [l1, n2]; omega)) fV_J4_append_bf812 wf_852 ⟨0, 9, _, _, _, rfl, rfl⟩ rfl ⟨(Nat.le_of_ble_eq_true rfl), (Nat.le_of_ble_eq_true rfl)⟩ rfl (Nat.le_of_ble_eq_true rfl) dX7_writeTrunk_61 ⟨(Nat.le_of_ble_eq_true rfl), (Nat.le_of_ble_eq_true rfl)⟩ (by rw [List.append_nil]) (fun w1 a9 h9 => ?_)
  obtain ⟨rfl, v_4, cap_4, f_4, ml_4, rfl, hA_4, hB_4, hC_4, hD_4⟩ := h9
  rw [List.append_nil]
  refine xv_pop (pc := 64) hC dX7_writeTrunk_64 rfl ?_
  refine xv_aload_n (pc := 65) hC dX7_writeTrunk_65 2 rfl rfl ?_
  refine xv_g7 (pc := 66) (q0 := 0) (b := a (0)) (fs := fsX7 a 0 (Z.1 0) (Z.2 0)) hC dX7_writeTrunk_66 (cw_at (by omega) (ob_X7 (rfl : shC 0 = 1) _ _)) 7 (by decide) wf_317 rfl ?_
  refine xv_bipush (v := 61) (pc := 69) hC dX7_writeTrunk_69 (by decide) ?_
  refine xv_callVpr (As := [.int (nI 61)]) (pc := 71) (pre := cwC dA a Z) (post := []) (w0 := (sbW dA (a 300) v_4 cap_4 f_4 (pnum (psh (pnum (0, lw.2) (min (nT N i 0) (nT N i 1))) 45) (max (nT N i 0) (nT N i 1))).1 ml_4)) hC (kS_bpc hl hA_4 hB_4 hC_4 hD_4 (by omega) (by rw [n3]; omega)) fV_J4_append_cf468 wf_830 ⟨0, 9, _, _, _, rfl, rfl⟩ rfl ⟨(Nat.le_of_ble_eq_true rfl), (Nat.le_of_ble_eq_true rfl)⟩ rfl (Nat.le_of_ble_eq_true rfl) dX7_writeTrunk_71 ⟨(Nat.le_of_ble_eq_true rfl), (Nat.le_of_ble_eq_true rfl)⟩ (by rw [List.append_nil]) (fun w1 a9 h9 => ?_)
  obtain ⟨rfl, v_5, cap_5, f_5, ml_5, rfl, hA_5, hB_5, hC_5, hD_5⟩ := h9
  rw [List.append_nil]
  refine xv_aload_n (pc := 74) hC dX7_writeTrunk_74 2 rfl rfl ?_
  refine xv_g7 (pc := 75) (q0 := 0) (b := a (0)) (fs := fsX7 a 0 (Z.1 0) (Z.2 0)) hC dX7_writeTrunk_75 (cw_at (by omega) (ob_X7 (rfl : shC 0 = 1) _ _)) 0 (by decide) wf_310 rfl ?_
  refine xv_g6 (pc := 78) (q0 := 19) (b := a (19)) (fs := fsX6 a 19 (Z.1 19) (Z.2 19)) hC dX7_writeTrunk_78 (cw_at (by omega) (ob_X6 (rfl : shC 19 = 13) _ _)) 0 (by decide) wf_127 rfl ?_
  refine xv_g3 (pc := 81) (q0 := 20) (b := a (20)) (fs := fsX3 a 20 (Z.1 20) (Z.2 20)) hC dX7_writeTrunk_81 (cw_at (by omega) (ob_X3 (rfl : shC 20 = 14) _ _)) 4 (by decide) wf_67 rfl ?_
  refine xv_iload_n (pc := 84) hC dX7_writeTrunk_84 3 rfl rfl ?_
  refine xv_iald (pc := 85) (q0 := 23) (n := 16) hC dX7_writeTrunk_85 (cw_at (by omega) (ar_C12 (rfl : shC 23 = 12) _ _)) (vin_n (by omega) (by decide)) ?_
  rw [show Z.1 23 (nI i).toNatClampNeg = nI (nT N i 2) by rw [cl_n (by omega)]; exact b2]
  refine xv_callVpr (As := [.int (nI (nT N i 2))]) (pc := 86) (pre := cwC dA a Z) (post := []) (w0 := (sbW dA (a 300) v_5 cap_5 f_5 (psh (pnum (psh (pnum (0, lw.2) (min (nT N i 0) (nT N i 1))) 45) (max (nT N i 0) (nT N i 1))) 61).1 ml_5)) hC (kS_bpi hl hA_5 hB_5 hC_5 hD_5 (by omega) (by rw [n4]; omega)) fV_J4_append_bf812 wf_852 ⟨0, 9, _, _, _, rfl, rfl⟩ rfl ⟨(Nat.le_of_ble_eq_true rfl), (Nat.le_of_ble_eq_true rfl)⟩ rfl (Nat.le_of_ble_eq_true rfl) dX7_writeTrunk_86 ⟨(Nat.le_of_ble_eq_true rfl), (Nat.le_of_ble_eq_true rfl)⟩ (by rw [List.append_nil]) (fun w1 a9 h9 => ?_)
  obtain ⟨rfl, v_6, cap_6, f_6, ml_6, rfl, hA_6, hB_6, hC_6, hD_6⟩ := h9
  rw [List.append_nil]
  refine xv_pop (pc := 89) hC dX7_writeTrunk_89 rfl ?_
  have fin : ∀ (LX : LW) (vX capX : Nat) (fX : Nat → Int32) (mlX : Int32) (cells slots : Nat), LX = txT N i lw.2 → cells ≤ 9 → slots ≤ 1500 → LX.1 ≤ capX → capX ≤ 160 → okb fX → (∀ j, j < LX.1 → fX j = nI (LX.2 j)) → xv p l e rmL1 s m args below meth c D A 4 Q (cwC dA a Z ++ sbW dA (a 300) vX capX fX LX.1 mlX) cells slots 144 [(3, .int (nI (nT N i 1))), (2, .int (nI (nT N i 0))), (0, .ref (a 0)), (1, .int (nI i))] [] := by
    intro LX vX capX fX mlX cells slots hLX hc9 hs9 g1 g2 g3 g4
    refine xv_aload_n (pc := 144) hC dX7_writeTrunk_144 2 rfl rfl ?_
    refine xv_g7 (pc := 145) (q0 := 0) (b := a (0)) (fs := fsX7 a 0 (Z.1 0) (Z.2 0)) hC dX7_writeTrunk_145 (cw_at (by omega) (ob_X7 (rfl : shC 0 = 1) _ _)) 7 (by decide) wf_317 rfl ?_
    refine xv_callVi (As := []) (pc := 148) (pre := cwC dA a Z) (post := []) (w0 := sbW dA (a 300) vX capX fX LX.1 mlX) (w1 := sbW dA (a 300) vX capX fX LX.1 mlX) hC (kS_ble hl) fV_J4_length_8abf5 wf_853 ⟨0, 9, _, _, _, rfl, rfl⟩ rfl ⟨(Nat.le_of_ble_eq_true rfl), (Nat.le_of_ble_eq_true rfl)⟩ rfl (Nat.le_of_ble_eq_true rfl) dX7_writeTrunk_148 ⟨by show cells + 0 ≤ 10; omega, by show slots + 0 ≤ 1600; omega⟩ (by rw [List.append_nil]) rfl ?_
    rw [List.append_nil]
    subst hLX
    exact hR _ _ _ _ _ _ ⟨rfl, _, ⟨vX, capX, fX, mlX, rfl, g1, g2, g3, g4⟩, rfl⟩ (by show cells + 0 ≤ 10; omega) (by show slots + 0 ≤ 1600; omega) dX7_writeTrunk_151
  refine xv_aload_n (pc := 90) hC dX7_writeTrunk_90 2 rfl rfl ?_
  refine xv_g7 (pc := 91) (q0 := 0) (b := a (0)) (fs := fsX7 a 0 (Z.1 0) (Z.2 0)) hC dX7_writeTrunk_91 (cw_at (by omega) (ob_X7 (rfl : shC 0 = 1) _ _)) 0 (by decide) wf_310 rfl ?_
  refine xv_g6 (pc := 94) (q0 := 19) (b := a (19)) (fs := fsX6 a 19 (Z.1 19) (Z.2 19)) hC dX7_writeTrunk_94 (cw_at (by omega) (ob_X6 (rfl : shC 19 = 13) _ _)) 0 (by decide) wf_127 rfl ?_
  refine xv_g3 (pc := 97) (q0 := 20) (b := a (20)) (fs := fsX3 a 20 (Z.1 20) (Z.2 20)) hC dX7_writeTrunk_97 (cw_at (by omega) (ob_X3 (rfl : shC 20 = 14) _ _)) 6 (by decide) wf_72 rfl ?_
  refine xv_iload_n (pc := 100) hC dX7_writeTrunk_100 3 rfl rfl ?_
  rw [show (Z.1 20 6 : Int32) = nI (msk (fun i => decide (nT N i 3 = 1)) 16) from bm]
  refine xv_callSi (As := [.int (nI (msk (fun i => decide (nT N i 3 = 1)) 16)), .int (nI i)]) (pc := 101) (pre := []) (w0 := cwC dA a Z) (w1 := cwC dA a Z) (post := (sbW dA (a 300) v_6 cap_6 f_6 (txT0 N i lw.2).1 ml_6)) (w2 := cwC dA a Z ++ (sbW dA (a 300) v_6 cap_6 f_6 (txT0 N i lw.2).1 ml_6)) hC (kX7_hasBit (a := a) hl (p_hasBit (Z := Z) (m := msk (fun i => decide (nT N i 3 = 1)) 16) (i := i) (by have := msk_lt (fun i => decide (nT N i 3 = 1)) 16; omega) (by omega))) fS_X7_hasBit wf_1161 rfl ⟨(Nat.le_of_ble_eq_true rfl), (Nat.le_of_ble_eq_true rfl)⟩ rfl (Nat.le_of_ble_eq_true rfl) dX7_writeTrunk_101 ⟨(Nat.le_of_ble_eq_true rfl), (Nat.le_of_ble_eq_true rfl)⟩ rfl rfl ?_
  rw [cut_bit hI hi]
  by_cases c1 : nT N i 3 = 1
  · rw [decide_eq_true c1, if_pos rfl]
    refine xv_if_eq (tgt := 120) (pc := 104) hC dX7_writeTrunk_104 (by decide) (fun c9 => absurd c9 (show ¬ (1 : Int32) = 0 by decide)) (fun _ => ?_)
    refine xv_aload_n (pc := 107) hC dX7_writeTrunk_107 2 rfl rfl ?_
    refine xv_g7 (pc := 108) (q0 := 0) (b := a (0)) (fs := fsX7 a 0 (Z.1 0) (Z.2 0)) hC dX7_writeTrunk_108 (cw_at (by omega) (ob_X7 (rfl : shC 0 = 1) _ _)) 7 (by decide) wf_317 rfl ?_
    refine xv_bipush (v := 120) (pc := 111) hC dX7_writeTrunk_111 (by decide) ?_
    refine xv_callVpr (As := [.int (nI 120)]) (pc := 113) (pre := cwC dA a Z) (post := []) (w0 := (sbW dA (a 300) v_6 cap_6 f_6 (txT0 N i lw.2).1 ml_6)) hC (kS_bpc hl hA_6 hB_6 hC_6 hD_6 (by omega) (by omega)) fV_J4_append_cf468 wf_830 ⟨0, 9, _, _, _, rfl, rfl⟩ rfl ⟨(Nat.le_of_ble_eq_true rfl), (Nat.le_of_ble_eq_true rfl)⟩ rfl (Nat.le_of_ble_eq_true rfl) dX7_writeTrunk_113 ⟨(Nat.le_of_ble_eq_true rfl), (Nat.le_of_ble_eq_true rfl)⟩ (by rw [List.append_nil]) (fun w1 a9 h9 => ?_)
    obtain ⟨rfl, v_7, cap_7, f_7, ml_7, rfl, hA_7, hB_7, hC_7, hD_7⟩ := h9
    rw [List.append_nil]
    refine xv_pop (pc := 116) hC dX7_writeTrunk_116 rfl ?_
    refine xv_goto (tgt := 144) (pc := 117) hC dX7_writeTrunk_117 (by decide) ?_
    exact fin _ _ _ _ _ _ _ (by unfold txT; rw [if_pos c1]; rfl) (Nat.le_of_ble_eq_true rfl) (Nat.le_of_ble_eq_true rfl) hA_7 hB_7 hC_7 hD_7
  · rw [decide_eq_false c1, if_neg (by decide)]
    refine xv_if_eq (tgt := 120) (pc := 104) hC dX7_writeTrunk_104 (by decide) (fun _ => ?_) (fun c9 => absurd (rfl : (0 : Int32) = 0) c9)
    refine xv_aload_n (pc := 120) hC dX7_writeTrunk_120 2 rfl rfl ?_
    refine xv_g7 (pc := 121) (q0 := 0) (b := a (0)) (fs := fsX7 a 0 (Z.1 0) (Z.2 0)) hC dX7_writeTrunk_121 (cw_at (by omega) (ob_X7 (rfl : shC 0 = 1) _ _)) 0 (by decide) wf_310 rfl ?_
    refine xv_callVi (As := []) (pc := 124) (pre := []) (w0 := cwC dA a Z) (w1 := cwC dA a Z) (post := (sbW dA (a 300) v_6 cap_6 f_6 (txT0 N i lw.2).1 ml_6)) (w2 := cwC dA a Z ++ (sbW dA (a 300) v_6 cap_6 f_6 (txT0 N i lw.2).1 ml_6)) hC (kX6_usedTrunks hl (p_usedTrunks hB hI)) fV_X6_usedTrunks wf_1383 (rc_X6 (rfl : shC 19 = 13)) rfl ⟨(Nat.le_of_ble_eq_true rfl), (Nat.le_of_ble_eq_true rfl)⟩ rfl (Nat.le_of_ble_eq_true rfl) dX7_writeTrunk_124 ⟨(Nat.le_of_ble_eq_true rfl), (Nat.le_of_ble_eq_true rfl)⟩ rfl rfl ?_
    refine xv_iload_n (pc := 127) hC dX7_writeTrunk_127 3 rfl rfl ?_
    refine xv_callSi (As := [.int (nI (uBits N (N 3))), .int (nI i)]) (pc := 128) (pre := []) (w0 := cwC dA a Z) (w1 := cwC dA a Z) (post := (sbW dA (a 300) v_6 cap_6 f_6 (txT0 N i lw.2).1 ml_6)) (w2 := cwC dA a Z ++ (sbW dA (a 300) v_6 cap_6 f_6 (txT0 N i lw.2).1 ml_6)) hC (kX7_hasBit (a := a) hl (p_hasBit (Z := Z) (m := uBits N (N 3)) (i := i) (by have := uBits_lt hI (N 3) (Nat.le_refl _); omega) (by omega))) fS_X7_hasBit wf_1161 rfl ⟨(Nat.le_of_ble_eq_true rfl), (Nat.le_of_ble_eq_true rfl)⟩ rfl (Nat.le_of_ble_eq_true rfl) dX7_writeTrunk_128 ⟨(Nat.le_of_ble_eq_true rfl), (Nat.le_of_ble_eq_true rfl)⟩ rfl rfl ?_
    rw [usd_bit]
    by_cases c2 : usr N i < N 3
    · rw [decide_eq_true c2, if_pos rfl]
      refine xv_if_eq (tgt := 144) (pc := 131) hC dX7_writeTrunk_131 (by decide) (fun c9 => absurd c9 (show ¬ (1 : Int32) = 0 by decide)) (fun _ => ?_)
      refine xv_aload_n (pc := 134) hC dX7_writeTrunk_134 2 rfl rfl ?_
      refine xv_g7 (pc := 135) (q0 := 0) (b := a (0)) (fs := fsX7 a 0 (Z.1 0) (Z.2 0)) hC dX7_writeTrunk_135 (cw_at (by omega) (ob_X7 (rfl : shC 0 = 1) _ _)) 7 (by decide) wf_317 rfl ?_
      refine xv_bipush (v := 42) (pc := 138) hC dX7_writeTrunk_138 (by decide) ?_
      refine xv_callVpr (As := [.int (nI 42)]) (pc := 140) (pre := cwC dA a Z) (post := []) (w0 := (sbW dA (a 300) v_6 cap_6 f_6 (txT0 N i lw.2).1 ml_6)) hC (kS_bpc hl hA_6 hB_6 hC_6 hD_6 (by omega) (by omega)) fV_J4_append_cf468 wf_830 ⟨0, 9, _, _, _, rfl, rfl⟩ rfl ⟨(Nat.le_of_ble_eq_true rfl), (Nat.le_of_ble_eq_true rfl)⟩ rfl (Nat.le_of_ble_eq_true rfl) dX7_writeTrunk_140 ⟨(Nat.le_of_ble_eq_true rfl), (Nat.le_of_ble_eq_true rfl)⟩ (by rw [List.append_nil]) (fun w1 a9 h9 => ?_)
      obtain ⟨rfl, v_8, cap_8, f_8, ml_8, rfl, hA_8, hB_8, hC_8, hD_8⟩ := h9
      rw [List.append_nil]
      refine xv_pop (pc := 143) hC dX7_writeTrunk_143 rfl ?_
      exact fin _ _ _ _ _ _ _ (by unfold txT; rw [if_neg c1, if_pos c2]; rfl) (Nat.le_of_ble_eq_true rfl) (Nat.le_of_ble_eq_true rfl) hA_8 hB_8 hC_8 hD_8
    · rw [decide_eq_false c2, if_neg (by decide)]
      refine xv_if_eq (tgt := 144) (pc := 131) hC dX7_writeTrunk_131 (by decide) (fun _ => ?_) (fun c9 => absurd (rfl : (0 : Int32) = 0) c9)
      exact fin _ _ _ _ _ _ _ (by unfold txT; rw [if_neg c1, if_neg c2]) (Nat.le_of_ble_eq_true rfl) (Nat.le_of_ble_eq_true rfl) hA_6 hB_6 hC_6 hD_6
