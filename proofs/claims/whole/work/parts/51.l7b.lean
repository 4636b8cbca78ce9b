theorem wf_1632 : Cond.code ⟨"SwitchboardModel", "thrown", "()I"⟩ prog_10_method_2_code 1 (some .int) ∈ WT := wt_of (i := 1632) (by decide +kernel) rfl
theorem wf_1630 : Cond.instanceMethod ⟨"SwitchboardModel", "thrown", "()I"⟩ ∈ WT := wt_of (i := 1630) (by decide +kernel) rfl
theorem wf_1631 : Cond.selects "SwitchboardModel" ⟨"SwitchboardModel", "thrown", "()I"⟩ ⟨"SwitchboardModel", "thrown", "()I"⟩ ∈ WT := wt_of (i := 1631) (by decide +kernel) rfl
theorem fV_X8_thrown : cfV yX8_thrown cX8_thrown 1 (some .int) 0 := ⟨⟨⟨by decide +kernel, by decide +kernel, by decide +kernel⟩, wf_13, wf_1632⟩, wf_1630, wf_1631⟩
theorem wf_1629 : Cond.methodLink "SwitchboardLaw" 160 ⟨"SwitchboardModel", "thrown", "()I"⟩ ∈ WT := wt_of (i := 1629) (by decide +kernel) rfl
/-! the law: calls that answer floats; the tails *)-/
section CVD
variable {p : Program} {l : Launch} {e : Env} {R : Room} {s : State} {m : MethodId} {args : Array Value} {below : List Frame} {meth : Method} {c : Code} {Q : State → Prop} {D : va_G} {dA : Nat → ClassId} {sa : String → Nat → Nat} {A : Nat → Prop} {cc : ByteArray} {nL cells slots pc : Nat} {own : String} {w w2 : va_W} {lv lv' : List (Nat × Value)} {st st0 rest : List Value} {cw : Cond}
variable {y : MethodName} {bytes : ByteArray} {maxL n index : Nat} {ret : Option FieldType} {rm : Room} {As : List Value} {b : Nat} {pre post w0 w1 : va_W}
theorem xv_callVd (C : xv_C p l s m args meth c D dA sa A cc nL own (cw :: WT)) {v : UInt64} (M : CTd l D dA sa y (wz y bytes maxL ret) rm (.ref b :: As) w0 v w1) (f : cfV y bytes maxL ret n) (hk9 : Cond.methodLink own index y ∈ WT) (hrc : ∃ (q0 ci : Nat) (fs : List Value) (T : u_T) (N : Nat), w0[q0]? = some (b, .inr (ci, fs)) ∧ vwC[ci]? = some (y.cls, T, N)) (hn : As.length = n) (hR : rm.frames + 1 ≤ R.frames ∧ 8 + (maxL + 11) + rm.locals ≤ R.locals) (hst : st0 = As.reverse ++ .ref b :: st) (hcat : (st.map fun v => v.category).sum ≤ 8) (d : decode cc pc = .ok (.invokevirtual index, 3)) (hcs : cells + rm.cells ≤ R.cells ∧ slots + rm.slots ≤ R.slots) (hw : w = pre ++ (w0 ++ post)) (hw2 : w2 = pre ++ (w1 ++ post)) (k : xv p l e R s m args below meth c D A nL Q w2 (cells + rm.cells) (slots + rm.slots) (pc + 3) lv (.double v :: st)) : xv p l e R s m args below meth c D A nL Q w cells slots pc lv st0 := by
  intro H locs ls hP hD hS hl
  subst hw; subst hw2
  obtain ⟨q0, ci, fs, T, N, hq0, hvc⟩ := hrc
  have hF := wf_free hP hD hS C.2.2.1
  refine va_calld (va_runV (As := As) (rest := st) C.1 (M H.size) (cwV n C.1.2.2.2.2 (gi_wt (ws := wsV own index y.cls y (wz y bytes maxL ret)) (fun x hx => by
      rcases List.mem_append.mp hx with h | h
      · rcases List.mem_cons.mp h with rfl | h
        · exact hk9
        · rcases List.mem_cons.mp h with rfl | h
          · exact f.2.1
          · rcases List.mem_cons.mp h with rfl | h
            · exact f.2.2
            · rcases List.mem_cons.mp h with rfl | h
              · exact f.1.2.1
              · exact absurd h List.not_mem_nil
      · rcases List.mem_cons.mp h with rfl | h
        · exact f.1.2.2
        · exact h)) rfl rfl rfl ⟨rfl, f.1.1⟩ hR) ⟨xP_blind, va_recv C.2.1 (wp_l (wp_r hP)) hvc hq0, xq_pre C hP hD hS⟩ rfl hn hl.1 hst (lv_room hcat) d hcs) hS (fun q _ h => hF q h) hF ?_
  intro r9 u t H1 locs1 ht hvm hp hb hz hk1 hS1
  obtain ⟨b1, b2, b3⟩ := hb
  rw [ht] at b1
  obtain ⟨j1, j2⟩ := wj_join hP hD hk1 hF b1 b3
  have hp : r9 = v := hp
  subst hp
  exact k H1 locs1 ls j1 j2 hS1 hl
theorem xv_callVf (C : xv_C p l s m args meth c D dA sa A cc nL own (cw :: WT)) {v : UInt32} (M : CTf l D dA sa y (wz y bytes maxL ret) rm (.ref b :: As) w0 v w1) (f : cfV y bytes maxL ret n) (hk9 : Cond.methodLink own index y ∈ WT) (hrc : ∃ (q0 ci : Nat) (fs : List Value) (T : u_T) (N : Nat), w0[q0]? = some (b, .inr (ci, fs)) ∧ vwC[ci]? = some (y.cls, T, N)) (hn : As.length = n) (hR : rm.frames + 1 ≤ R.frames ∧ 8 + (maxL + 11) + rm.locals ≤ R.locals) (hst : st0 = As.reverse ++ .ref b :: st) (hcat : (st.map fun v => v.category).sum ≤ 8) (d : decode cc pc = .ok (.invokevirtual index, 3)) (hcs : cells + rm.cells ≤ R.cells ∧ slots + rm.slots ≤ R.slots) (hw : w = pre ++ (w0 ++ post)) (hw2 : w2 = pre ++ (w1 ++ post)) (k : xv p l e R s m args below meth c D A nL Q w2 (cells + rm.cells) (slots + rm.slots) (pc + 3) lv (.float v :: st)) : xv p l e R s m args below meth c D A nL Q w cells slots pc lv st0 := by
  intro H locs ls hP hD hS hl
  subst hw; subst hw2
  obtain ⟨q0, ci, fs, T, N, hq0, hvc⟩ := hrc
  have hF := wf_free hP hD hS C.2.2.1
  refine va_callf (va_runV (As := As) (rest := st) C.1 (M H.size) (cwV n C.1.2.2.2.2 (gi_wt (ws := wsV own index y.cls y (wz y bytes maxL ret)) (fun x hx => by
      rcases List.mem_append.mp hx with h | h
      · rcases List.mem_cons.mp h with rfl | h
        · exact hk9
        · rcases List.mem_cons.mp h with rfl | h
          · exact f.2.1
          · rcases List.mem_cons.mp h with rfl | h
            · exact f.2.2
            · rcases List.mem_cons.mp h with rfl | h
              · exact f.1.2.1
              · exact absurd h List.not_mem_nil
      · rcases List.mem_cons.mp h with rfl | h
        · exact f.1.2.2
        · exact h)) rfl rfl rfl ⟨rfl, f.1.1⟩ hR) ⟨xP_blind, va_recv C.2.1 (wp_l (wp_r hP)) hvc hq0, xq_pre C hP hD hS⟩ rfl hn hl.1 hst (lv_room hcat) d hcs) hS (fun q _ h => hF q h) hF ?_
  intro r9 u t H1 locs1 ht hvm hp hb hz hk1 hS1
  obtain ⟨b1, b2, b3⟩ := hb
  rw [ht] at b1
  obtain ⟨j1, j2⟩ := wj_join hP hD hk1 hF b1 b3
  have hp : r9 = v := hp
  subst hp
  exact k H1 locs1 ls j1 j2 hS1 hl
theorem xv_dcmp (C : xv_C p l s m args meth c D dA sa A cc nL own (cw :: WT)) {x y : UInt64} {op : CmpOp} (d : decode cc pc = .ok (.dcmp op, 1)) (k : xv p l e R s m args below meth c D A nL Q w cells slots (pc + 1) lv (.int (Op.cmpValue (FP.dcmp x y) op) :: st)) : xv p l e R s m args below meth c D A nL Q w cells slots pc lv (.double y :: .double x :: st) := fun H locs ls hP hD hS hl => lv_dcmp C.1.1 C.1.2.1 d (k H locs ls hP hD hS hl)
theorem xv_fcmp (C : xv_C p l s m args meth c D dA sa A cc nL own (cw :: WT)) {x y : UInt32} {op : CmpOp} (d : decode cc pc = .ok (.fcmp op, 1)) (k : xv p l e R s m args below meth c D A nL Q w cells slots (pc + 1) lv (.int (Op.cmpValue (FP.fcmp x y) op) :: st)) : xv p l e R s m args below meth c D A nL Q w cells slots pc lv (.float y :: .float x :: st) := fun H locs ls hP hD hS hl => lv_fcmp C.1.1 C.1.2.1 d (k H locs ls hP hD hS hl)
end CVD
theorem dc_same {x y : UInt64} (h : x = y) (hx : vf_n64 y) : Op.cmpValue (FP.dcmp x y) .l = 0 := by
  subst h
  have h1 : Jvm.FP.Core.val64 x ≠ .nan := fun q => by
    have h2 : Jvm.FP.Core.dIsNaN x = true := decide_eq_true q
    have h3 := (Jvm.FP.Core.isNaN_bits x).mp h2
    unfold vf_n64 at hx
    rw [UInt64.le_iff_toNat_le, UInt64.toNat_and, u64_a, u64_b] at hx
    have e := Nat.and_two_pow_sub_one_eq_mod x.toNat 63
    have e2 : (2 : Nat) ^ 63 - 1 = 9223372036854775807 := by decide +kernel
    rw [e2] at e
    rw [e] at hx
    exact absurd h3 (Nat.not_lt.mpr hx)
  rw [Jvm.FP.dcmp_core, Jvm.FP.Core.dcmp_self h1]
  rfl
section LAT
variable {p : Program} {l : Launch} {e : Env} {s : State} {m : MethodId} {below : List Frame} {meth : Method} {c : Code} {Q : State → Prop} {D : va_G} {dA : Nat → ClassId} {sa : String → Nat → Nat} {cells slots pc : Nat} {w w2 : va_W} {lv lv' : List (Nat × Value)} {st st0 : List Value} {cw : Cond} {b L : Nat} {xs : Nat → Int32} {a a' : Nat → Nat} {ao od j : Nat}
variable {Zc Zc' Zr Zr' : ZZ} {g g1 : Nat → Int64} {gD gD1 : Nat → UInt64} {ws ws' : va_W} {q : Nat}
theorem tl_int (C : lC p l s m b meth c D dA sa cw) (hl : l.stackTraces = false) {off : Int} {r rr : Int32} (d0 : decode code q = .ok (.istore 7, 2)) (d2 : decode code (q + 2) = .ok (.aload_n 2, 1)) (d3 : decode code (q + 3) = .ok (.invokevirtual 160, 3)) (d6 : decode code (q + 6) = .ok (.iload 6, 2)) (d8 : decode code (q + 8) = .ok (.if_icmp .eq 5, 3)) (d13 : decode code (q + 13) = .ok (.iload 6, 2)) (d15 : decode code (q + 15) = .ok (.ifCond .ne 15, 3)) (d18 : decode code (q + 18) = .ok (.aload_n 3, 1)) (d19 : decode code (q + 19) = .ok (.iconst 0, 1)) (d20 : decode code (q + 20) = .ok (.laload, 1)) (d21 : decode code (q + 21) = .ok (.iload 7, 2)) (d23 : decode code (q + 23) = .ok (.i2l, 1)) (d24 : decode code (q + 24) = .ok (.lcmp, 1)) (d25 : decode code (q + 25) = .ok (.ifCond .eq 5, 3)) (d30 : decode code (q + 30) = .ok (.goto off, 3)) (ho : ((q + 30 : Nat) : Int) + off = ((2722 : Nat) : Int)) (hc : cells ≤ 603072) (hq : slots ≤ 7190634) (hr : gI Zr 0 8 = r ∧ (r = 0 → g1 0 = cvI rr)) (K : xL p l e s m b below meth c D Q (wLw dA a a' ao od Zc g1 Zr ws gD) cells slots 2722 (lvL b a a' ao od j) []) : xL p l e s m b below meth c D Q (wLw dA a a' ao od Zc g1 Zr ws gD) cells slots q ((6, .int r) :: lvL b a a' ao od j) [.int rr] := by
  have fin : xL p l e s m b below meth c D Q (wLw dA a a' ao od Zc g1 Zr ws gD) cells slots (q + 30) ((7, .int rr) :: (6, .int r) :: lvL b a a' ao od j) [] := by
    refine xv_goto (tgt := 2722) (pc := q + 30) C d30 ho ?_
    exact xv_sub [2, 3, 4, 5, 6, 7] rfl K
  refine xv_istore (pc := q) (lv' := ((7, .int rr) :: (6, .int r) :: lvL b a a' ao od j)) C d0 (by decide) rfl ?_
  refine xv_aload_n (pc := q + 2) C d2 5 rfl rfl ?_
  refine xl_rf (As := []) (pc := q + 3) (n := 0) C (kX8_thrown hl rfl) rfl fV_X8_thrown wf_1629 rfl ⟨(Nat.le_of_ble_eq_true rfl), (Nat.le_of_ble_eq_true rfl)⟩ rfl (Nat.le_of_ble_eq_true rfl) d3 ⟨rfl, rfl⟩ hc hq ?_
  refine xv_iload (pc := q + 6) C d6 1 rfl ?_
  refine xv_icmp_eq (tgt := q + 13) (pc := q + 8) C d8 (by omega) (fun _ => ?_) (fun c9 => absurd hr.1 c9)
  refine xv_iload (pc := q + 13) C d13 1 rfl ?_
  refine xv_if_ne (tgt := q + 30) (pc := q + 15) C d15 (by omega) (fun _ => fin) (fun c9 => ?_)
  refine xv_aload_n (pc := q + 18) C d18 4 rfl rfl ?_
  refine xv_iconst (v := 0) (pc := q + 19) C d19 (by decide) ?_
  refine xl_out (pc := q + 20) C d20 ?_
  refine xv_iload (pc := q + 21) C d21 0 rfl ?_
  refine xv_i2l (pc := q + 23) C d23 ?_
  refine xv_lcmp (pc := q + 24) C d24 ?_
  exact xv_if_eq (tgt := q + 30) (pc := q + 25) C d25 (by omega) (fun _ => fin) (fun c8 => absurd (lg_same (hr.2 c9)) c8)
theorem tl_bool (C : lC p l s m b meth c D dA sa cw) (hl : l.stackTraces = false) {off : Int} {r rr : Int32} (d0 : decode code q = .ok (.istore 7, 2)) (d2 : decode code (q + 2) = .ok (.aload_n 2, 1)) (d3 : decode code (q + 3) = .ok (.invokevirtual 160, 3)) (d6 : decode code (q + 6) = .ok (.iload 6, 2)) (d8 : decode code (q + 8) = .ok (.if_icmp .eq 5, 3)) (d13 : decode code (q + 13) = .ok (.iload 6, 2)) (d15 : decode code (q + 15) = .ok (.ifCond .ne 22, 3)) (d18 : decode code (q + 18) = .ok (.aload_n 3, 1)) (d19 : decode code (q + 19) = .ok (.iconst 0, 1)) (d20 : decode code (q + 20) = .ok (.laload, 1)) (d21 : decode code (q + 21) = .ok (.iload 7, 2)) (d23 : decode code (q + 23) = .ok (.ifCond .eq 7, 3)) (d26 : decode code (q + 26) = .ok (.lconst 1, 1)) (d27 : decode code (q + 27) = .ok (.goto 4, 3)) (d30 : decode code (q + 30) = .ok (.lconst 0, 1)) (d31 : decode code (q + 31) = .ok (.lcmp, 1)) (d32 : decode code (q + 32) = .ok (.ifCond .eq 5, 3)) (d37 : decode code (q + 37) = .ok (.goto off, 3)) (ho : ((q + 37 : Nat) : Int) + off = ((2722 : Nat) : Int)) (hc : cells ≤ 603072) (hq : slots ≤ 7190634) (hr : gI Zr 0 8 = r ∧ (r = 0 → g1 0 = cvB rr)) (K : xL p l e s m b below meth c D Q (wLw dA a a' ao od Zc g1 Zr ws gD) cells slots 2722 (lvL b a a' ao od j) []) : xL p l e s m b below meth c D Q (wLw dA a a' ao od Zc g1 Zr ws gD) cells slots q ((6, .int r) :: lvL b a a' ao od j) [.int rr] := by
  have fin : xL p l e s m b below meth c D Q (wLw dA a a' ao od Zc g1 Zr ws gD) cells slots (q + 37) ((7, .int rr) :: (6, .int r) :: lvL b a a' ao od j) [] := by
    refine xv_goto (tgt := 2722) (pc := q + 37) C d37 ho ?_
    exact xv_sub [2, 3, 4, 5, 6, 7] rfl K
  refine xv_istore (pc := q) (lv' := ((7, .int rr) :: (6, .int r) :: lvL b a a' ao od j)) C d0 (by decide) rfl ?_
  refine xv_aload_n (pc := q + 2) C d2 5 rfl rfl ?_
  refine xl_rf (As := []) (pc := q + 3) (n := 0) C (kX8_thrown hl rfl) rfl fV_X8_thrown wf_1629 rfl ⟨(Nat.le_of_ble_eq_true rfl), (Nat.le_of_ble_eq_true rfl)⟩ rfl (Nat.le_of_ble_eq_true rfl) d3 ⟨rfl, rfl⟩ hc hq ?_
  refine xv_iload (pc := q + 6) C d6 1 rfl ?_
  refine xv_icmp_eq (tgt := q + 13) (pc := q + 8) C d8 (by omega) (fun _ => ?_) (fun c9 => absurd hr.1 c9)
  refine xv_iload (pc := q + 13) C d13 1 rfl ?_
  refine xv_if_ne (tgt := q + 37) (pc := q + 15) C d15 (by omega) (fun _ => fin) (fun c9 => ?_)
  refine xv_aload_n (pc := q + 18) C d18 4 rfl rfl ?_
  refine xv_iconst (v := 0) (pc := q + 19) C d19 (by decide) ?_
  refine xl_out (pc := q + 20) C d20 ?_
  refine xv_iload (pc := q + 21) C d21 0 rfl ?_
  refine xv_if_eq (tgt := q + 30) (pc := q + 23) C d23 (by omega) (fun c8 => ?_) (fun c8 => ?_)
  · refine xv_lconst (v := 0) (pc := q + 30) C d30 (by decide) ?_
    refine xv_lcmp (pc := q + 31) C d31 ?_
    exact xv_if_eq (tgt := q + 37) (pc := q + 32) C d32 (by omega) (fun _ => fin) (fun c7 => absurd (lg_same ((hr.2 c9).trans (if_pos c8))) c7)
  · refine xv_lconst (v := 1) (pc := q + 26) C d26 (by decide) ?_
    refine xv_goto (tgt := q + 31) (pc := q + 27) C d27 (by omega) ?_
    refine xv_lcmp (pc := q + 31) C d31 ?_
    exact xv_if_eq (tgt := q + 37) (pc := q + 32) C d32 (by omega) (fun _ => fin) (fun c7 => absurd (lg_same ((hr.2 c9).trans (if_neg c8))) c7)
/-! the world with the line, or with the row of doubles, behind the class's cells *)-/
theorem pm_line {α : Type} (C O R S E : List α) : List.Perm (C ++ (O ++ (R ++ (S ++ E)))) (((C ++ S) ++ O) ++ (R ++ E)) := by
  have e1 : List.Perm ((O ++ R) ++ (S ++ E)) (S ++ ((O ++ R) ++ E)) := List.perm_append_comm_assoc (O ++ R) S E
  have e2 := List.Perm.append_left C e1
  simpa only [List.append_assoc] using e2
theorem pm_dbl {α : Type} (C O R S E : List α) : List.Perm (C ++ (O ++ (R ++ (S ++ E)))) ((C ++ E) ++ (O ++ (R ++ S))) := by
  have e1 : List.Perm ((O ++ (R ++ S)) ++ E) (E ++ (O ++ (R ++ S))) := List.perm_append_comm
  have e2 := List.Perm.append_left C e1
  simpa only [List.append_assoc] using e2
theorem rcv_app {w w2 : va_W} {x : Nat} {Cn : String} (h : rcv w x Cn) : rcv (w ++ w2) x Cn := by
  obtain ⟨q0, ci, fs, T, N, h1, h2⟩ := h
  exact ⟨q0, ci, fs, T, N, by rw [List.getElem?_append_left (List.getElem?_eq_some_iff.mp h1).1]; exact h1, h2⟩
theorem rcv_7 (dA : Nat → ClassId) (a : Nat → Nat) (Z : ZZ) : rcv (cwC dA a Z) (a 0) RX7 := rc_X7 (rfl : shC 0 = 1)
variable {y : MethodName} {bytes : ByteArray} {maxL n index : Nat} {ret : Option FieldType} {rm : Room} {As : List Value} {hh : List (Nat × Nat × Nat × Nat)}
theorem xl_bk (k : xL p l e s m b below meth c D Q (wLw dA a a' ao od Zc g Zr ws gD) cells slots pc lv st) : xL p l e s m b below meth c D Q (((cwC dA a Zc ++ ws) ++ outW dA ao g) ++ (cwR dA a' Zr ++ outD dA od gD)) cells slots pc lv st := xv_pm (pm_line _ _ _ _ _).symm k
theorem xl_bkD (k : xL p l e s m b below meth c D Q (wLw dA a a' ao od Zc g Zr ws gD) cells slots pc lv st) : xL p l e s m b below meth c D Q ((cwC dA a Zc ++ outD dA od gD) ++ (outW dA ao g ++ (cwR dA a' Zr ++ ws))) cells slots pc lv st := xv_pm (pm_dbl _ _ _ _ _).symm k
theorem xl_ws (C : lC p l s m b meth c D dA sa cw) {P1 : Int32 → va_W → Prop} (M : CPi l D dA sa y (wzW y bytes maxL ret hh) rm As ((cwC dA a Zc ++ ws) ++ outW dA ao g) P1) (f : cfW y bytes maxL ret hh n) (hk9 : Cond.methodLink "SwitchboardLaw" index y ∈ WT) (hn : As.length = n) (hR : rm.frames + 1 ≤ 2048 ∧ 8 + (maxL + 11) + rm.locals ≤ 94400) (hst : st0 = As.reverse ++ st) (hcat : (st.map fun v => v.category).sum ≤ 8) (d : decode code pc = .ok (.invokestatic index, 3)) (hrm : rm.cells ≤ 40 ∧ rm.slots ≤ 6400) (hc : cells + 40 ≤ 603072) (hq : slots + 6400 ≤ 7190634) (k : ∀ v w1, P1 v w1 → xL p l e s m b below meth c D Q (w1 ++ (cwR dA a' Zr ++ outD dA od gD)) (cells + 40) (slots + 6400) (pc + 3) lv (.int v :: st)) : xL p l e s m b below meth c D Q (wLw dA a a' ao od Zc g Zr ws gD) cells slots pc lv st0 := by
  refine xv_pm (pm_line _ _ _ _ _) ?_
  refine xv_callWpi (As := As) (pc := pc) (pre := []) (w0 := (cwC dA a Zc ++ ws) ++ outW dA ao g) (post := cwR dA a' Zr ++ outD dA od gD) C M f hk9 hn hR hst hcat d ⟨Nat.le_trans (Nat.add_le_add_left hrm.1 cells) hc, Nat.le_trans (Nat.add_le_add_left hrm.2 slots) hq⟩ rfl (fun w1 v h => ?_)
  exact xl_wid (Nat.add_le_add_left hrm.1 cells) (Nat.add_le_add_left hrm.2 slots) (k v w1 h)
theorem xl_wd (C : lC p l s m b meth c D dA sa cw) {P1 : Int32 → va_W → Prop} (M : CPi l D dA sa y (wzW y bytes maxL ret hh) rm As (cwC dA a Zc ++ outD dA od gD) P1) (f : cfW y bytes maxL ret hh n) (hk9 : Cond.methodLink "SwitchboardLaw" index y ∈ WT) (hn : As.length = n) (hR : rm.frames + 1 ≤ 2048 ∧ 8 + (maxL + 11) + rm.locals ≤ 94400) (hst : st0 = As.reverse ++ st) (hcat : (st.map fun v => v.category).sum ≤ 8) (d : decode code pc = .ok (.invokestatic index, 3)) (hrm : rm.cells ≤ 20 ∧ rm.slots ≤ 3000) (hc : cells + 40 ≤ 603072) (hq : slots + 6400 ≤ 7190634) (k : ∀ v w1, P1 v w1 → xL p l e s m b below meth c D Q (w1 ++ (outW dA ao g ++ (cwR dA a' Zr ++ ws))) (cells + 20) (slots + 3000) (pc + 3) lv (.int v :: st)) : xL p l e s m b below meth c D Q (wLw dA a a' ao od Zc g Zr ws gD) cells slots pc lv st0 := by
  refine xv_pm (pm_dbl _ _ _ _ _) ?_
  refine xv_callWpi (As := As) (pc := pc) (pre := []) (w0 := cwC dA a Zc ++ outD dA od gD) (post := outW dA ao g ++ (cwR dA a' Zr ++ ws)) C M f hk9 hn hR hst hcat d ⟨Nat.le_trans (Nat.add_le_add_left hrm.1 cells) (show cells + 20 ≤ 603072 by omega), Nat.le_trans (Nat.add_le_add_left hrm.2 slots) (show slots + 3000 ≤ 7190634 by omega)⟩ rfl (fun w1 v h => ?_)
  exact xl_wid (Nat.add_le_add_left hrm.1 cells) (Nat.add_le_add_left hrm.2 slots) (k v w1 h)
theorem xl_cs (C : lC p l s m b meth c D dA sa cw) {P1 : Int32 → va_W → Prop} (M : CPi l D dA sa y (wz y bytes maxL ret) rm (.ref (a 0) :: As) (cwC dA a Zc ++ ws) P1) (hy : y.cls = RX7) (f : cfV y bytes maxL ret n) (hk9 : Cond.methodLink "SwitchboardLaw" index y ∈ WT) (hn : As.length = n) (hR : rm.frames + 1 ≤ 2048 ∧ 8 + (maxL + 11) + rm.locals ≤ 94400) (hst : st0 = As.reverse ++ .ref (a 0) :: st) (hcat : (st.map fun v => v.category).sum ≤ 8) (d : decode code pc = .ok (.invokevirtual index, 3)) (hrm : rm.cells ≤ 40 ∧ rm.slots ≤ 6400) (hc : cells + 40 ≤ 603072) (hq : slots + 6400 ≤ 7190634) (k : ∀ v ws', P1 v (cwC dA a Zc ++ ws') → xL p l e s m b below meth c D Q (wLw dA a a' ao od Zc g Zr ws' gD) (cells + 40) (slots + 6400) (pc + 3) lv (.int v :: st)) (hP1 : ∀ v w1, P1 v w1 → ∃ ws', w1 = cwC dA a Zc ++ ws') : xL p l e s m b below meth c D Q (wLw dA a a' ao od Zc g Zr ws gD) cells slots pc lv st0 := by
  refine xv_pm (pm_line _ _ _ _ _) ?_
  refine xv_callVpi (As := As) (pc := pc) (pre := []) (w0 := cwC dA a Zc ++ ws) (post := outW dA ao g ++ (cwR dA a' Zr ++ outD dA od gD)) C M f hk9 (by rw [hy]; exact rcv_app (rcv_7 _ _ _)) hn hR hst hcat d ⟨Nat.le_trans (Nat.add_le_add_left hrm.1 cells) hc, Nat.le_trans (Nat.add_le_add_left hrm.2 slots) hq⟩ (by rw [List.nil_append, List.append_assoc]) (fun w1 v h => ?_)
  obtain ⟨ws', rfl⟩ := hP1 v w1 h
  have e1 : ([] : va_W) ++ ((cwC dA a Zc ++ ws') ++ (outW dA ao g ++ (cwR dA a' Zr ++ outD dA od gD))) = ((cwC dA a Zc ++ ws') ++ outW dA ao g) ++ (cwR dA a' Zr ++ outD dA od gD) := by rw [List.nil_append, List.append_assoc (cwC dA a Zc ++ ws')]
  rw [e1]
  exact xl_wid (Nat.add_le_add_left hrm.1 cells) (Nat.add_le_add_left hrm.2 slots) (xl_bk (k v ws' h))
theorem xl_rd (C : lC p l s m b meth c D dA sa cw) {v : UInt64} (M : CTd l D dA sa y (wz y bytes maxL ret) rm (.ref (a' 0) :: As) (cwR dA a' Zr) v (cwR dA a' Zr')) (hy : y.cls = RX8) (f : cfV y bytes maxL ret n) (hk9 : Cond.methodLink "SwitchboardLaw" index y ∈ WT) (hn : As.length = n) (hR : rm.frames + 1 ≤ 2048 ∧ 8 + (maxL + 11) + rm.locals ≤ 94400) (hst : st0 = As.reverse ++ .ref (a' 0) :: st) (hcat : (st.map fun v => v.category).sum ≤ 8) (d : decode code pc = .ok (.invokevirtual index, 3)) (hc : cells + rm.cells ≤ 603072) (hq : slots + rm.slots ≤ 7190634) (k : xL p l e s m b below meth c D Q (wLw dA a a' ao od Zc g Zr' ws gD) (cells + rm.cells) (slots + rm.slots) (pc + 3) lv (.double v :: st)) : xL p l e s m b below meth c D Q (wLw dA a a' ao od Zc g Zr ws gD) cells slots pc lv st0 :=
  xv_callVd (As := As) (pc := pc) (pre := cwC dA a Zc ++ outW dA ao g) (w0 := cwR dA a' Zr) (w1 := cwR dA a' Zr') (post := ws ++ outD dA od gD) (w2 := wLw dA a a' ao od Zc g Zr' ws gD) C M f hk9 (by rw [hy]; exact rc_X8 (rfl : shR 0 = 1)) hn hR hst hcat d ⟨hc, hq⟩ (by unfold wLw; rw [List.append_assoc]) (by unfold wLw; rw [List.append_assoc]) k
theorem xl_rfl (C : lC p l s m b meth c D dA sa cw) {v : UInt32} (M : CTf l D dA sa y (wz y bytes maxL ret) rm (.ref (a' 0) :: As) (cwR dA a' Zr) v (cwR dA a' Zr')) (hy : y.cls = RX8) (f : cfV y bytes maxL ret n) (hk9 : Cond.methodLink "SwitchboardLaw" index y ∈ WT) (hn : As.length = n) (hR : rm.frames + 1 ≤ 2048 ∧ 8 + (maxL + 11) + rm.locals ≤ 94400) (hst : st0 = As.reverse ++ .ref (a' 0) :: st) (hcat : (st.map fun v => v.category).sum ≤ 8) (d : decode code pc = .ok (.invokevirtual index, 3)) (hc : cells + rm.cells ≤ 603072) (hq : slots + rm.slots ≤ 7190634) (k : xL p l e s m b below meth c D Q (wLw dA a a' ao od Zc g Zr' ws gD) (cells + rm.cells) (slots + rm.slots) (pc + 3) lv (.float v :: st)) : xL p l e s m b below meth c D Q (wLw dA a a' ao od Zc g Zr ws gD) cells slots pc lv st0 :=
  xv_callVf (As := As) (pc := pc) (pre := cwC dA a Zc ++ outW dA ao g) (w0 := cwR dA a' Zr) (w1 := cwR dA a' Zr') (post := ws ++ outD dA od gD) (w2 := wLw dA a a' ao od Zc g Zr' ws gD) C M f hk9 (by rw [hy]; exact rc_X8 (rfl : shR 0 = 1)) hn hR hst hcat d ⟨hc, hq⟩ (by unfold wLw; rw [List.append_assoc]) (by unfold wLw; rw [List.append_assoc]) k
theorem r_trunk_f {N : NN} {x : Int32} {Z : ZZ} (hA : rA N Z 1) (h16 : N 1 ≤ 16) (hv : viB x (N 1) = false) : sX8_writeTrunk x Z = some (0, pI Z 0 8 1) := by
  unfold sX8_writeTrunk
  rw [m_isTr hA (by omega), hv, bnd_s]
  show bnd (sX8_checked 0 Z) _ = _
  rw [chk_f, bnd_s]; rfl
theorem nch_c (x : Int32) : nch (x.toUInt32 % 65536).toInt32 = true := by
  have e : vp_nar .char (x.toUInt32 % 65536).toInt32 = (((x.toUInt32 % 65536).toInt32).toUInt32 % 65536).toInt32 := rfl
  unfold nch
  rw [e]
  refine decide_eq_true ?_
  rw [UInt32.toUInt32_toInt32]
  refine congrArg UInt32.toInt32 (UInt32.toNat_inj.mp ?_)
  rw [UInt32.toNat_mod, UInt32.toNat_mod]
  exact Nat.mod_mod _ _
end LAT
