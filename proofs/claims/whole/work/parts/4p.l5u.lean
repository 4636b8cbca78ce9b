theorem wf_95 : Cond.methodLink "Switchboard$Call" 3 ⟨"java/lang/Object", "<init>", "()V"⟩ ∈ WT := wt_of (i := 95) (by decide +kernel) rfl
theorem wf_52 : Cond.methodLink "Switchboard$Network" 3 ⟨"java/lang/Object", "<init>", "()V"⟩ ∈ WT := wt_of (i := 52) (by decide +kernel) rfl
theorem wf_187 : Cond.methodLink "Switchboard$BlockedCalls" 3 ⟨"java/lang/Object", "<init>", "()V"⟩ ∈ WT := wt_of (i := 187) (by decide +kernel) rfl
theorem wf_251 : Cond.methodLink "Switchboard$Router" 3 ⟨"java/lang/Object", "<init>", "()V"⟩ ∈ WT := wt_of (i := 251) (by decide +kernel) rfl
theorem wf_211 : Cond.methodLink "Switchboard$Program" 3 ⟨"java/lang/Object", "<init>", "()V"⟩ ∈ WT := wt_of (i := 211) (by decide +kernel) rfl
/-! constructors that only make arrays *)-/
theorem wf_ari : Cond.arrayClass .int ∈ WT := wt_of (i := 88) (by decide +kernel) rfl
theorem wf_arc : Cond.arrayClass .char ∈ WT := wt_of (i := 205) (by decide +kernel) rfl
section SXK
variable {D : va_G} {dA : Nat → ClassId} {sa : String → Nat → Nat} {l : Launch}
variable {y : MethodName} {cc : ByteArray} {n : Nat} {ret : Option FieldType} {rm : Room} {al : List Value} {w0 w1 : va_W}
theorem xm_pk {P1 : va_W → Prop} (hl : l.stackTraces = false) (hy : plainName y.cls = true) (hlen : (lg_sl al).length ≤ n) (hret : ret = none)
    (body : ∀ (p : Program) (e : Env) (s : State) (m : MethodId) (args : Array Value) (below : List Frame) (meth : Method) (c : Code) (A : Nat → Prop) (Q : State → Prop), xv_C p l s m args meth c D dA sa A cc n y.cls (wz y cc n ret) → meth.name = y.name →
      (∀ (w1 : va_W) (cells slots pc : Nat) (lv : List (Nat × Value)), P1 w1 → cells ≤ rm.cells → slots ≤ rm.slots → decode cc pc = .ok (.return_, 1) → xv p l e rm s m args below meth c D A n Q w1 cells slots pc lv []) →
      xv p l e rm s m args below meth c D A n Q w0 0 0 0 (lv_args 0 al) []) : CPv l D dA sa y (wz y cc n ret) rm al w0 P1 := by
  intro sz
  refine Met.ofW (cc := cc) (maxL := n) (ret := ret) hy rfl ?_
  intro p e s m args below meth c s₁ B hml hv
  have hN : meth.name = y.name := (name_of_methodNamed B.named B.method).1
  obtain ⟨rfl, hsz, hP, hD, hC⟩ := xC_of hl B hml hv
  have hr := B.returns
  have hlv := lv_entry al hlen
  rw [lg_entry_eq]
  refine body p e s m al.toArray below meth c (va_A w0 sz) _ hC hN ?_ _ _ _ hP hD (by subst hsz; exact va_S.rf) hlv
  intro w1 cells slots pc lv h1 hc hs d H locs ls hP hD hS hl9
  refine W.widen hc hs ?_
  have hx := hC.1.1
  have hb := hC.1.2.1
  exact W.vret hx hb (hr.trans hret) (fun t ht hW => ⟨⟨w1, rfl, h1, by rw [ht]; exact hP, va_K.moved hW.alike hC.2.1, hD⟩, hS.F ht⟩) hS.2.2 d hC.2.2.2.2.1
end SXK
section SXK2
variable {p : Program} {l : Launch} {e : Env} {R : Room} {s : State} {m : MethodId} {args : Array Value} {below : List Frame} {meth : Method} {c : Code} {Q : State → Prop} {D : va_G} {dA : Nat → ClassId} {sa : String → Nat → Nat} {A : Nat → Prop} {cc : ByteArray} {nL cells slots pc : Nat} {own : String} {w w2 : va_W} {lv lv' : List (Nat × Value)} {st st0 rest : List Value} {cw : Cond}
theorem xv_pf (C : xv_C p l s m args meth c D dA sa A cc nL own (cw :: WT)) {Cn : String} {T : u_T} {N ci index q0 ak : Nat} {fs : List Value} {v : Value} {ty : FieldType} {ty0 : Nat → FieldType} {w2 : va_W} (hN : meth.name = "<init>") (d : decode cc pc = .ok (.putfield index, 3)) (hin : ∀ x ∈ u_ws Cn T N, x ∈ WT) (hty : ∀ k, k < N → parseFieldDescriptor (T k).2.2.1 = some (ty0 k)) (hnm : ∀ a, a < N → ∀ b, b < N → a ≠ b → (T a).2.1 ≠ (T b).2.1) (hc : vwC[ci]? = some (Cn, T, N)) (he : w[q0]? = some (ak, .inr (ci, fs))) (j : Nat) (hj : j < N) (hw : Cond.fieldLink own index (T j).1 (T j).2.1 (T j).2.2.1 ∈ WT) (hfin : (T j).2.2.2 = true) (hdecl : (T j).1 = own) (hd : parseFieldDescriptor (T j).2.2.1 = some ty) (hn : narrow ty v = v) (hfit : fits ty v = true) (hlen : j < fs.length) (h2 : w.set q0 (ak, .inr (ci, fs.set j v)) = w2) (k : xv p l e R s m args below meth c D A nL Q w2 cells slots (pc + 3) lv st) : xv p l e R s m args below meth c D A nL Q w cells slots pc lv (v :: .ref ak :: st) := by
  subst h2
  intro H locs ls hP hD hS hl
  exact va_putF C.1.1 C.1.2.1 C.1.2.2.2.2 (fun x h => List.mem_cons_of_mem _ (hin x h)) ty0 hty hnm C.1.2.2.2.1 C.2.1 hP hD hS q0 he hc j hj (C.1.2.2.2.2 _ (List.mem_cons_of_mem _ hw)) (fun _ h9 => h9) hfin hN hdecl hd hn hfit hlen d (fun H1 locs1 hP1 hD1 hS1 => k H1 locs1 ls hP1 hD1 hS1 hl)
theorem xv_newai (C : xv_C p l s m args meth c D dA sa A cc nL own (cw :: WT)) {n : Int32} {N : Nat} (d : decode cc pc = .ok (.newarray .int, 2)) (hn : ¬ n < 0) (hN : n.toNatClampNeg = N) (hb : N ≤ 100000) (hc : cells + 1 ≤ R.cells) (hs : slots + N ≤ R.slots) (k : ∀ q, xv p l e R s m args below meth c D A nL Q (w ++ [(q, .inl (dA 0, N, .inl (fun _ => 0)))]) (cells + 1) (slots + N) (pc + 2) lv (.ref q :: st)) : xv p l e R s m args below meth c D A nL Q w cells slots pc lv (.int n :: st) := by
  intro H locs ls hP hD hS hl
  refine va_newa (atype := .int) (ty := .int) (a0 := (N, .inl (fun _ => 0))) C.1.1 C.1.2.1 (C.1.2.2.2.2 _ (List.mem_cons_of_mem _ wf_ari)) rfl C.2.1 hP hD hS C.2.2.1 (fun cA => rfl) hn hN (by show N * _ ≤ 536870912; first | (show N * 4 ≤ 536870912; omega) | (show N * 2 ≤ 536870912; omega)) hc hs d (fun q cA H1 hK1 hP1 hD1 hS1 => ?_)
  have e1 : s.vm.findClass ("[" ++ (FieldType.int).toString) = some (dA 0) := (C.2.1.2 0 _ rfl).2
  have e2 : s.vm.findClass ("[" ++ (FieldType.int).toString) = some cA := (hK1.2 7 _ rfl).2
  have e3 : cA = dA 0 := Option.some.inj (e2.symm.trans e1)
  subst e3
  exact k q H1 locs ls hP1 hD1 hS1 hl
theorem xv_newac (C : xv_C p l s m args meth c D dA sa A cc nL own (cw :: WT)) {n : Int32} {N : Nat} (d : decode cc pc = .ok (.newarray .char, 2)) (hn : ¬ n < 0) (hN : n.toNatClampNeg = N) (hb : N ≤ 100000) (hc : cells + 1 ≤ R.cells) (hs : slots + N ≤ R.slots) (k : ∀ q, xv p l e R s m args below meth c D A nL Q (w ++ [(q, .inl (dA 1, N, .inl (fun _ => 0)))]) (cells + 1) (slots + N) (pc + 2) lv (.ref q :: st)) : xv p l e R s m args below meth c D A nL Q w cells slots pc lv (.int n :: st) := by
  intro H locs ls hP hD hS hl
  refine va_newa (atype := .char) (ty := .char) (a0 := (N, .inl (fun _ => 0))) C.1.1 C.1.2.1 (C.1.2.2.2.2 _ (List.mem_cons_of_mem _ wf_arc)) rfl C.2.1 hP hD hS C.2.2.1 (fun cA => rfl) hn hN (by show N * _ ≤ 536870912; first | (show N * 4 ≤ 536870912; omega) | (show N * 2 ≤ 536870912; omega)) hc hs d (fun q cA H1 hK1 hP1 hD1 hS1 => ?_)
  have e1 : s.vm.findClass ("[" ++ (FieldType.char).toString) = some (dA 1) := (C.2.1.2 1 _ rfl).2
  have e2 : s.vm.findClass ("[" ++ (FieldType.char).toString) = some cA := (hK1.2 7 _ rfl).2
  have e3 : cA = dA 1 := Option.some.inj (e2.symm.trans e1)
  subst e3
  exact k q H1 locs ls hP1 hD1 hS1 hl
end SXK2
abbrev rmCX1 : Room := ({ frames := 1, cells := 1, slots := 7, locals := 20 } : Room)
set_option maxRecDepth 100000 in
theorem kC_X1 {l : Launch} {D : va_G} {dA : Nat → ClassId} {sa : String → Nat → Nat} (hl : l.stackTraces = false) {b : Nat} : CPv l D dA sa yX1_init (wz yX1_init cX1_init 1 none) rmCX1 [.ref b] [(b, .inr (1, [.int 0, .int 0, .int 0, .int 0, .int 0, .null]))] (fun w1 => ∃ q0 : Nat, w1 = [(b, .inr (1, [.int 0, .int 0, .int 0, .int 0, .int 0, .ref q0])), (q0, .inl (dA 0, 7, .inl (fun _ => 0)))]) := by
  refine xm_pk hl (by decide +kernel) (Nat.le_of_ble_eq_true rfl) rfl ?_
  intro p e s m args below meth c A Q hC hN hR
  show xv p l e rmCX1 s m args below meth c D A 1 Q [(b, .inr (1, [.int 0, .int 0, .int 0, .int 0, .int 0, .null]))] 0 0 0 [(0, .ref b)] []
  refine xv_aload_n (pc := 0) hC dX1_init_0 0 rfl rfl ?_
  refine xv_oini (pc := 1) hC dX1_init_1 wf_95 (Nat.le_of_ble_eq_true rfl) (Nat.le_of_ble_eq_true rfl) ?_
  refine xv_aload_n (pc := 4) hC dX1_init_4 0 rfl rfl ?_
  refine xv_bipush (v := 7) (pc := 5) hC dX1_init_5 (by decide) ?_
  refine xv_newai (pc := 7) (N := 7) hC dX1_init_7 (by decide) (by decide) (by decide) (Nat.le_of_ble_eq_true rfl) (Nat.le_of_ble_eq_true rfl) (fun q0 => ?_)
  refine xv_pf (pc := 9) (q0 := 0) (ci := 1) (fs := [.int 0, .int 0, .int 0, .int 0, .int 0, .null]) (v := .ref q0) (ty := .array .int) (w2 := [(b, .inr (1, [.int 0, .int 0, .int 0, .int 0, .int 0, .ref q0])), (q0, .inl (dA 0, 7, .inl (fun _ => 0)))]) hC hN dX1_init_9 in_X1 tyX1_ok nmX1 rfl rfl 5 (by decide) wf_110 rfl rfl (by decide +kernel) rfl rfl (Nat.le_of_ble_eq_true rfl) rfl ?_
  exact hR _ _ _ _ _ ⟨q0, rfl⟩ (Nat.le_of_ble_eq_true rfl) (Nat.le_of_ble_eq_true rfl) dX1_init_12
abbrev rmCX3 : Room := ({ frames := 1, cells := 4, slots := 64, locals := 20 } : Room)
set_option maxRecDepth 100000 in
theorem kC_X3 {l : Launch} {D : va_G} {dA : Nat → ClassId} {sa : String → Nat → Nat} (hl : l.stackTraces = false) {b : Nat} : CPv l D dA sa yX3_init (wz yX3_init cX3_init 1 none) rmCX3 [.ref b] [(b, .inr (3, [.int 0, .int 0, .null, .null, .null, .null, .int 0]))] (fun w1 => ∃ q0 q1 q2 q3 : Nat, w1 = [(b, .inr (3, [.int 0, .int 0, .ref q0, .ref q1, .ref q2, .ref q3, .int 0])), (q0, .inl (dA 0, 16, .inl (fun _ => 0))), (q1, .inl (dA 0, 16, .inl (fun _ => 0))), (q2, .inl (dA 0, 16, .inl (fun _ => 0))), (q3, .inl (dA 0, 16, .inl (fun _ => 0)))]) := by
  refine xm_pk hl (by decide +kernel) (Nat.le_of_ble_eq_true rfl) rfl ?_
  intro p e s m args below meth c A Q hC hN hR
  show xv p l e rmCX3 s m args below meth c D A 1 Q [(b, .inr (3, [.int 0, .int 0, .null, .null, .null, .null, .int 0]))] 0 0 0 [(0, .ref b)] []
  refine xv_aload_n (pc := 0) hC dX3_init_0 0 rfl rfl ?_
  refine xv_oini (pc := 1) hC dX3_init_1 wf_52 (Nat.le_of_ble_eq_true rfl) (Nat.le_of_ble_eq_true rfl) ?_
  refine xv_aload_n (pc := 4) hC dX3_init_4 0 rfl rfl ?_
  refine xv_bipush (v := 16) (pc := 5) hC dX3_init_5 (by decide) ?_
  refine xv_newai (pc := 7) (N := 16) hC dX3_init_7 (by decide) (by decide) (by decide) (Nat.le_of_ble_eq_true rfl) (Nat.le_of_ble_eq_true rfl) (fun q0 => ?_)
  refine xv_pf (pc := 9) (q0 := 0) (ci := 3) (fs := [.int 0, .int 0, .null, .null, .null, .null, .int 0]) (v := .ref q0) (ty := .array .int) (w2 := [(b, .inr (3, [.int 0, .int 0, .ref q0, .null, .null, .null, .int 0])), (q0, .inl (dA 0, 16, .inl (fun _ => 0)))]) hC hN dX3_init_9 in_X3 tyX3_ok nmX3 rfl rfl 2 (by decide) wf_59 rfl rfl (by decide +kernel) rfl rfl (Nat.le_of_ble_eq_true rfl) rfl ?_
  refine xv_aload_n (pc := 12) hC dX3_init_12 0 rfl rfl ?_
  refine xv_bipush (v := 16) (pc := 13) hC dX3_init_13 (by decide) ?_
  refine xv_newai (pc := 15) (N := 16) hC dX3_init_15 (by decide) (by decide) (by decide) (Nat.le_of_ble_eq_true rfl) (Nat.le_of_ble_eq_true rfl) (fun q1 => ?_)
  refine xv_pf (pc := 17) (q0 := 0) (ci := 3) (fs := [.int 0, .int 0, .ref q0, .null, .null, .null, .int 0]) (v := .ref q1) (ty := .array .int) (w2 := [(b, .inr (3, [.int 0, .int 0, .ref q0, .ref q1, .null, .null, .int 0])), (q0, .inl (dA 0, 16, .inl (fun _ => 0))), (q1, .inl (dA 0, 16, .inl (fun _ => 0)))]) hC hN dX3_init_17 in_X3 tyX3_ok nmX3 rfl rfl 3 (by decide) wf_62 rfl rfl (by decide +kernel) rfl rfl (Nat.le_of_ble_eq_true rfl) rfl ?_
  refine xv_aload_n (pc := 20) hC dX3_init_20 0 rfl rfl ?_
  refine xv_bipush (v := 16) (pc := 21) hC dX3_init_21 (by decide) ?_
  refine xv_newai (pc := 23) (N := 16) hC dX3_init_23 (by decide) (by decide) (by decide) (Nat.le_of_ble_eq_true rfl) (Nat.le_of_ble_eq_true rfl) (fun q2 => ?_)
  refine xv_pf (pc := 25) (q0 := 0) (ci := 3) (fs := [.int 0, .int 0, .ref q0, .ref q1, .null, .null, .int 0]) (v := .ref q2) (ty := .array .int) (w2 := [(b, .inr (3, [.int 0, .int 0, .ref q0, .ref q1, .ref q2, .null, .int 0])), (q0, .inl (dA 0, 16, .inl (fun _ => 0))), (q1, .inl (dA 0, 16, .inl (fun _ => 0))), (q2, .inl (dA 0, 16, .inl (fun _ => 0)))]) hC hN dX3_init_25 in_X3 tyX3_ok nmX3 rfl rfl 4 (by decide) wf_65 rfl rfl (by decide +kernel) rfl rfl (Nat.le_of_ble_eq_true rfl) rfl ?_
  refine xv_aload_n (pc := 28) hC dX3_init_28 0 rfl rfl ?_
  refine xv_bipush (v := 16) (pc := 29) hC dX3_init_29 (by decide) ?_
  refine xv_newai (pc := 31) (N := 16) hC dX3_init_31 (by decide) (by decide) (by decide) (Nat.le_of_ble_eq_true rfl) (Nat.le_of_ble_eq_true rfl) (fun q3 => ?_)
  refine xv_pf (pc := 33) (q0 := 0) (ci := 3) (fs := [.int 0, .int 0, .ref q0, .ref q1, .ref q2, .null, .int 0]) (v := .ref q3) (ty := .array .int) (w2 := [(b, .inr (3, [.int 0, .int 0, .ref q0, .ref q1, .ref q2, .ref q3, .int 0])), (q0, .inl (dA 0, 16, .inl (fun _ => 0))), (q1, .inl (dA 0, 16, .inl (fun _ => 0))), (q2, .inl (dA 0, 16, .inl (fun _ => 0))), (q3, .inl (dA 0, 16, .inl (fun _ => 0)))]) hC hN dX3_init_33 in_X3 tyX3_ok nmX3 rfl rfl 5 (by decide) wf_68 rfl rfl (by decide +kernel) rfl rfl (Nat.le_of_ble_eq_true rfl) rfl ?_
  exact hR _ _ _ _ _ ⟨q0, q1, q2, q3, rfl⟩ (Nat.le_of_ble_eq_true rfl) (Nat.le_of_ble_eq_true rfl) dX3_init_36
abbrev rmCX0 : Room := ({ frames := 1, cells := 3, slots := 24, locals := 20 } : Room)
set_option maxRecDepth 100000 in
theorem kC_X0 {l : Launch} {D : va_G} {dA : Nat → ClassId} {sa : String → Nat → Nat} (hl : l.stackTraces = false) {b : Nat} : CPv l D dA sa yX0_init (wz yX0_init cX0_init 1 none) rmCX0 [.ref b] [(b, .inr (0, [.int 0, .null, .null, .null]))] (fun w1 => ∃ q0 q1 q2 : Nat, w1 = [(b, .inr (0, [.int 0, .ref q0, .ref q1, .ref q2])), (q0, .inl (dA 0, 8, .inl (fun _ => 0))), (q1, .inl (dA 0, 8, .inl (fun _ => 0))), (q2, .inl (dA 1, 8, .inl (fun _ => 0)))]) := by
  refine xm_pk hl (by decide +kernel) (Nat.le_of_ble_eq_true rfl) rfl ?_
  intro p e s m args below meth c A Q hC hN hR
  show xv p l e rmCX0 s m args below meth c D A 1 Q [(b, .inr (0, [.int 0, .null, .null, .null]))] 0 0 0 [(0, .ref b)] []
  refine xv_aload_n (pc := 0) hC dX0_init_0 0 rfl rfl ?_
  refine xv_oini (pc := 1) hC dX0_init_1 wf_187 (Nat.le_of_ble_eq_true rfl) (Nat.le_of_ble_eq_true rfl) ?_
  refine xv_aload_n (pc := 4) hC dX0_init_4 0 rfl rfl ?_
  refine xv_bipush (v := 8) (pc := 5) hC dX0_init_5 (by decide) ?_
  refine xv_newai (pc := 7) (N := 8) hC dX0_init_7 (by decide) (by decide) (by decide) (Nat.le_of_ble_eq_true rfl) (Nat.le_of_ble_eq_true rfl) (fun q0 => ?_)
  refine xv_pf (pc := 9) (q0 := 0) (ci := 0) (fs := [.int 0, .null, .null, .null]) (v := .ref q0) (ty := .array .int) (w2 := [(b, .inr (0, [.int 0, .ref q0, .null, .null])), (q0, .inl (dA 0, 8, .inl (fun _ => 0)))]) hC hN dX0_init_9 in_X0 tyX0_ok nmX0 rfl rfl 1 (by decide) wf_190 rfl rfl (by decide +kernel) rfl rfl (Nat.le_of_ble_eq_true rfl) rfl ?_
  refine xv_aload_n (pc := 12) hC dX0_init_12 0 rfl rfl ?_
  refine xv_bipush (v := 8) (pc := 13) hC dX0_init_13 (by decide) ?_
  refine xv_newai (pc := 15) (N := 8) hC dX0_init_15 (by decide) (by decide) (by decide) (Nat.le_of_ble_eq_true rfl) (Nat.le_of_ble_eq_true rfl) (fun q1 => ?_)
  refine xv_pf (pc := 17) (q0 := 0) (ci := 0) (fs := [.int 0, .ref q0, .null, .null]) (v := .ref q1) (ty := .array .int) (w2 := [(b, .inr (0, [.int 0, .ref q0, .ref q1, .null])), (q0, .inl (dA 0, 8, .inl (fun _ => 0))), (q1, .inl (dA 0, 8, .inl (fun _ => 0)))]) hC hN dX0_init_17 in_X0 tyX0_ok nmX0 rfl rfl 2 (by decide) wf_192 rfl rfl (by decide +kernel) rfl rfl (Nat.le_of_ble_eq_true rfl) rfl ?_
  refine xv_aload_n (pc := 20) hC dX0_init_20 0 rfl rfl ?_
  refine xv_bipush (v := 8) (pc := 21) hC dX0_init_21 (by decide) ?_
  refine xv_newac (pc := 23) (N := 8) hC dX0_init_23 (by decide) (by decide) (by decide) (Nat.le_of_ble_eq_true rfl) (Nat.le_of_ble_eq_true rfl) (fun q2 => ?_)
  refine xv_pf (pc := 25) (q0 := 0) (ci := 0) (fs := [.int 0, .ref q0, .ref q1, .null]) (v := .ref q2) (ty := .array .char) (w2 := [(b, .inr (0, [.int 0, .ref q0, .ref q1, .ref q2])), (q0, .inl (dA 0, 8, .inl (fun _ => 0))), (q1, .inl (dA 0, 8, .inl (fun _ => 0))), (q2, .inl (dA 1, 8, .inl (fun _ => 0)))]) hC hN dX0_init_25 in_X0 tyX0_ok nmX0 rfl rfl 3 (by decide) wf_194 rfl rfl (by decide +kernel) rfl rfl (Nat.le_of_ble_eq_true rfl) rfl ?_
  exact hR _ _ _ _ _ ⟨q0, q1, q2, rfl⟩ (Nat.le_of_ble_eq_true rfl) (Nat.le_of_ble_eq_true rfl) dX0_init_28
abbrev rmCX5 : Room := ({ frames := 1, cells := 5, slots := 47, locals := 20 } : Room)
set_option maxRecDepth 100000 in
theorem kC_X5 {l : Launch} {D : va_G} {dA : Nat → ClassId} {sa : String → Nat → Nat} (hl : l.stackTraces = false) {b : Nat} : CPv l D dA sa yX5_init (wz yX5_init cX5_init 1 none) rmCX5 [.ref b] [(b, .inr (5, [.null, .int 0, .int 0, .null, .null, .null, .null]))] (fun w1 => ∃ q0 q1 q2 q3 q4 : Nat, w1 = [(b, .inr (5, [.ref q0, .int 0, .int 0, .ref q1, .ref q2, .ref q3, .ref q4])), (q0, .inl (dA 0, 7, .inl (fun _ => 0))), (q1, .inl (dA 0, 8, .inl (fun _ => 0))), (q2, .inl (dA 0, 16, .inl (fun _ => 0))), (q3, .inl (dA 0, 8, .inl (fun _ => 0))), (q4, .inl (dA 0, 8, .inl (fun _ => 0)))]) := by
  refine xm_pk hl (by decide +kernel) (Nat.le_of_ble_eq_true rfl) rfl ?_
  intro p e s m args below meth c A Q hC hN hR
  show xv p l e rmCX5 s m args below meth c D A 1 Q [(b, .inr (5, [.null, .int 0, .int 0, .null, .null, .null, .null]))] 0 0 0 [(0, .ref b)] []
  refine xv_aload_n (pc := 0) hC dX5_init_0 0 rfl rfl ?_
  refine xv_oini (pc := 1) hC dX5_init_1 wf_251 (Nat.le_of_ble_eq_true rfl) (Nat.le_of_ble_eq_true rfl) ?_
  refine xv_aload_n (pc := 4) hC dX5_init_4 0 rfl rfl ?_
  refine xv_bipush (v := 7) (pc := 5) hC dX5_init_5 (by decide) ?_
  refine xv_newai (pc := 7) (N := 7) hC dX5_init_7 (by decide) (by decide) (by decide) (Nat.le_of_ble_eq_true rfl) (Nat.le_of_ble_eq_true rfl) (fun q0 => ?_)
  refine xv_pf (pc := 9) (q0 := 0) (ci := 5) (fs := [.null, .int 0, .int 0, .null, .null, .null, .null]) (v := .ref q0) (ty := .array .int) (w2 := [(b, .inr (5, [.ref q0, .int 0, .int 0, .null, .null, .null, .null])), (q0, .inl (dA 0, 7, .inl (fun _ => 0)))]) hC hN dX5_init_9 in_X5 tyX5_ok nmX5 rfl rfl 0 (by decide) wf_252 rfl rfl (by decide +kernel) rfl rfl (Nat.le_of_ble_eq_true rfl) rfl ?_
  refine xv_aload_n (pc := 12) hC dX5_init_12 0 rfl rfl ?_
  refine xv_bipush (v := 8) (pc := 13) hC dX5_init_13 (by decide) ?_
  refine xv_newai (pc := 15) (N := 8) hC dX5_init_15 (by decide) (by decide) (by decide) (Nat.le_of_ble_eq_true rfl) (Nat.le_of_ble_eq_true rfl) (fun q1 => ?_)
  refine xv_pf (pc := 17) (q0 := 0) (ci := 5) (fs := [.ref q0, .int 0, .int 0, .null, .null, .null, .null]) (v := .ref q1) (ty := .array .int) (w2 := [(b, .inr (5, [.ref q0, .int 0, .int 0, .ref q1, .null, .null, .null])), (q0, .inl (dA 0, 7, .inl (fun _ => 0))), (q1, .inl (dA 0, 8, .inl (fun _ => 0)))]) hC hN dX5_init_17 in_X5 tyX5_ok nmX5 rfl rfl 3 (by decide) wf_258 rfl rfl (by decide +kernel) rfl rfl (Nat.le_of_ble_eq_true rfl) rfl ?_
  refine xv_aload_n (pc := 20) hC dX5_init_20 0 rfl rfl ?_
  refine xv_bipush (v := 16) (pc := 21) hC dX5_init_21 (by decide) ?_
  refine xv_newai (pc := 23) (N := 16) hC dX5_init_23 (by decide) (by decide) (by decide) (Nat.le_of_ble_eq_true rfl) (Nat.le_of_ble_eq_true rfl) (fun q2 => ?_)
  refine xv_pf (pc := 25) (q0 := 0) (ci := 5) (fs := [.ref q0, .int 0, .int 0, .ref q1, .null, .null, .null]) (v := .ref q2) (ty := .array .int) (w2 := [(b, .inr (5, [.ref q0, .int 0, .int 0, .ref q1, .ref q2, .null, .null])), (q0, .inl (dA 0, 7, .inl (fun _ => 0))), (q1, .inl (dA 0, 8, .inl (fun _ => 0))), (q2, .inl (dA 0, 16, .inl (fun _ => 0)))]) hC hN dX5_init_25 in_X5 tyX5_ok nmX5 rfl rfl 4 (by decide) wf_259 rfl rfl (by decide +kernel) rfl rfl (Nat.le_of_ble_eq_true rfl) rfl ?_
  refine xv_aload_n (pc := 28) hC dX5_init_28 0 rfl rfl ?_
  refine xv_bipush (v := 8) (pc := 29) hC dX5_init_29 (by decide) ?_
  refine xv_newai (pc := 31) (N := 8) hC dX5_init_31 (by decide) (by decide) (by decide) (Nat.le_of_ble_eq_true rfl) (Nat.le_of_ble_eq_true rfl) (fun q3 => ?_)
  refine xv_pf (pc := 33) (q0 := 0) (ci := 5) (fs := [.ref q0, .int 0, .int 0, .ref q1, .ref q2, .null, .null]) (v := .ref q3) (ty := .array .int) (w2 := [(b, .inr (5, [.ref q0, .int 0, .int 0, .ref q1, .ref q2, .ref q3, .null])), (q0, .inl (dA 0, 7, .inl (fun _ => 0))), (q1, .inl (dA 0, 8, .inl (fun _ => 0))), (q2, .inl (dA 0, 16, .inl (fun _ => 0))), (q3, .inl (dA 0, 8, .inl (fun _ => 0)))]) hC hN dX5_init_33 in_X5 tyX5_ok nmX5 rfl rfl 5 (by decide) wf_260 rfl rfl (by decide +kernel) rfl rfl (Nat.le_of_ble_eq_true rfl) rfl ?_
  refine xv_aload_n (pc := 36) hC dX5_init_36 0 rfl rfl ?_
  refine xv_bipush (v := 8) (pc := 37) hC dX5_init_37 (by decide) ?_
  refine xv_newai (pc := 39) (N := 8) hC dX5_init_39 (by decide) (by decide) (by decide) (Nat.le_of_ble_eq_true rfl) (Nat.le_of_ble_eq_true rfl) (fun q4 => ?_)
  refine xv_pf (pc := 41) (q0 := 0) (ci := 5) (fs := [.ref q0, .int 0, .int 0, .ref q1, .ref q2, .ref q3, .null]) (v := .ref q4) (ty := .array .int) (w2 := [(b, .inr (5, [.ref q0, .int 0, .int 0, .ref q1, .ref q2, .ref q3, .ref q4])), (q0, .inl (dA 0, 7, .inl (fun _ => 0))), (q1, .inl (dA 0, 8, .inl (fun _ => 0))), (q2, .inl (dA 0, 16, .inl (fun _ => 0))), (q3, .inl (dA 0, 8, .inl (fun _ => 0))), (q4, .inl (dA 0, 8, .inl (fun _ => 0)))]) hC hN dX5_init_41 in_X5 tyX5_ok nmX5 rfl rfl 6 (by decide) wf_261 rfl rfl (by decide +kernel) rfl rfl (Nat.le_of_ble_eq_true rfl) rfl ?_
  exact hR _ _ _ _ _ ⟨q0, q1, q2, q3, q4, rfl⟩ (Nat.le_of_ble_eq_true rfl) (Nat.le_of_ble_eq_true rfl) dX5_init_44
abbrev rmCX4 : Room := ({ frames := 1, cells := 5, slots := 112, locals := 20 } : Room)
set_option maxRecDepth 100000 in
theorem kC_X4 {l : Launch} {D : va_G} {dA : Nat → ClassId} {sa : String → Nat → Nat} (hl : l.stackTraces = false) {b : Nat} : CPv l D dA sa yX4_init (wz yX4_init cX4_init 1 none) rmCX4 [.ref b] [(b, .inr (4, [.null, .int 0, .int 0, .null, .null, .null, .null, .int 0, .int 0]))] (fun w1 => ∃ q0 q1 q2 q3 q4 : Nat, w1 = [(b, .inr (4, [.ref q0, .int 0, .int 0, .ref q1, .ref q2, .ref q3, .ref q4, .int 0, .int 0])), (q0, .inl (dA 1, 60, .inl (fun _ => 0))), (q1, .inl (dA 0, 13, .inl (fun _ => 0))), (q2, .inl (dA 0, 13, .inl (fun _ => 0))), (q3, .inl (dA 0, 13, .inl (fun _ => 0))), (q4, .inl (dA 0, 13, .inl (fun _ => 0)))]) := by
  refine xm_pk hl (by decide +kernel) (Nat.le_of_ble_eq_true rfl) rfl ?_
  intro p e s m args below meth c A Q hC hN hR
  show xv p l e rmCX4 s m args below meth c D A 1 Q [(b, .inr (4, [.null, .int 0, .int 0, .null, .null, .null, .null, .int 0, .int 0]))] 0 0 0 [(0, .ref b)] []
  refine xv_aload_n (pc := 0) hC dX4_init_0 0 rfl rfl ?_
  refine xv_oini (pc := 1) hC dX4_init_1 wf_211 (Nat.le_of_ble_eq_true rfl) (Nat.le_of_ble_eq_true rfl) ?_
  refine xv_aload_n (pc := 4) hC dX4_init_4 0 rfl rfl ?_
  refine xv_bipush (v := 60) (pc := 5) hC dX4_init_5 (by decide) ?_
  refine xv_newac (pc := 7) (N := 60) hC dX4_init_7 (by decide) (by decide) (by decide) (Nat.le_of_ble_eq_true rfl) (Nat.le_of_ble_eq_true rfl) (fun q0 => ?_)
  refine xv_pf (pc := 9) (q0 := 0) (ci := 4) (fs := [.null, .int 0, .int 0, .null, .null, .null, .null, .int 0, .int 0]) (v := .ref q0) (ty := .array .char) (w2 := [(b, .inr (4, [.ref q0, .int 0, .int 0, .null, .null, .null, .null, .int 0, .int 0])), (q0, .inl (dA 1, 60, .inl (fun _ => 0)))]) hC hN dX4_init_9 in_X4 tyX4_ok nmX4 rfl rfl 0 (by decide) wf_212 rfl rfl (by decide +kernel) rfl rfl (Nat.le_of_ble_eq_true rfl) rfl ?_
  refine xv_aload_n (pc := 12) hC dX4_init_12 0 rfl rfl ?_
  refine xv_bipush (v := 13) (pc := 13) hC dX4_init_13 (by decide) ?_
  refine xv_newai (pc := 15) (N := 13) hC dX4_init_15 (by decide) (by decide) (by decide) (Nat.le_of_ble_eq_true rfl) (Nat.le_of_ble_eq_true rfl) (fun q1 => ?_)
  refine xv_pf (pc := 17) (q0 := 0) (ci := 4) (fs := [.ref q0, .int 0, .int 0, .null, .null, .null, .null, .int 0, .int 0]) (v := .ref q1) (ty := .array .int) (w2 := [(b, .inr (4, [.ref q0, .int 0, .int 0, .ref q1, .null, .null, .null, .int 0, .int 0])), (q0, .inl (dA 1, 60, .inl (fun _ => 0))), (q1, .inl (dA 0, 13, .inl (fun _ => 0)))]) hC hN dX4_init_17 in_X4 tyX4_ok nmX4 rfl rfl 3 (by decide) wf_217 rfl rfl (by decide +kernel) rfl rfl (Nat.le_of_ble_eq_true rfl) rfl ?_
  refine xv_aload_n (pc := 20) hC dX4_init_20 0 rfl rfl ?_
  refine xv_bipush (v := 13) (pc := 21) hC dX4_init_21 (by decide) ?_
  refine xv_newai (pc := 23) (N := 13) hC dX4_init_23 (by decide) (by decide) (by decide) (Nat.le_of_ble_eq_true rfl) (Nat.le_of_ble_eq_true rfl) (fun q2 => ?_)
  refine xv_pf (pc := 25) (q0 := 0) (ci := 4) (fs := [.ref q0, .int 0, .int 0, .ref q1, .null, .null, .null, .int 0, .int 0]) (v := .ref q2) (ty := .array .int) (w2 := [(b, .inr (4, [.ref q0, .int 0, .int 0, .ref q1, .ref q2, .null, .null, .int 0, .int 0])), (q0, .inl (dA 1, 60, .inl (fun _ => 0))), (q1, .inl (dA 0, 13, .inl (fun _ => 0))), (q2, .inl (dA 0, 13, .inl (fun _ => 0)))]) hC hN dX4_init_25 in_X4 tyX4_ok nmX4 rfl rfl 4 (by decide) wf_219 rfl rfl (by decide +kernel) rfl rfl (Nat.le_of_ble_eq_true rfl) rfl ?_
  refine xv_aload_n (pc := 28) hC dX4_init_28 0 rfl rfl ?_
  refine xv_bipush (v := 13) (pc := 29) hC dX4_init_29 (by decide) ?_
  refine xv_newai (pc := 31) (N := 13) hC dX4_init_31 (by decide) (by decide) (by decide) (Nat.le_of_ble_eq_true rfl) (Nat.le_of_ble_eq_true rfl) (fun q3 => ?_)
  refine xv_pf (pc := 33) (q0 := 0) (ci := 4) (fs := [.ref q0, .int 0, .int 0, .ref q1, .ref q2, .null, .null, .int 0, .int 0]) (v := .ref q3) (ty := .array .int) (w2 := [(b, .inr (4, [.ref q0, .int 0, .int 0, .ref q1, .ref q2, .ref q3, .null, .int 0, .int 0])), (q0, .inl (dA 1, 60, .inl (fun _ => 0))), (q1, .inl (dA 0, 13, .inl (fun _ => 0))), (q2, .inl (dA 0, 13, .inl (fun _ => 0))), (q3, .inl (dA 0, 13, .inl (fun _ => 0)))]) hC hN dX4_init_33 in_X4 tyX4_ok nmX4 rfl rfl 5 (by decide) wf_221 rfl rfl (by decide +kernel) rfl rfl (Nat.le_of_ble_eq_true rfl) rfl ?_
  refine xv_aload_n (pc := 36) hC dX4_init_36 0 rfl rfl ?_
  refine xv_bipush (v := 13) (pc := 37) hC dX4_init_37 (by decide) ?_
  refine xv_newai (pc := 39) (N := 13) hC dX4_init_39 (by decide) (by decide) (by decide) (Nat.le_of_ble_eq_true rfl) (Nat.le_of_ble_eq_true rfl) (fun q4 => ?_)
  refine xv_pf (pc := 41) (q0 := 0) (ci := 4) (fs := [.ref q0, .int 0, .int 0, .ref q1, .ref q2, .ref q3, .null, .int 0, .int 0]) (v := .ref q4) (ty := .array .int) (w2 := [(b, .inr (4, [.ref q0, .int 0, .int 0, .ref q1, .ref q2, .ref q3, .ref q4, .int 0, .int 0])), (q0, .inl (dA 1, 60, .inl (fun _ => 0))), (q1, .inl (dA 0, 13, .inl (fun _ => 0))), (q2, .inl (dA 0, 13, .inl (fun _ => 0))), (q3, .inl (dA 0, 13, .inl (fun _ => 0))), (q4, .inl (dA 0, 13, .inl (fun _ => 0)))]) hC hN dX4_init_41 in_X4 tyX4_ok nmX4 rfl rfl 6 (by decide) wf_223 rfl rfl (by decide +kernel) rfl rfl (Nat.le_of_ble_eq_true rfl) rfl ?_
  exact hR _ _ _ _ _ ⟨q0, q1, q2, q3, q4, rfl⟩ (Nat.le_of_ble_eq_true rfl) (Nat.le_of_ble_eq_true rfl) dX4_init_44
