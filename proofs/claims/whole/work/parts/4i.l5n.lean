/-! methods with handlers: entry, catch, call *)-/
noncomputable abbrev wzW (y : MethodName) (b : ByteArray) (n : Nat) (ret : Option FieldType) (hh : List (Nat × Nat × Nat × Nat)) : List Cond := Cond.codeWith y b n ret hh :: WT
section SXW
variable {l : Launch} {D : va_G} {dA : Nat → ClassId} {sa : String → Nat → Nat}
variable {y : MethodName} {cc : ByteArray} {n : Nat} {ret : Option FieldType} {hh : List (Nat × Nat × Nat × Nat)} {rm : Room} {al : List Value} {w0 w1 : va_W}
theorem xC_ofW {p : Program} {e : Env} {s : State} {m : MethodId} {args : Array Value} {below : List Frame} {meth : Method} {c : Code} {s₁ : State} {sz : Nat} (hl : l.stackTraces = false) (B : BodyLoose p l y (headSpec (wzW y cc n ret hh) rm) cc n ret e s m args below meth c s₁) (hml : c.maxLocals = n) (hv : xP D dA sa al w0 sz args s) :
    args = al.toArray ∧ s.heap.size = sz ∧ va_P D vwC w0 s.heap ∧ va_D (va_A w0 sz) w0 ∧ xv_C p l s m args meth c D dA sa (va_A w0 sz) cc n y.cls (wzW y cc n ret hh) := by
  obtain ⟨hargs, hsz, hP, hK, hD0, hE⟩ := hv
  exact ⟨hargs, hsz, hP, hD0.self, ⟨B.exec, B.bytes, hml, findClass_of_methodNamed B.named, atoms_spec (ws := wzW y cc n ret hh) B.pre⟩, hK, fun q h => Or.inr (by omega), hE, B.notSynchronized, hl⟩
theorem xm_wi {P1 : Int32 → va_W → Prop} (hl : l.stackTraces = false) (hy : plainName y.cls = true) (hlen : (lg_sl al).length ≤ n) (hret : ret = some .int)
    (body : ∀ (p : Program) (e : Env) (s : State) (m : MethodId) (args : Array Value) (below : List Frame) (meth : Method) (c : Code) (A : Nat → Prop) (Q : State → Prop), xv_C p l s m args meth c D dA sa A cc n y.cls (wzW y cc n ret hh) → c.exceptionTable.toList = (hh.map fun q => (⟨q.1, q.2.1, q.2.2.1, q.2.2.2⟩ : ExceptionTableEntry)) →
      (∀ (w1 : va_W) (v : Int32) (cells slots pc : Nat) (lv : List (Nat × Value)), P1 v w1 → cells ≤ rm.cells → slots ≤ rm.slots → decode cc pc = .ok (.ireturn, 1) → xv p l e rm s m args below meth c D A n Q w1 cells slots pc lv [.int v]) →
      xv p l e rm s m args below meth c D A n Q w0 0 0 0 (lv_args 0 al) []) : CPi l D dA sa y (wzW y cc n ret hh) rm al w0 P1 := by
  intro sz
  refine va_MetW (cc := cc) (maxL := n) (ret := ret) (hh := hh) hy rfl ?_
  intro p e s m args below meth c s₁ B hml hv
  have htb := vx_table (x := y) B (atoms_spec (ws := wzW y cc n ret hh) B.pre _ List.mem_cons_self)
  obtain ⟨rfl, hsz, hP, hD, hC⟩ := xC_ofW hl B hml hv
  have hr := B.returns
  have hlv := lv_entry al hlen
  rw [lg_entry_eq]
  refine body p e s m al.toArray below meth c (va_A w0 sz) _ hC htb ?_ _ _ _ hP hD (by subst hsz; exact va_S.rf) hlv
  intro w1 v cells slots pc lv h1 hc hs d H locs ls hP hD hS hl9
  refine W.widen hc hs ?_
  have hx := hC.1.1
  have hb := hC.1.2.1
  exact W.iret hx hb (hr.trans hret) (fun t ht hW => ⟨⟨v, w1, rfl, h1, by rw [ht]; exact hP, va_K.moved hW.alike hC.2.1, hD⟩, hS.F ht⟩) hS.2.2 d hC.2.2.2.2.1
end SXW
section SXW2
variable {p : Program} {l : Launch} {e : Env} {R : Room} {s : State} {m : MethodId} {args : Array Value} {below : List Frame} {meth : Method} {c : Code} {Q : State → Prop} {D : va_G} {dA : Nat → ClassId} {sa : String → Nat → Nat} {A : Nat → Prop} {cc : ByteArray} {nL cells slots pc : Nat} {own : String} {w w2 : va_W} {lv lv' : List (Nat × Value)} {st st0 rest : List Value}
variable {cw : Cond} {y : MethodName} {bytes : ByteArray} {maxL n index : Nat} {ret : Option FieldType} {hh : List (Nat × Nat × Nat × Nat)} {rm : Room} {As : List Value} {b : Nat} {pre post w0 w1 : va_W}
theorem xvx_catch (C : xv_C p l s m args meth c D dA sa A cc nL own (cw :: WT)) {E : String} {hp : Nat} (bef : List ExceptionTableEntry) (x : ExceptionTableEntry) (suf : List ExceptionTableEntry) (hsplit : c.exceptionTable.toList = bef ++ x :: suf) (hpass : ∀ z ∈ bef, covers z pc = false ∨ (z.catchType ≠ 0 ∧ ∃ nm : String, Cond.classLink own z.catchType nm ∈ WT ∧ nm ∈ xe_E ∧ E ≠ nm)) (hE : E ∈ xe_E) (hx : covers x pc = true) (h0 : x.catchType ≠ 0) (hlink : Cond.classLink own x.catchType E ∈ WT) (hh9 : x.handlerPc = hp) (k : ∀ q : Nat, xv p l e R s m args below meth c D A nL Q w cells slots hp lv [.ref q]) : xvx p l e R s m args below meth c D A nL Q w cells slots pc lv st E := by
  intro H locs ls q ce hP hD hS hl hce hcv hcl
  have hts : ∀ x ∈ WT, x.before args s = true := fun x hx => C.1.2.2.2.2 x (List.mem_cons_of_mem _ hx)
  subst hh9
  refine vx_catch (own := own) (name := E) C.1.2.2.2.1 bef x suf hsplit (fun z hz => ?_) hx h0 (hts _ hlink) (va_Nw.use rfl (C.2.2.2.1.2.2.2.1 E hE)) hce hcv hcl (k q H locs ls hP hD hS hl)
  rcases hpass z hz with h | ⟨h1, nm, h2, h3, h4⟩
  · exact Or.inl h
  · exact Or.inr ⟨h1, nm, hts _ h2, C.2.2.2.1.2.2.2.2.1.1 E hE nm h3 h4⟩
def cfW (y : MethodName) (b : ByteArray) (n : Nat) (ret : Option FieldType) (hh : List (Nat × Nat × Nat × Nat)) (k : Nat) : Prop := (y.cls ≠ "java/lang/invoke/MethodHandle" ∧ y.cls ≠ "java/lang/invoke/VarHandle" ∧ (parseMethodDescriptor y.desc).map (fun d => d.parameters.length) = some k) ∧ Cond.initialized y.cls ∈ WT ∧ Cond.codeWith y b n ret hh ∈ WT ∧ Cond.static y ∈ WT
theorem xv_callWpi (hC : xv_C p l s m args meth c D dA sa A cc nL own (cw :: WT)) {P1 : Int32 → va_W → Prop} (M : CPi l D dA sa y (wzW y bytes maxL ret hh) rm As w0 P1) (f : cfW y bytes maxL ret hh n) (hk9 : Cond.methodLink own index y ∈ WT) (hn : As.length = n) (hR : rm.frames + 1 ≤ R.frames ∧ 8 + (maxL + 11) + rm.locals ≤ R.locals) (hst : st0 = As.reverse ++ st) (hcat : (st.map fun v => v.category).sum ≤ 8) (d : decode cc pc = .ok (.invokestatic index, 3)) (hcs : cells + rm.cells ≤ R.cells ∧ slots + rm.slots ≤ R.slots) (hw : w = pre ++ (w0 ++ post)) (k : ∀ w1 v, P1 v w1 → xv p l e R s m args below meth c D A nL Q (pre ++ (w1 ++ post)) (cells + rm.cells) (slots + rm.slots) (pc + 3) lv (.int v :: st)) : xv p l e R s m args below meth c D A nL Q w cells slots pc lv st0 := by
  intro H locs ls hP hD hS hl
  subst hw
  have hF := wf_free hP hD hS hC.2.2.1
  refine va_calli (vx_runSW (As := As) (rest := st) hC.1 (M H.size) (vx_cwSW (index := index) (own := own) n hC.1.2.2.2.2 (gi_wt (ws := va_wsS own index y (wzW y bytes maxL ret hh)) (fun x hx => by
      rcases List.mem_append.mp hx with h | h
      · simp only [List.mem_cons, List.not_mem_nil, or_false] at h
        rcases h with rfl | rfl | rfl
        · exact hk9
        · exact f.2.2.2
        · exact f.2.1
      · rcases List.mem_cons.mp h with rfl | h
        · exact f.2.2.1
        · exact h)) rfl rfl rfl f.1 hR) ⟨xP_blind, xq_pre hC hP hD hS⟩ rfl hn hl.1 hst (lv_room hcat) d hcs) hS (fun q _ h => hF q h) hF ?_
  intro r9 u t H1 locs1 ht hvm hp hb hz hk1 hS1
  obtain ⟨b1, b2, b3⟩ := hb
  rw [ht] at b1
  obtain ⟨j1, j2⟩ := wj_join hP hD hk1 hF b1 b3
  exact k u r9 hp H1 locs1 ls j1 j2 hS1 hl
theorem xv_callVpi (hC : xv_C p l s m args meth c D dA sa A cc nL own (cw :: WT)) {P1 : Int32 → va_W → Prop} (M : CPi l D dA sa y (wz y bytes maxL ret) rm (.ref b :: As) w0 P1) (f : cfV y bytes maxL ret n) (hk9 : Cond.methodLink own index y ∈ WT) (hrc : rcv w0 b y.cls) (hn : As.length = n) (hR : rm.frames + 1 ≤ R.frames ∧ 8 + (maxL + 11) + rm.locals ≤ R.locals) (hst : st0 = As.reverse ++ .ref b :: st) (hcat : (st.map fun v => v.category).sum ≤ 8) (d : decode cc pc = .ok (.invokevirtual index, 3)) (hcs : cells + rm.cells ≤ R.cells ∧ slots + rm.slots ≤ R.slots) (hw : w = pre ++ (w0 ++ post)) (k : ∀ w1 v, P1 v w1 → xv p l e R s m args below meth c D A nL Q (pre ++ (w1 ++ post)) (cells + rm.cells) (slots + rm.slots) (pc + 3) lv (.int v :: st)) : xv p l e R s m args below meth c D A nL Q w cells slots pc lv st0 := by
  intro H locs ls hP hD hS hl
  subst hw
  have hF := wf_free hP hD hS hC.2.2.1
  refine va_calli (va_runV (As := As) (rest := st) hC.1 (M H.size) (cwV n hC.1.2.2.2.2 (gi_wt (ws := wsV own index y.cls y (wz y bytes maxL ret)) (fun x hx => by
      rcases List.mem_append.mp hx with h | h
      · rcases List.mem_cons.mp h with rfl | h
        · exact hk9
        · rcases List.mem_cons.mp h with rfl | h
          · exact f.2.1
          · rcases List.mem_cons.mp h with rfl | h
            · exact f.2.2
            · rcases List.mem_cons.mp h with rfl | h
              · exact f.1.2.1
              · exact absurd h List.not_mem_nil
      · rcases List.mem_cons.mp h with rfl | h
        · exact f.1.2.2
        · exact h)) rfl rfl rfl ⟨rfl, f.1.1⟩ hR) (pv_of hC hrc hP hD hS) rfl hn hl.1 hst (lv_room hcat) d hcs) hS (fun q _ h => hF q h) hF ?_
  intro r9 u t H1 locs1 ht hvm hp hb hz hk1 hS1
  obtain ⟨b1, b2, b3⟩ := hb
  rw [ht] at b1
  obtain ⟨j1, j2⟩ := wj_join hP hD hk1 hF b1 b3
  exact k u r9 hp H1 locs1 ls j1 j2 hS1 hl
end SXW2
