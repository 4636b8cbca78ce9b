/-! contracts whose world behind is only known by a property (a byte array may be new), and their call rows -/
section SXP
variable {D : va_G} {dA : Nat → ClassId} {sa : String → Nat → Nat} {l : Launch}
def CPv (l : Launch) (D : va_G) (dA : Nat → ClassId) (sa : String → Nat → Nat) (y : MethodName) (ws : List Cond) (rm : Room) (al : List Value) (w0 : va_W) (P1 : va_W → Prop) : Prop := ∀ sz, Met l y ws rm (xP D dA sa al w0 sz) (va_Qv (fun (w1 : va_W) => P1 w1) (fun w1 t => xb D dA (va_A w0 sz) w1 () t) (va_A w0 sz)) rm.cells rm.slots (va_A w0 sz)
def CPr (l : Launch) (D : va_G) (dA : Nat → ClassId) (sa : String → Nat → Nat) (y : MethodName) (ws : List Cond) (rm : Room) (al : List Value) (w0 : va_W) (P1 : va_W → Nat → Prop) : Prop := ∀ sz, Met l y ws rm (xP D dA sa al w0 sz) (va_Qr (fun (_ : va_W) => True) (fun w1 a t => P1 w1 a ∧ xb D dA (va_A w0 sz) w1 () t) (va_A w0 sz)) rm.cells rm.slots (va_A w0 sz)
def CPi (l : Launch) (D : va_G) (dA : Nat → ClassId) (sa : String → Nat → Nat) (y : MethodName) (ws : List Cond) (rm : Room) (al : List Value) (w0 : va_W) (P1 : Int32 → va_W → Prop) : Prop := ∀ sz, Met l y ws rm (xP D dA sa al w0 sz) (va_Qi (fun r (w1 : va_W) => P1 r w1) (fun w1 t => xb D dA (va_A w0 sz) w1 () t) (va_A w0 sz)) rm.cells rm.slots (va_A w0 sz)
variable {y : MethodName} {cc : ByteArray} {n : Nat} {ret : Option FieldType} {rm : Room} {al : List Value} {w0 w1 : va_W}
theorem xm_pv {P1 : va_W → Prop} (hl : l.stackTraces = false) (hy : plainName y.cls = true) (hlen : (lg_sl al).length ≤ n) (hret : ret = none)
    (body : ∀ (p : Program) (e : Env) (s : State) (m : MethodId) (args : Array Value) (below : List Frame) (meth : Method) (c : Code) (A : Nat → Prop) (Q : State → Prop), xv_C p l s m args meth c D dA sa A cc n y.cls (wz y cc n ret) →
      (∀ (w1 : va_W) (cells slots pc : Nat) (lv : List (Nat × Value)), P1 w1 → cells ≤ rm.cells → slots ≤ rm.slots → decode cc pc = .ok (.return_, 1) → xv p l e rm s m args below meth c D A n Q w1 cells slots pc lv []) →
      xv p l e rm s m args below meth c D A n Q w0 0 0 0 (lv_args 0 al) []) : CPv l D dA sa y (wz y cc n ret) rm al w0 P1 := by
  intro sz
  refine Met.ofW (cc := cc) (maxL := n) (ret := ret) hy rfl ?_
  intro p e s m args below meth c s₁ B hml hv
  obtain ⟨rfl, hsz, hP, hD, hC⟩ := xC_of hl B hml hv
  have hr := B.returns
  have hlv := lv_entry al hlen
  rw [lg_entry_eq]
  refine body p e s m al.toArray below meth c (va_A w0 sz) _ hC ?_ _ _ _ hP hD (by subst hsz; exact va_S.rf) hlv
  intro w1 cells slots pc lv h1 hc hs d H locs ls hP hD hS hl9
  refine W.widen hc hs ?_
  have hx := hC.1.1
  have hb := hC.1.2.1
  exact W.vret hx hb (hr.trans hret) (fun t ht hW => ⟨⟨w1, rfl, h1, by rw [ht]; exact hP, va_K.moved hW.alike hC.2.1, hD⟩, hS.F ht⟩) hS.2.2 d hC.2.2.2.2.1
theorem xm_pr {P1 : va_W → Nat → Prop} {rt : FieldType} (hl : l.stackTraces = false) (hy : plainName y.cls = true) (hlen : (lg_sl al).length ≤ n) (hret : ret = some rt) (hrt : (∃ C, rt = .object C) ∨ ∃ t, rt = .array t)
    (body : ∀ (p : Program) (e : Env) (s : State) (m : MethodId) (args : Array Value) (below : List Frame) (meth : Method) (c : Code) (A : Nat → Prop) (Q : State → Prop), xv_C p l s m args meth c D dA sa A cc n y.cls (wz y cc n ret) →
      (∀ (w1 : va_W) (a : Nat) (cells slots pc : Nat) (lv : List (Nat × Value)), P1 w1 a → cells ≤ rm.cells → slots ≤ rm.slots → decode cc pc = .ok (.areturn, 1) → xv p l e rm s m args below meth c D A n Q w1 cells slots pc lv [.ref a]) →
      xv p l e rm s m args below meth c D A n Q w0 0 0 0 (lv_args 0 al) []) : CPr l D dA sa y (wz y cc n ret) rm al w0 P1 := by
  intro sz
  refine Met.ofW (cc := cc) (maxL := n) (ret := ret) hy rfl ?_
  intro p e s m args below meth c s₁ B hml hv
  obtain ⟨rfl, hsz, hP, hD, hC⟩ := xC_of hl B hml hv
  have hr := B.returns
  have hlv := lv_entry al hlen
  rw [lg_entry_eq]
  refine body p e s m al.toArray below meth c (va_A w0 sz) _ hC ?_ _ _ _ hP hD (by subst hsz; exact va_S.rf) hlv
  intro w1 a cells slots pc lv h1 hc hs d H locs ls hP hD hS hl9
  refine W.widen hc hs ?_
  have hx := hC.1.1
  have hb := hC.1.2.1
  exact W.aret hx hb (hr.trans hret) hrt (Or.inr ⟨a, rfl⟩) (fun t ht hW => ⟨⟨w1, a, rfl, trivial, h1, by rw [ht]; exact hP, va_K.moved hW.alike hC.2.1, hD⟩, hS.F ht⟩) hS.2.2 d hC.2.2.2.2.1
end SXP
section SXP2
variable {p : Program} {l : Launch} {e : Env} {R : Room} {s : State} {m : MethodId} {args : Array Value} {below : List Frame} {meth : Method} {c : Code} {Q : State → Prop} {D : va_G} {dA : Nat → ClassId} {sa : String → Nat → Nat} {A : Nat → Prop} {cc : ByteArray} {nL cells slots pc : Nat} {own : String} {w w2 : va_W} {lv lv' : List (Nat × Value)} {st st0 rest : List Value}
variable {cw : Cond} {y : MethodName} {bytes : ByteArray} {maxL n index : Nat} {ret : Option FieldType} {rm : Room} {As : List Value} {b : Nat} {pre post w0 w1 : va_W}
/-- what is known of a method of a superclass that the class C inherits -/
def cfU (C : String) (y : MethodName) (b : ByteArray) (n : Nat) (ret : Option FieldType) (k : Nat) : Prop := cfA y b n ret k ∧ Cond.sameMethod y.cls y.cls y.name y.desc ∈ WT ∧ Cond.instanceMethod y ∈ WT ∧ Cond.selects C y y ∈ WT
/-- .. that is called by 'super.' -/
def cfP (C : String) (y : MethodName) (b : ByteArray) (n : Nat) (ret : Option FieldType) (k : Nat) : Prop := cfA y b n ret k ∧ Cond.sameMethod y.cls y.cls y.name y.desc ∈ WT ∧ Cond.instanceMethod y ∈ WT ∧ Cond.superclass C y.cls ∈ WT ∧ y.name ≠ "<init>"
theorem cwU_of {C : String} (hC : xv_C p l s m args meth c D dA sa A cc nL own (cw :: WT)) (f : cfU C y bytes maxL ret n) (hk9 : Cond.methodLink own index y ∈ WT) (hR : rm.frames + 1 ≤ R.frames ∧ 8 + (maxL + 11) + rm.locals ≤ R.locals) : va_CU R s args own C y.cls index y y bytes maxL ret (wz y bytes maxL ret) rm rm.cells rm.slots n :=
  va_cwU n hC.1.2.2.2.2 (gi_wt (ws := va_wsU own index C y.cls y y (wz y bytes maxL ret)) (fun x hx => by
    rcases List.mem_append.mp hx with h | h
    · rcases List.mem_cons.mp h with rfl | h
      · exact hk9
      · rcases List.mem_cons.mp h with rfl | h
        · exact f.2.1
        · rcases List.mem_cons.mp h with rfl | h
          · exact f.2.2.2
          · rcases List.mem_cons.mp h with rfl | h
            · exact f.2.2.1
            · rcases List.mem_cons.mp h with rfl | h
              · exact f.1.2.1
              · exact absurd h List.not_mem_nil
    · rcases List.mem_cons.mp h with rfl | h
      · exact f.1.2.2
      · exact h)) rfl rfl rfl rfl f.1.1 hR
theorem cwP_of (hC : xv_C p l s m args meth c D dA sa A cc nL own (cw :: WT)) (f : cfP own y bytes maxL ret n) (hk9 : Cond.methodLink own index y ∈ WT) (hR : rm.frames + 1 ≤ R.frames ∧ 8 + (maxL + 11) + rm.locals ≤ R.locals) : va_CS R s args own index y bytes maxL ret (wz y bytes maxL ret) rm rm.cells rm.slots n :=
  va_cwSU n hC.1.2.2.2.2 (gi_wt (ws := va_wsSU own index y (wz y bytes maxL ret)) (fun x hx => by
    rcases List.mem_append.mp hx with h | h
    · rcases List.mem_cons.mp h with rfl | h
      · exact hk9
      · rcases List.mem_cons.mp h with rfl | h
        · exact f.2.1
        · rcases List.mem_cons.mp h with rfl | h
          · exact f.2.2.2.1
          · rcases List.mem_cons.mp h with rfl | h
            · exact f.2.2.1
            · rcases List.mem_cons.mp h with rfl | h
              · exact f.1.2.1
              · exact absurd h List.not_mem_nil
    · rcases List.mem_cons.mp h with rfl | h
      · exact f.1.2.2
      · exact h)) rfl rfl rfl ⟨f.2.2.2.2, f.1.1.2.2⟩ hR
/-- the receiver: a cell of the world, of class number ci -/
def rcv (w0 : va_W) (b : Nat) (C : String) : Prop := ∃ (q0 ci : Nat) (fs : List Value) (T : u_T) (N : Nat), w0[q0]? = some (b, .inr (ci, fs)) ∧ vwC[ci]? = some (C, T, N)
theorem pv_of {C : String} {H : Heap} {locs : List Loc} (hC : xv_C p l s m args meth c D dA sa A cc nL own (cw :: WT)) (hrc : rcv w0 b C) (hP : va_P D vwC (pre ++ (w0 ++ post)) H) (hD : va_D A (pre ++ (w0 ++ post))) (hS : va_S A s.heap H locs) : PreV s H C b (xP D dA sa (.ref b :: As) w0 H.size) As := by
  obtain ⟨q0, ci, fs, T, N, hq0, hvc⟩ := hrc
  exact ⟨xP_blind, va_recv hC.2.1 (wp_l (wp_r hP)) hvc hq0, xq_pre hC hP hD hS⟩
theorem at_of {C : String} {ci : Nat} {T : u_T} {N : Nat} (hC : xv_C p l s m args meth c D dA sa A cc nL own (cw :: WT)) (h : vwC[ci]? = some (C, T, N)) : ClassAt s C (D.1 ci) := (hC.2.1.1 ci _ h).2
theorem xv_callUi (hC : xv_C p l s m args meth c D dA sa A cc nL own (cw :: WT)) {C : String} {v : Int32} (M : CTi l D dA sa y (wz y bytes maxL ret) rm (.ref b :: As) w0 v w1) (f : cfU C y bytes maxL ret n) (hk9 : Cond.methodLink own index y ∈ WT) (hrc : rcv w0 b C) (hn : As.length = n) (hR : rm.frames + 1 ≤ R.frames ∧ 8 + (maxL + 11) + rm.locals ≤ R.locals) (hst : st0 = As.reverse ++ .ref b :: st) (hcat : (st.map fun v => v.category).sum ≤ 8) (d : decode cc pc = .ok (.invokevirtual index, 3)) (hcs : cells + rm.cells ≤ R.cells ∧ slots + rm.slots ≤ R.slots) (hw : w = pre ++ (w0 ++ post)) (hw2 : w2 = pre ++ (w1 ++ post)) (k : xv p l e R s m args below meth c D A nL Q w2 (cells + rm.cells) (slots + rm.slots) (pc + 3) lv (.int v :: st)) : xv p l e R s m args below meth c D A nL Q w cells slots pc lv st0 := by
  intro H locs ls hP hD hS hl
  subst hw; subst hw2
  have hF := wf_free hP hD hS hC.2.2.1
  refine va_calli (va_runU (As := As) (rest := st) hC.1 (M H.size) (cwU_of hC f hk9 hR) (pv_of hC hrc hP hD hS) rfl hn hl.1 hst (lv_room hcat) d hcs) hS (fun q _ h => hF q h) hF ?_
  intro r9 u t H1 locs1 ht hvm hp hb hz hk1 hS1
  obtain ⟨b1, b2, b3⟩ := hb
  rw [ht] at b1
  subst hp
  obtain ⟨j1, j2⟩ := wj_join hP hD hk1 hF b1 b3
  exact k H1 locs1 ls j1 j2 hS1 hl
theorem xv_callUpv (hC : xv_C p l s m args meth c D dA sa A cc nL own (cw :: WT)) {C : String} {P1 : va_W → Prop} (M : CPv l D dA sa y (wz y bytes maxL ret) rm (.ref b :: As) w0 P1) (f : cfU C y bytes maxL ret n) (hk9 : Cond.methodLink own index y ∈ WT) (hrc : rcv w0 b C) (hn : As.length = n) (hR : rm.frames + 1 ≤ R.frames ∧ 8 + (maxL + 11) + rm.locals ≤ R.locals) (hst : st0 = As.reverse ++ .ref b :: st) (hcat : (st.map fun v => v.category).sum ≤ 8) (d : decode cc pc = .ok (.invokevirtual index, 3)) (hcs : cells + rm.cells ≤ R.cells ∧ slots + rm.slots ≤ R.slots) (hw : w = pre ++ (w0 ++ post)) (k : ∀ w1, P1 w1 → xv p l e R s m args below meth c D A nL Q (pre ++ (w1 ++ post)) (cells + rm.cells) (slots + rm.slots) (pc + 3) lv st) : xv p l e R s m args below meth c D A nL Q w cells slots pc lv st0 := by
  intro H locs ls hP hD hS hl
  subst hw
  have hF := wf_free hP hD hS hC.2.2.1
  refine va_callv (va_runU (As := As) (rest := st) hC.1 (M H.size) (cwU_of hC f hk9 hR) (pv_of hC hrc hP hD hS) rfl hn hl.1 hst (lv_room hcat) d hcs) hS (fun q _ h => hF q h) hF ?_
  intro u t H1 locs1 ht hvm hp hb hz hk1 hS1
  obtain ⟨b1, b2, b3⟩ := hb
  rw [ht] at b1
  obtain ⟨j1, j2⟩ := wj_join hP hD hk1 hF b1 b3
  exact k u hp H1 locs1 ls j1 j2 hS1 hl
theorem xv_callVpv (hC : xv_C p l s m args meth c D dA sa A cc nL own (cw :: WT)) {P1 : va_W → Prop} (M : CPv l D dA sa y (wz y bytes maxL ret) rm (.ref b :: As) w0 P1) (f : cfV y bytes maxL ret n) (hk9 : Cond.methodLink own index y ∈ WT) (hrc : rcv w0 b y.cls) (hn : As.length = n) (hR : rm.frames + 1 ≤ R.frames ∧ 8 + (maxL + 11) + rm.locals ≤ R.locals) (hst : st0 = As.reverse ++ .ref b :: st) (hcat : (st.map fun v => v.category).sum ≤ 8) (d : decode cc pc = .ok (.invokevirtual index, 3)) (hcs : cells + rm.cells ≤ R.cells ∧ slots + rm.slots ≤ R.slots) (hw : w = pre ++ (w0 ++ post)) (k : ∀ w1, P1 w1 → xv p l e R s m args below meth c D A nL Q (pre ++ (w1 ++ post)) (cells + rm.cells) (slots + rm.slots) (pc + 3) lv st) : xv p l e R s m args below meth c D A nL Q w cells slots pc lv st0 := by
  intro H locs ls hP hD hS hl
  subst hw
  have hF := wf_free hP hD hS hC.2.2.1
  refine va_callv (va_runV (As := As) (rest := st) hC.1 (M H.size) (cwV n hC.1.2.2.2.2 (gi_wt (ws := wsV own index y.cls y (wz y bytes maxL ret)) (fun x hx => by
      rcases List.mem_append.mp hx with h | h
      · rcases List.mem_cons.mp h with rfl | h
        · exact hk9
        · rcases List.mem_cons.mp h with rfl | h
          · exact f.2.1
          · rcases List.mem_cons.mp h with rfl | h
            · exact f.2.2
            · rcases List.mem_cons.mp h with rfl | h
              · exact f.1.2.1
              · exact absurd h List.not_mem_nil
      · rcases List.mem_cons.mp h with rfl | h
        · exact f.1.2.2
        · exact h)) rfl rfl rfl ⟨rfl, f.1.1⟩ hR) (pv_of hC hrc hP hD hS) rfl hn hl.1 hst (lv_room hcat) d hcs) hS (fun q _ h => hF q h) hF ?_
  intro u t H1 locs1 ht hvm hp hb hz hk1 hS1
  obtain ⟨b1, b2, b3⟩ := hb
  rw [ht] at b1
  obtain ⟨j1, j2⟩ := wj_join hP hD hk1 hF b1 b3
  exact k u hp H1 locs1 ls j1 j2 hS1 hl
theorem xv_callVpr (hC : xv_C p l s m args meth c D dA sa A cc nL own (cw :: WT)) {P1 : va_W → Nat → Prop} (M : CPr l D dA sa y (wz y bytes maxL ret) rm (.ref b :: As) w0 P1) (f : cfV y bytes maxL ret n) (hk9 : Cond.methodLink own index y ∈ WT) (hrc : rcv w0 b y.cls) (hn : As.length = n) (hR : rm.frames + 1 ≤ R.frames ∧ 8 + (maxL + 11) + rm.locals ≤ R.locals) (hst : st0 = As.reverse ++ .ref b :: st) (hcat : (st.map fun v => v.category).sum ≤ 8) (d : decode cc pc = .ok (.invokevirtual index, 3)) (hcs : cells + rm.cells ≤ R.cells ∧ slots + rm.slots ≤ R.slots) (hw : w = pre ++ (w0 ++ post)) (k : ∀ w1 a, P1 w1 a → xv p l e R s m args below meth c D A nL Q (pre ++ (w1 ++ post)) (cells + rm.cells) (slots + rm.slots) (pc + 3) lv (.ref a :: st)) : xv p l e R s m args below meth c D A nL Q w cells slots pc lv st0 := by
  intro H locs ls hP hD hS hl
  subst hw
  have hF := wf_free hP hD hS hC.2.2.1
  refine va_callr (va_runV (As := As) (rest := st) hC.1 (M H.size) (cwV n hC.1.2.2.2.2 (gi_wt (ws := wsV own index y.cls y (wz y bytes maxL ret)) (fun x hx => by
      rcases List.mem_append.mp hx with h | h
      · rcases List.mem_cons.mp h with rfl | h
        · exact hk9
        · rcases List.mem_cons.mp h with rfl | h
          · exact f.2.1
          · rcases List.mem_cons.mp h with rfl | h
            · exact f.2.2
            · rcases List.mem_cons.mp h with rfl | h
              · exact f.1.2.1
              · exact absurd h List.not_mem_nil
      · rcases List.mem_cons.mp h with rfl | h
        · exact f.1.2.2
        · exact h)) rfl rfl rfl ⟨rfl, f.1.1⟩ hR) (pv_of hC hrc hP hD hS) rfl hn hl.1 hst (lv_room hcat) d hcs) hS (fun q _ h => hF q h) hF ?_
  intro u a9 t H1 locs1 ht hvm hp hb hz hk1 hS1
  obtain ⟨hp1, b1, b2, b3⟩ := hb
  rw [ht] at b1
  obtain ⟨j1, j2⟩ := wj_join hP hD hk1 hF b1 b3
  exact k u a9 hp1 H1 locs1 ls j1 j2 hS1 hl
theorem xv_callPpr (hC : xv_C p l s m args meth c D dA sa A cc nL own (cw :: WT)) {P1 : va_W → Nat → Prop} {ci : Nat} {T : u_T} {N : Nat} (hci : vwC[ci]? = some (own, T, N)) (M : CPr l D dA sa y (wz y bytes maxL ret) rm (.ref b :: As) w0 P1) (f : cfP own y bytes maxL ret n) (hk9 : Cond.methodLink own index y ∈ WT) (hrc : rcv w0 b own) (hn : As.length = n) (hR : rm.frames + 1 ≤ R.frames ∧ 8 + (maxL + 11) + rm.locals ≤ R.locals) (hst : st0 = As.reverse ++ .ref b :: st) (hcat : (st.map fun v => v.category).sum ≤ 8) (d : decode cc pc = .ok (.invokespecial index, 3)) (hcs : cells + rm.cells ≤ R.cells ∧ slots + rm.slots ≤ R.slots) (hw : w = pre ++ (w0 ++ post)) (k : ∀ w1 a, P1 w1 a → xv p l e R s m args below meth c D A nL Q (pre ++ (w1 ++ post)) (cells + rm.cells) (slots + rm.slots) (pc + 3) lv (.ref a :: st)) : xv p l e R s m args below meth c D A nL Q w cells slots pc lv st0 := by
  intro H locs ls hP hD hS hl
  subst hw
  have hF := wf_free hP hD hS hC.2.2.1
  refine va_callr (va_runSU (As := As) (rest := st) (at_of hC hci) hC.1 (M H.size) (cwP_of hC f hk9 hR) (pv_of hC hrc hP hD hS) rfl hn hl.1 hst (lv_room hcat) d hcs) hS (fun q _ h => hF q h) hF ?_
  intro u a9 t H1 locs1 ht hvm hp hb hz hk1 hS1
  obtain ⟨hp1, b1, b2, b3⟩ := hb
  rw [ht] at b1
  obtain ⟨j1, j2⟩ := wj_join hP hD hk1 hF b1 b3
  exact k u a9 hp1 H1 locs1 ls j1 j2 hS1 hl
theorem xv_callPpv (hC : xv_C p l s m args meth c D dA sa A cc nL own (cw :: WT)) {P1 : va_W → Prop} {ci : Nat} {T : u_T} {N : Nat} (hci : vwC[ci]? = some (own, T, N)) (M : CPv l D dA sa y (wz y bytes maxL ret) rm (.ref b :: As) w0 P1) (f : cfP own y bytes maxL ret n) (hk9 : Cond.methodLink own index y ∈ WT) (hrc : rcv w0 b own) (hn : As.length = n) (hR : rm.frames + 1 ≤ R.frames ∧ 8 + (maxL + 11) + rm.locals ≤ R.locals) (hst : st0 = As.reverse ++ .ref b :: st) (hcat : (st.map fun v => v.category).sum ≤ 8) (d : decode cc pc = .ok (.invokespecial index, 3)) (hcs : cells + rm.cells ≤ R.cells ∧ slots + rm.slots ≤ R.slots) (hw : w = pre ++ (w0 ++ post)) (k : ∀ w1, P1 w1 → xv p l e R s m args below meth c D A nL Q (pre ++ (w1 ++ post)) (cells + rm.cells) (slots + rm.slots) (pc + 3) lv st) : xv p l e R s m args below meth c D A nL Q w cells slots pc lv st0 := by
  intro H locs ls hP hD hS hl
  subst hw
  have hF := wf_free hP hD hS hC.2.2.1
  refine va_callv (va_runSU (As := As) (rest := st) (at_of hC hci) hC.1 (M H.size) (cwP_of hC f hk9 hR) (pv_of hC hrc hP hD hS) rfl hn hl.1 hst (lv_room hcat) d hcs) hS (fun q _ h => hF q h) hF ?_
  intro u t H1 locs1 ht hvm hp hb hz hk1 hS1
  obtain ⟨b1, b2, b3⟩ := hb
  rw [ht] at b1
  obtain ⟨j1, j2⟩ := wj_join hP hD hk1 hF b1 b3
  exact k u hp H1 locs1 ls j1 j2 hS1 hl
theorem xv_callPi (hC : xv_C p l s m args meth c D dA sa A cc nL own (cw :: WT)) {v : Int32} {ci : Nat} {T : u_T} {N : Nat} (hci : vwC[ci]? = some (own, T, N)) (M : CTi l D dA sa y (wz y bytes maxL ret) rm (.ref b :: As) w0 v w1) (f : cfP own y bytes maxL ret n) (hk9 : Cond.methodLink own index y ∈ WT) (hrc : rcv w0 b own) (hn : As.length = n) (hR : rm.frames + 1 ≤ R.frames ∧ 8 + (maxL + 11) + rm.locals ≤ R.locals) (hst : st0 = As.reverse ++ .ref b :: st) (hcat : (st.map fun v => v.category).sum ≤ 8) (d : decode cc pc = .ok (.invokespecial index, 3)) (hcs : cells + rm.cells ≤ R.cells ∧ slots + rm.slots ≤ R.slots) (hw : w = pre ++ (w0 ++ post)) (hw2 : w2 = pre ++ (w1 ++ post)) (k : xv p l e R s m args below meth c D A nL Q w2 (cells + rm.cells) (slots + rm.slots) (pc + 3) lv (.int v :: st)) : xv p l e R s m args below meth c D A nL Q w cells slots pc lv st0 := by
  intro H locs ls hP hD hS hl
  subst hw; subst hw2
  have hF := wf_free hP hD hS hC.2.2.1
  refine va_calli (va_runSU (As := As) (rest := st) (at_of hC hci) hC.1 (M H.size) (cwP_of hC f hk9 hR) (pv_of hC hrc hP hD hS) rfl hn hl.1 hst (lv_room hcat) d hcs) hS (fun q _ h => hF q h) hF ?_
  intro r9 u t H1 locs1 ht hvm hp hb hz hk1 hS1
  obtain ⟨b1, b2, b3⟩ := hb
  rw [ht] at b1
  subst hp
  obtain ⟨j1, j2⟩ := wj_join hP hD hk1 hF b1 b3
  exact k H1 locs1 ls j1 j2 hS1 hl
theorem xv_callSpr (hC : xv_C p l s m args meth c D dA sa A cc nL own (cw :: WT)) {P1 : va_W → Nat → Prop} (M : CPr l D dA sa y (wz y bytes maxL ret) rm As w0 P1) (f : cfS y bytes maxL ret n) (hk9 : Cond.methodLink own index y ∈ WT) (hn : As.length = n) (hR : rm.frames + 1 ≤ R.frames ∧ 8 + (maxL + 11) + rm.locals ≤ R.locals) (hst : st0 = As.reverse ++ st) (hcat : (st.map fun v => v.category).sum ≤ 8) (d : decode cc pc = .ok (.invokestatic index, 3)) (hcs : cells + rm.cells ≤ R.cells ∧ slots + rm.slots ≤ R.slots) (hw : w = pre ++ (w0 ++ post)) (k : ∀ w1 a, P1 w1 a → xv p l e R s m args below meth c D A nL Q (pre ++ (w1 ++ post)) (cells + rm.cells) (slots + rm.slots) (pc + 3) lv (.ref a :: st)) : xv p l e R s m args below meth c D A nL Q w cells slots pc lv st0 := by
  intro H locs ls hP hD hS hl
  subst hw
  have hF := wf_free hP hD hS hC.2.2.1
  refine va_callr (va_runS (As := As) (rest := st) hC.1 (M H.size) ⟨callB_of (index := index) (own := own) n hC.1.2.2.2.2 (gi_wt (ws := wz y bytes maxL ret) (fun x hx => by
      rcases List.mem_cons.mp hx with rfl | h
      · exact f.1.2.2
      · exact h)) rfl rfl rfl (hC.1.2.2.2.2 _ (List.mem_cons_of_mem _ f.1.2.1)) (hC.1.2.2.2.2 _ (List.mem_cons_of_mem _ hk9)) f.1.1 hR, hC.1.2.2.2.2 _ (List.mem_cons_of_mem _ f.2)⟩ ⟨xP_blind, xq_pre hC hP hD hS⟩ rfl hn hl.1 hst (lv_room hcat) d hcs) hS (fun q _ h => hF q h) hF ?_
  intro u a9 t H1 locs1 ht hvm hp hb hz hk1 hS1
  obtain ⟨hp1, b1, b2, b3⟩ := hb
  rw [ht] at b1
  obtain ⟨j1, j2⟩ := wj_join hP hD hk1 hF b1 b3
  exact k u a9 hp1 H1 locs1 ls j1 j2 hS1 hl
end SXP2
