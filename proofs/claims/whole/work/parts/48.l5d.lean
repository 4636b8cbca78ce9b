/-! private methods of a superclass, called on an object of the class C -/
theorem sel_priv {s : State} {args : Array Value} {C : String} {y0 y : MethodName} (h0 : (Cond.selects C y0 y0).before args s = true) (hcl : y0.cls = y.cls) (hp : (Cond.privateMethod y).before args s = true) (hinst : (Cond.instanceMethod y).before args s = true) (hy : y.cls ≠ "java/lang/invoke/MethodHandle" ∧ y.cls ≠ "java/lang/invoke/VarHandle") : (Cond.selects C y y).before args s = true := by
  obtain ⟨c, r, m0, q1, q2, q3, q4, kP, hk, hni⟩ := Cond.selects_spec h0
  obtain ⟨mk, methM, hnamed, hmethM, -, -⟩ := Cond.instanceMethod_spec hinst
  have hfound : s.methodFound? y.cls y.name y.desc = some mk := State.methodFound?_of_named hnamed hy
  have hcls : mk.cls = m0.cls := by
    have e1 := findClass_of_methodNamed hnamed
    have e2 := findClass_of_methodNamed q3
    rw [hcl] at e2
    exact Option.some.inj (e1.symm.trans e2)
  have hsel : selectMethod {} s.vm c mk = .method mk := selectMethod_private hmethM (Cond.privateMethod_at hp mk methM hnamed hmethM)
  simp only [Cond.before, Cond.holds, Cond.value, q1, hfound, hnamed, hsel, hcls, hk]
  simp; exact hni
section SXQ
variable {p : Program} {l : Launch} {e : Env} {R : Room} {s : State} {m : MethodId} {args : Array Value} {below : List Frame} {meth : Method} {c : Code} {Q : State → Prop} {D : va_G} {dA : Nat → ClassId} {sa : String → Nat → Nat} {A : Nat → Prop} {cc : ByteArray} {nL cells slots pc : Nat} {own : String} {w w2 : va_W} {lv lv' : List (Nat × Value)} {st st0 rest : List Value}
variable {cw : Cond} {y : MethodName} {bytes : ByteArray} {maxL n index : Nat} {ret : Option FieldType} {rm : Room} {As : List Value} {b : Nat} {pre post w0 w1 : va_W}
def cfQ (C : String) (y : MethodName) (b : ByteArray) (n : Nat) (ret : Option FieldType) (k : Nat) : Prop := cfA y b n ret k ∧ Cond.sameMethod y.cls y.cls y.name y.desc ∈ WT ∧ Cond.instanceMethod y ∈ WT ∧ Cond.privateMethod y ∈ WT ∧ ∃ y0, Cond.selects C y0 y0 ∈ WT ∧ y0.cls = y.cls
theorem cwQ_of {C : String} (hC : xv_C p l s m args meth c D dA sa A cc nL own (cw :: WT)) (f : cfQ C y bytes maxL ret n) (hk9 : Cond.methodLink own index y ∈ WT) (hR : rm.frames + 1 ≤ R.frames ∧ 8 + (maxL + 11) + rm.locals ≤ R.locals) : va_CU R s args own C y.cls index y y bytes maxL ret (wz y bytes maxL ret) rm rm.cells rm.slots n := by
  have ht : ∀ x ∈ WT, x.before args s = true := fun x hx => hC.1.2.2.2.2 x (List.mem_cons_of_mem _ hx)
  obtain ⟨⟨⟨f1, f2, f3⟩, f4, f5⟩, f6, f7, f8, y0, f9, f10⟩ := f
  have hG : GoodIn (cw :: WT) (wz y bytes maxL ret) := gi_wt (fun x hx => by
    rcases List.mem_cons.mp hx with rfl | h
    · exact f5
    · exact h)
  refine ⟨⟨rfl, rfl, hR.1, hR.2, pay_in hC.1.2.2.2.2 hG, List.mem_cons_self⟩, ht _ f5, ht _ f4, ⟨f1, f2⟩, fun sig h => ?_, ht _ hk9, ht _ f6, va_Decl.of (ht _ f7) (ht _ f5), sel_priv (ht _ f9) f10 (ht _ f8) (ht _ f7) ⟨f1, f2⟩, ht _ f7⟩
  rw [h] at f3
  exact (Option.some.inj f3).symm
theorem xv_callQi (hC : xv_C p l s m args meth c D dA sa A cc nL own (cw :: WT)) {C : String} {v : Int32} (M : CTi l D dA sa y (wz y bytes maxL ret) rm (.ref b :: As) w0 v w1) (f : cfQ C y bytes maxL ret n) (hk9 : Cond.methodLink own index y ∈ WT) (hrc : rcv w0 b C) (hn : As.length = n) (hR : rm.frames + 1 ≤ R.frames ∧ 8 + (maxL + 11) + rm.locals ≤ R.locals) (hst : st0 = As.reverse ++ .ref b :: st) (hcat : (st.map fun v => v.category).sum ≤ 8) (d : decode cc pc = .ok (.invokevirtual index, 3)) (hcs : cells + rm.cells ≤ R.cells ∧ slots + rm.slots ≤ R.slots) (hw : w = pre ++ (w0 ++ post)) (hw2 : w2 = pre ++ (w1 ++ post)) (k : xv p l e R s m args below meth c D A nL Q w2 (cells + rm.cells) (slots + rm.slots) (pc + 3) lv (.int v :: st)) : xv p l e R s m args below meth c D A nL Q w cells slots pc lv st0 := by
  intro H locs ls hP hD hS hl
  subst hw; subst hw2
  have hF := wf_free hP hD hS hC.2.2.1
  refine va_calli (va_runU (As := As) (rest := st) hC.1 (M H.size) (cwQ_of hC f hk9 hR) (pv_of hC hrc hP hD hS) rfl hn hl.1 hst (lv_room hcat) d hcs) hS (fun q _ h => hF q h) hF ?_
  intro r9 u t H1 locs1 ht hvm hp hb hz hk1 hS1
  obtain ⟨b1, b2, b3⟩ := hb
  rw [ht] at b1
  subst hp
  obtain ⟨j1, j2⟩ := wj_join hP hD hk1 hF b1 b3
  exact k H1 locs1 ls j1 j2 hS1 hl
theorem xv_callQpv (hC : xv_C p l s m args meth c D dA sa A cc nL own (cw :: WT)) {C : String} {P1 : va_W → Prop} (M : CPv l D dA sa y (wz y bytes maxL ret) rm (.ref b :: As) w0 P1) (f : cfQ C y bytes maxL ret n) (hk9 : Cond.methodLink own index y ∈ WT) (hrc : rcv w0 b C) (hn : As.length = n) (hR : rm.frames + 1 ≤ R.frames ∧ 8 + (maxL + 11) + rm.locals ≤ R.locals) (hst : st0 = As.reverse ++ .ref b :: st) (hcat : (st.map fun v => v.category).sum ≤ 8) (d : decode cc pc = .ok (.invokevirtual index, 3)) (hcs : cells + rm.cells ≤ R.cells ∧ slots + rm.slots ≤ R.slots) (hw : w = pre ++ (w0 ++ post)) (k : ∀ w1, P1 w1 → xv p l e R s m args below meth c D A nL Q (pre ++ (w1 ++ post)) (cells + rm.cells) (slots + rm.slots) (pc + 3) lv st) : xv p l e R s m args below meth c D A nL Q w cells slots pc lv st0 := by
  intro H locs ls hP hD hS hl
  subst hw
  have hF := wf_free hP hD hS hC.2.2.1
  refine va_callv (va_runU (As := As) (rest := st) hC.1 (M H.size) (cwQ_of hC f hk9 hR) (pv_of hC hrc hP hD hS) rfl hn hl.1 hst (lv_room hcat) d hcs) hS (fun q _ h => hF q h) hF ?_
  intro u t H1 locs1 ht hvm hp hb hz hk1 hS1
  obtain ⟨b1, b2, b3⟩ := hb
  rw [ht] at b1
  obtain ⟨j1, j2⟩ := wj_join hP hD hk1 hF b1 b3
  exact k u hp H1 locs1 ls j1 j2 hS1 hl
end SXQ
