section SXR2
variable {l : Launch} {D : va_G} {dA : Nat → ClassId} {sa : String → Nat → Nat}
variable {y : MethodName} {cc : ByteArray} {n : Nat} {ret : Option FieldType} {rm : Room} {al : List Value} {w0 w1 : va_W}
theorem xm_xr {ad : Nat → Nat} {o : Nat ⊕ Nat} {rt : String} (hl : l.stackTraces = false) (hy : plainName y.cls = true) (hlen : (lg_sl al).length ≤ n) (hret : ret = some (.object rt))
    (body : ∀ (p : Program) (e : Env) (s : State) (m : MethodId) (args : Array Value) (below : List Frame) (meth : Method) (c : Code) (A : Nat → Prop) (Q : State → Prop), xv_C p l s m args meth c D dA sa A cc n y.cls (wz y cc n ret) →
      (∀ (cells slots pc : Nat) (lv : List (Nat × Value)) (v : Nat), o = .inr v → cells ≤ rm.cells → slots ≤ rm.slots → decode cc pc = .ok (.areturn, 1) → xv p l e rm s m args below meth c D A n Q w1 cells slots pc lv [.ref (ad v)]) →
      (∀ (cells slots pc k ik iss ic : Nat) (text : String) (lv : List (Nat × Value)) (st : List Value), o = .inl k → xT5 cc pc ik iss ic → xTw y.cls (xe_nm k) ik ic → (y.cls, iss, text) ∈ xe_S → 5 < rm.frames → (st.map fun v => v.category).sum + 82 ≤ rm.locals → cells + 1 ≤ rm.cells → slots + 6 ≤ rm.slots → xv p l e rm s m args below meth c D A n Q w1 cells slots pc lv st) →
      (∀ (cells slots pc k ik iss ic : Nat) (text : String) (lv : List (Nat × Value)) (st : List Value), o = .inl k → xT5w cc pc ik iss ic → xTw y.cls (xe_nm k) ik ic → (y.cls, iss, text) ∈ xe_S → 5 < rm.frames → (st.map fun v => v.category).sum + 82 ≤ rm.locals → cells + 1 ≤ rm.cells → slots + 6 ≤ rm.slots → xv p l e rm s m args below meth c D A n Q w1 cells slots pc lv st) →
      (∀ (cells slots pc k ik iss ic : Nat) (text : String) (lv : List (Nat × Value)) (st : List Value) (ix : Nat) (rx : ByteArray), o = .inl k → xT5 cc pc ik iss ic → xTq y.cls (xe_nm k) ik ic ix rx → (y.cls, iss, text) ∈ xe_S → 5 < rm.frames → (st.map fun v => v.category).sum + 82 ≤ rm.locals → cells + 1 ≤ rm.cells → slots + 6 ≤ rm.slots → xv p l e rm s m args below meth c D A n Q w1 cells slots pc lv st) →
      (∀ (cells slots pc k ik iss ic : Nat) (text : String) (lv : List (Nat × Value)) (st : List Value) (ix : Nat) (rx : ByteArray), o = .inl k → xT5w cc pc ik iss ic → xTq y.cls (xe_nm k) ik ic ix rx → (y.cls, iss, text) ∈ xe_S → 5 < rm.frames → (st.map fun v => v.category).sum + 82 ≤ rm.locals → cells + 1 ≤ rm.cells → slots + 6 ≤ rm.slots → xv p l e rm s m args below meth c D A n Q w1 cells slots pc lv st) →
      (∀ (cells slots pc k : Nat) (lv : List (Nat × Value)) (st : List Value), o = .inl k → cells ≤ rm.cells → slots ≤ rm.slots → xvx p l e rm s m args below meth c D A n Q w1 cells slots pc lv st (xe_nm k)) →
      xv p l e rm s m args below meth c D A n Q w0 0 0 0 (lv_args 0 al) []) : CXr l D dA sa y (wz y cc n ret) rm al w0 ad o w1 := by
  intro sz
  refine vx_ofW (cc := cc) (maxL := n) (ret := ret) hy rfl ?_
  intro p e s m args below meth c s₁ B hml hnt hv
  obtain ⟨rfl, hsz, hP, hD, hC⟩ := xC_of hl B hml hv
  have hr := B.returns
  have hlv := lv_entry al hlen
  rw [lg_entry_eq]
  refine body p e s m al.toArray below meth c (va_A w0 sz) _ hC ?_ ?_ ?_ ?_ ?_ ?_ _ _ _ hP hD (by subst hsz; exact va_S.rf) hlv
  · intro cells slots pc lv v ho hc hs d H locs ls hP hD hS hl9
    subst ho
    refine W.widen hc hs ?_
    have hx := hC.1.1
    have hb := hC.1.2.1
    exact vx_ret (W.aret hx hb (hr.trans hret) (Or.inl ⟨rt, rfl⟩) (Or.inr ⟨ad v, rfl⟩) (fun t ht hW => ⟨⟨(), ad v, rfl, trivial, ⟨v, rfl, rfl⟩, by rw [ht]; exact hP, va_K.moved hW.alike hC.2.1, hD⟩, hS.F ht⟩) hS.2.2 d hC.2.2.2.2.1)
  · intro cells slots pc k ik iss ic text lv st ho h5 hw hs9 hf hlo hc hs
    exact xth_n hC hnt ho h5 hw hs9 hf hlo hc hs hc hs
  · intro cells slots pc k ik iss ic text lv st ho h5 hw hs9 hf hlo hc hs
    exact xth_w hC hnt ho h5 hw hs9 hf hlo hc hs hc hs
  · intro cells slots pc k ik iss ic text lv st ix rx ho h5 hw hs9 hf hlo hc hs
    exact xth_qn hC hnt ho h5 hw hs9 hf hlo hc hs hc hs
  · intro cells slots pc k ik iss ic text lv st ix rx ho h5 hw hs9 hf hlo hc hs
    exact xth_qw hC hnt ho h5 hw hs9 hf hlo hc hs hc hs
  · intro cells slots pc k lv st ho hc hs H locs ls q ce hP hD hS hl9 hce hcv hcl
    exact vx_out (fun x hx => (hnt x hx).elim) hC.2.2.2.2.1 hce hcv hcl (fun t ht hv9 => ⟨(), trivial, ⟨⟨k, ho, rfl⟩, by rw [ht]; exact hP, va_K.moved hv9 hC.2.1, hD⟩, hS.F ht⟩) hS.2.2 hc hs
end SXR2
def CTr (l : Launch) (D : va_G) (dA : Nat → ClassId) (sa : String → Nat → Nat) (y : MethodName) (ws : List Cond) (rm : Room) (al : List Value) (w0 : va_W) (ad : Nat → Nat) (v : Nat) (w1 : va_W) : Prop := ∀ sz, Met l y ws rm (xP D dA sa al w0 sz) (va_Qr (fun (_ : Unit) => True) (fun u a t => a = ad v ∧ xb D dA (va_A w0 sz) w1 u t) (va_A w0 sz)) rm.cells rm.slots (va_A w0 sz)
def adS (sa : String → Nat → Nat) (i : Nat) : Nat := sa "Switchboard$Program" (xe_si i)
section SXR3
variable {l : Launch} {D : va_G} {dA : Nat → ClassId} {sa : String → Nat → Nat}
variable {y : MethodName} {cc : ByteArray} {n : Nat} {ret : Option FieldType} {rm : Room} {al : List Value} {w0 w1 : va_W}
theorem xm_r {ad : Nat → Nat} {v : Nat} {rt : String} (hl : l.stackTraces = false) (hy : plainName y.cls = true) (hlen : (lg_sl al).length ≤ n) (hret : ret = some (.object rt))
    (body : ∀ (p : Program) (e : Env) (s : State) (m : MethodId) (args : Array Value) (below : List Frame) (meth : Method) (c : Code) (A : Nat → Prop) (Q : State → Prop), xv_C p l s m args meth c D dA sa A cc n y.cls (wz y cc n ret) →
      (∀ (cells slots pc : Nat) (lv : List (Nat × Value)), cells ≤ rm.cells → slots ≤ rm.slots → decode cc pc = .ok (.areturn, 1) → xv p l e rm s m args below meth c D A n Q w1 cells slots pc lv [.ref (ad v)]) →
      xv p l e rm s m args below meth c D A n Q w0 0 0 0 (lv_args 0 al) []) : CTr l D dA sa y (wz y cc n ret) rm al w0 ad v w1 := by
  intro sz
  refine Met.ofW (cc := cc) (maxL := n) (ret := ret) hy rfl ?_
  intro p e s m args below meth c s₁ B hml hv
  obtain ⟨rfl, hsz, hP, hD, hC⟩ := xC_of hl B hml hv
  have hr := B.returns
  have hlv := lv_entry al hlen
  rw [lg_entry_eq]
  refine body p e s m al.toArray below meth c (va_A w0 sz) _ hC ?_ _ _ _ hP hD (by subst hsz; exact va_S.rf) hlv
  intro cells slots pc lv hc hs d H locs ls hP hD hS hl9
  refine W.widen hc hs ?_
  have hx := hC.1.1
  have hb := hC.1.2.1
  exact W.aret hx hb (hr.trans hret) (Or.inl ⟨rt, rfl⟩) (Or.inr ⟨ad v, rfl⟩) (fun t ht hW => ⟨⟨(), ad v, rfl, trivial, rfl, by rw [ht]; exact hP, va_K.moved hW.alike hC.2.1, hD⟩, hS.F ht⟩) hS.2.2 d hC.2.2.2.2.1
end SXR3
section SXR4
variable {p : Program} {l : Launch} {e : Env} {R : Room} {s : State} {m : MethodId} {args : Array Value} {below : List Frame} {meth : Method} {c : Code} {Q : State → Prop} {D : va_G} {dA : Nat → ClassId} {sa : String → Nat → Nat} {A : Nat → Prop} {cc : ByteArray} {nL cells slots pc : Nat} {own : String} {w w2 : va_W} {lv lv' : List (Nat × Value)} {st st0 : List Value} {cw : Cond} {i9 : Nat}
theorem xv_ldcs (C : xv_C p l s m args meth c D dA sa A cc nL own (cw :: WT)) {index : Nat} {text : String} (d : decode cc pc = .ok (.ldc index, 2)) (hs : (own, index, text) ∈ xe_S) (k : xv p l e R s m args below meth c D A nL Q w cells slots (pc + 2) lv (.ref (sa own index) :: st)) : xv p l e R s m args below meth c D A nL Q w cells slots pc lv st := fun H locs ls hP hD hS hl => va_ldcS C.1.1 C.1.2.1 C.1.2.2.2.1 (C.2.2.2.1.2.2.2.2.2.1 _ hs) d (k H locs ls hP hD hS hl)
theorem xv_sval (C : xv_C p l s m args meth c D dA sa A cc nL own (cw :: WT)) {index : Nat} (d : decode cc pc = .ok (.getfield index, 3)) (hi : i9 < 9) (hw : Cond.fieldLink own index "java/lang/String" "value" "[B" ∈ WT) (k : xv p l e R s m args below meth c D A nL Q w cells slots (pc + 3) lv (.ref (sa "V" i9) :: st)) : xv p l e R s m args below meth c D A nL Q w cells slots pc lv (.ref (adS sa i9) :: st) := fun H locs ls hP hD hS hl => vk_getf C.1.1 C.1.2.1 (C.2.2.2.1.2.2.2.2.2.2.1.1 i9 hi).2.2.1 hS C.1.2.2.2.1 (C.1.2.2.2.2 _ (List.mem_cons_of_mem _ hw)) (fun _ h9 => h9) d (k H locs ls hP hD hS hl)
theorem xv_scod (C : xv_C p l s m args meth c D dA sa A cc nL own (cw :: WT)) {index : Nat} (d : decode cc pc = .ok (.getfield index, 3)) (hi : i9 < 9) (hw : Cond.fieldLink own index "java/lang/String" "coder" "B" ∈ WT) (k : xv p l e R s m args below meth c D A nL Q w cells slots (pc + 3) lv (.int 0 :: st)) : xv p l e R s m args below meth c D A nL Q w cells slots pc lv (.ref (adS sa i9) :: st) := fun H locs ls hP hD hS hl => vk_getf C.1.1 C.1.2.1 (C.2.2.2.1.2.2.2.2.2.2.1.1 i9 hi).2.1 hS C.1.2.2.2.1 (C.1.2.2.2.2 _ (List.mem_cons_of_mem _ hw)) (fun _ h9 => h9) d (k H locs ls hP hD hS hl)
theorem xv_slen (C : xv_C p l s m args meth c D dA sa A cc nL own (cw :: WT)) (d : decode cc pc = .ok (.arraylength, 1)) (hi : i9 < 9) (k : xv p l e R s m args below meth c D A nL Q w cells slots (pc + 1) lv (.int (nI (xe_sl.getD i9 0)) :: st)) : xv p l e R s m args below meth c D A nL Q w cells slots pc lv (.ref (sa "V" i9) :: st) := fun H locs ls hP hD hS hl => va_tlen C.1.1 C.1.2.1 (C.2.2.2.1.2.2.2.2.2.2.1.1 i9 hi).2.2.2 hS rfl d (k H locs ls hP hD hS hl)
theorem xv_sbld (C : xv_C p l s m args meth c D dA sa A cc nL own (cw :: WT)) {i : Int32} (d : decode cc pc = .ok (.baload, 1)) (hi : i9 < 9) (hin : vin i (xe_sl.getD i9 0) = true) (k : xv p l e R s m args below meth c D A nL Q w cells slots (pc + 1) lv (.int ((xe_sb.getD i9 []).getD i.toNatClampNeg 0) :: st)) : xv p l e R s m args below meth c D A nL Q w cells slots pc lv (.int i :: .ref (sa "V" i9) :: st) := fun H locs ls hP hD hS hl => va_tb C.1.1 C.1.2.1 (C.2.2.2.1.2.2.2.2.2.2.1.1 i9 hi).2.2.2 hS (vin_of hin) rfl d (k H locs ls hP hD hS hl)
theorem xv_gcs (C : xv_C p l s m args meth c D dA sa A cc nL own (cw :: WT)) {index : Nat} (d : decode cc pc = .ok (.getstatic index, 3)) (hw : Cond.fieldLink own index "java/lang/String" "COMPACT_STRINGS" "Z" ∈ WT) (k : xv p l e R s m args below meth c D A nL Q w cells slots (pc + 3) lv (.int 1 :: st)) : xv p l e R s m args below meth c D A nL Q w cells slots pc lv st := fun H locs ls hP hD hS hl => va_gets C.1.1 C.1.2.1 C.2.2.2.1.2.2.2.2.2.2.2.1 hS C.1.2.2.2.1 (C.1.2.2.2.2 _ (List.mem_cons_of_mem _ hw)) (fun _ h9 => h9) d (k H locs ls hP hD hS hl)
theorem xv_gsf (C : xv_C p l s m args meth c D dA sa A cc nL own (cw :: WT)) {index : Nat} (d : decode cc pc = .ok (.getstatic index, 3)) (hw : Cond.fieldLink own index "jdk/internal/util/Preconditions" "SIOOBE_FORMATTER" "Ljava/util/function/BiFunction;" ∈ WT) (k : ∀ v : Value, (v = .null ∨ ∃ t, v = .ref t) → xv p l e R s m args below meth c D A nL Q w cells slots (pc + 3) lv (v :: st)) : xv p l e R s m args below meth c D A nL Q w cells slots pc lv st := fun H locs ls hP hD hS hl => by
  rcases C.2.2.2.1.2.2.2.2.2.2.2.2.2.2.2.2.2 with h | ⟨t, h⟩
  · exact va_gets C.1.1 C.1.2.1 h hS C.1.2.2.2.1 (C.1.2.2.2.2 _ (List.mem_cons_of_mem _ hw)) (fun _ h9 => h9) d (k _ (Or.inl rfl) H locs ls hP hD hS hl)
  · exact va_gets C.1.1 C.1.2.1 h hS C.1.2.2.2.1 (C.1.2.2.2.2 _ (List.mem_cons_of_mem _ hw)) (fun _ h9 => h9) d (k _ (Or.inr ⟨t, rfl⟩) H locs ls hP hD hS hl)
theorem xv_callSr0 (C : xv_C p l s m args meth c D dA sa A cc nL own (cw :: WT)) {y : MethodName} {bytes : ByteArray} {maxL n index : Nat} {ret : Option FieldType} {rm : Room} {As : List Value} {ad : Nat → Nat} {v : Nat} (M : CTr l D dA sa y (wz y bytes maxL ret) rm As w ad v w2) (f : cfS y bytes maxL ret n) (hk9 : Cond.methodLink own index y ∈ WT) (hn : As.length = n) (hR : rm.frames + 1 ≤ R.frames ∧ 8 + (maxL + 11) + rm.locals ≤ R.locals) (hst : st0 = As.reverse ++ st) (hcat : (st.map fun v => v.category).sum ≤ 8) (d : decode cc pc = .ok (.invokestatic index, 3)) (hcs : cells + rm.cells ≤ R.cells ∧ slots + rm.slots ≤ R.slots) (k : xv p l e R s m args below meth c D A nL Q w2 (cells + rm.cells) (slots + rm.slots) (pc + 3) lv (.ref (ad v) :: st)) : xv p l e R s m args below meth c D A nL Q w cells slots pc lv st0 := by
  intro H locs ls hP hD hS hl
  have hP' : va_P D vwC ([] ++ (w ++ [])) H := by simpa using hP
  have hD' : va_D A ([] ++ (w ++ [])) := by simpa using hD
  have hF := wf_free hP' hD' hS C.2.2.1
  refine va_callr (va_runS (As := As) (rest := st) C.1 (M H.size) ⟨callB_of (index := index) (own := own) n C.1.2.2.2.2 (gi_wt (ws := wz y bytes maxL ret) (fun x hx => by
      rcases List.mem_cons.mp hx with rfl | h
      · exact f.1.2.2
      · exact h)) rfl rfl rfl (C.1.2.2.2.2 _ (List.mem_cons_of_mem _ f.1.2.1)) (C.1.2.2.2.2 _ (List.mem_cons_of_mem _ hk9)) f.1.1 hR, C.1.2.2.2.2 _ (List.mem_cons_of_mem _ f.2)⟩ ⟨xP_blind, xq_pre C hP' hD' hS⟩ rfl hn hl.1 hst (lv_room hcat) d hcs) hS (fun q _ h => hF q h) hF ?_
  intro u a9 t H1 locs1 ht hvm hp hb hz hk1 hS1
  obtain ⟨ha9, b1, b2, b3⟩ := hb
  subst ha9
  rw [ht] at b1
  obtain ⟨j1, j2⟩ := wj_join hP' hD' hk1 hF b1 b3
  exact k H1 locs1 ls (by simpa using j1) (by simpa using j2) hS1 hl
end SXR4
