section SXR2
variable {l : Launch} {D : va_G} {dA : Nat → ClassId} {sa : String → Nat → Nat}
variable {y : MethodName} {cc : ByteArray} {n : Nat} {ret : Option FieldType} {rm : Room} {al : List Value} {w0 w1 : va_W}
theorem xm_xr {ad : Nat → Nat} {o : Nat ⊕ Nat} {rt : String} (hl : l.stackTraces = false) (hy : plainName y.cls = true) (hlen : (lg_sl al).length ≤ n) (hret : ret = some (.object rt))
    (body : ∀ (p : Program) (e : Env) (s : State) (m : MethodId) (args : Array Value) (below : List Frame) (meth : Method) (c : Code) (A : Nat → Prop) (Q : State → Prop), xv_C p l s m args meth c D dA sa A cc n y.cls (wz y cc n ret) →
      (∀ (cells slots pc : Nat) (lv : List (Nat × Value)) (v : Nat), o = .inr v → cells ≤ rm.cells → slots ≤ rm.slots → decode cc pc = .ok (.areturn, 1) → xv p l e rm s m args below meth c D A n Q w1 cells slots pc lv [.ref (ad v)]) →
      (∀ (cells slots pc k ik iss ic : Nat) (text : String) (lv : List (Nat × Value)) (st : List Value), o = .inl k → xT5 cc pc ik iss ic → xTw y.cls (xe_nm k) ik ic → (y.cls, iss, text) ∈ xe_S → 5 < rm.frames → (st.map fun v => v.category).sum + 82 ≤ rm.locals → cells + 1 ≤ rm.cells → slots + 6 ≤ rm.slots → xv p l e rm s m args below meth c D A n Q w1 cells slots pc lv st) →
      (∀ (cells slots pc k ik iss ic : Nat) (text : String) (lv : List (Nat × Value)) (st : List Value), o = .inl k → xT5w cc pc ik iss ic → xTw y.cls (xe_nm k) ik ic → (y.cls, iss, text) ∈ xe_S → 5 < rm.frames → (st.map fun v => v.category).sum + 82 ≤ rm.locals → cells + 1 ≤ rm.cells → slots + 6 ≤ rm.slots → xv p l e rm s m args below meth c D A n Q w1 cells slots pc lv st) →
      (∀ (cells slots pc k ik iss ic : Nat) (text : String) (lv : List (Nat × Value)) (st : List Value) (ix : Nat) (rx : ByteArray), o = .inl k → xT5 cc pc ik iss ic → xTq y.cls (xe_nm k) ik ic ix rx → (y.cls, iss, text) ∈ xe_S → 5 < rm.frames → (st.map fun v => v.category).sum + 82 ≤ rm.locals → cells + 1 ≤ rm.cells → slots + 6 ≤ rm.slots → xv p l e rm s m args below meth c D A n Q w1 cells slots pc lv st) →
      (∀ (cells slots pc k ik iss ic : Nat) (text : String) (lv : List (Nat × Value)) (st : List Value) (ix : Nat) (rx : ByteArray), o = .inl k → xT5w cc pc ik iss ic → xTq y.cls (xe_nm k) ik ic ix rx → (y.cls, iss, text) ∈ xe_S → 5 < rm.frames → (st.map fun v => v.category).sum + 82 ≤ rm.locals → cells + 1 ≤ rm.cells → slots + 6 ≤ rm.slots → xv p l e rm s m args below meth c D A n Q w1 cells slots pc lv st) →
      (∀ (cells slots pc k : Nat) (lv : List (Nat × Value)) (st : List Value), o = .inl k → cells ≤ rm.cells → slots ≤ rm.slots → xvx p l e rm s m args below meth c D A n Q w1 cells slots pc lv st (xe_nm k)) →
      xv p l e rm s m args below meth c D A n Q w0 0 0 0 (lv_args 0 al) []) : CXr l D dA sa y (wz y cc n ret) rm al w0 ad o w1 := by
  intro sz
  refine vx_ofW (cc := cc) (maxL := n) (ret := ret) hy rfl ?_
  intro p e s m args below meth c s₁ B hml hnt hv
  obtain ⟨rfl, hsz, hP, hD, hC⟩ := xC_of hl B hml hv
  have hr := B.returns
  have hlv := lv_entry al hlen
  rw [lg_entry_eq]
  refine body p e s m al.toArray below meth c (va_A w0 sz) _ hC ?_ ?_ ?_ ?_ ?_ ?_ _ _ _ hP hD (by subst hsz; exact va_S.rf) hlv
  · intro cells slots pc lv v ho hc hs d H locs ls hP hD hS hl9
    subst ho
    refine W.widen hc hs ?_
    have hx := hC.1.1
    have hb := hC.1.2.1
    exact vx_ret (W.aret hx hb (hr.trans hret) (Or.inl ⟨rt, rfl⟩) (Or.inr ⟨ad v, rfl⟩) (fun t ht hW => ⟨⟨(), ad v, rfl, trivial, ⟨v, rfl, rfl⟩, by rw [ht]; exact hP, va_K.moved hW.alike hC.2.1, hD⟩, hS.F ht⟩) hS.2.2 d hC.2.2.2.2.1)
  · intro cells slots pc k ik iss ic text lv st ho h5 hw hs9 hf hlo hc hs
    exact xth_n hC hnt ho h5 hw hs9 hf hlo hc hs hc hs
  · intro cells slots pc k ik iss ic text lv st ho h5 hw hs9 hf hlo hc hs
    exact xth_w hC hnt ho h5 hw hs9 hf hlo hc hs hc hs
  · intro cells slots pc k ik iss ic text lv st ix rx ho h5 hw hs9 hf hlo hc hs
    exact xth_qn hC hnt ho h5 hw hs9 hf hlo hc hs hc hs
  · intro cells slots pc k ik iss ic text lv st ix rx ho h5 hw hs9 hf hlo hc hs
    exact xth_qw hC hnt ho h5 hw hs9 hf hlo hc hs hc hs
  · intro cells slots pc k lv st ho hc hs H locs ls q ce hP hD hS hl9 hce hcv hcl
    exact vx_out (fun x hx => (hnt x hx).elim) hC.2.2.2.2.1 hce hcv hcl (fun t ht hv9 => ⟨(), trivial, ⟨⟨k, ho, rfl⟩, by rw [ht]; exact hP, va_K.moved hv9 hC.2.1, hD⟩, hS.F ht⟩) hS.2.2 hc hs
end SXR2
