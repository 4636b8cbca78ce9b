/-- private methods of a superclass that are called on a StringBuilder -/
def lw_xs : List Cond := [Cond.selects "java/lang/StringBuilder" ⟨"java/lang/AbstractStringBuilder", "ensureCapacityInternal", "(I)V"⟩ ⟨"java/lang/AbstractStringBuilder", "ensureCapacityInternal", "(I)V"⟩, Cond.selects "java/lang/StringBuilder" ⟨"java/lang/AbstractStringBuilder", "newCapacity", "(I)I"⟩ ⟨"java/lang/AbstractStringBuilder", "newCapacity", "(I)I"⟩]
theorem wt_ex : ∃ L : List Cond, ∀ x, x ∈ L ↔ (x ∈ lw_tbl ++ lw_xs ∧ goodWord x = true) := ⟨(lw_tbl ++ lw_xs).filter goodWord, fun _ => List.mem_filter⟩
noncomputable def WT : List Cond := Classical.choose wt_ex
theorem wt_iff (x : Cond) : x ∈ WT ↔ (x ∈ lw_tbl ++ lw_xs ∧ goodWord x = true) := Classical.choose_spec wt_ex x
theorem wt_in {x : Cond} (h : x ∈ lw_tbl) (g : goodWord x = true) : x ∈ WT := (wt_iff x).mpr ⟨List.mem_append_left _ h, g⟩
theorem wt_x0 : Cond.selects "java/lang/StringBuilder" ⟨"java/lang/AbstractStringBuilder", "ensureCapacityInternal", "(I)V"⟩ ⟨"java/lang/AbstractStringBuilder", "ensureCapacityInternal", "(I)V"⟩ ∈ WT := (wt_iff _).mpr ⟨List.mem_append_right _ (List.mem_cons_self), rfl⟩
theorem wt_x1 : Cond.selects "java/lang/StringBuilder" ⟨"java/lang/AbstractStringBuilder", "newCapacity", "(I)I"⟩ ⟨"java/lang/AbstractStringBuilder", "newCapacity", "(I)I"⟩ ∈ WT := (wt_iff _).mpr ⟨List.mem_append_right _ (List.mem_cons_of_mem _ List.mem_cons_self), rfl⟩
theorem wt_of {i : Nat} {x : Cond} (h : tables_1[i]? = some x) (g : goodWord x = true) : x ∈ WT := wt_in (List.mem_append_right _ (List.mem_of_getElem? h)) g
theorem wt_sel {i n : Nat} {y : MethodName} (h : lw_privs[i]? = some (y, n)) : Cond.selects y.cls y y ∈ WT := wt_in (List.mem_append_left _ (List.mem_map.mpr ⟨(y, n), List.mem_of_getElem? h, rfl⟩)) rfl
theorem wt_good {x : Cond} (h : x ∈ WT) : goodWord x = true := ((wt_iff x).mp h).2
theorem gi_wt {cw : Cond} {ws : List Cond} (h : ∀ x ∈ ws, x ∈ WT) : GoodIn (cw :: WT) ws := fun x hx => ⟨List.mem_cons_of_mem _ (h x hx), good_of_word (wt_good (h x hx))⟩
noncomputable abbrev wz (y : MethodName) (b : ByteArray) (n : Nat) (ret : Option FieldType) : List Cond := Cond.code y b n ret :: WT
def xe_nm : Nat → String := fun k => match k with
  | 1 => "java/lang/IndexOutOfBoundsException"
  | 2 => "java/lang/IllegalArgumentException"
  | 3 => "java/lang/IllegalStateException"
  | 4 => "java/lang/UnsupportedOperationException"
  | 5 => "java/util/NoSuchElementException"
  | _ => "java/lang/ArithmeticException"
/-- what is known of a method that is called -/
def cfA (y : MethodName) (b : ByteArray) (n : Nat) (ret : Option FieldType) (k : Nat) : Prop := (y.cls ≠ "java/lang/invoke/MethodHandle" ∧ y.cls ≠ "java/lang/invoke/VarHandle" ∧ (parseMethodDescriptor y.desc).map (fun d => d.parameters.length) = some k) ∧ Cond.initialized y.cls ∈ WT ∧ Cond.code y b n ret ∈ WT
def cfV (y : MethodName) (b : ByteArray) (n : Nat) (ret : Option FieldType) (k : Nat) : Prop := cfA y b n ret k ∧ Cond.instanceMethod y ∈ WT ∧ Cond.selects y.cls y y ∈ WT
def cfS (y : MethodName) (b : ByteArray) (n : Nat) (ret : Option FieldType) (k : Nat) : Prop := cfA y b n ret k ∧ Cond.static y ∈ WT
section SXC
variable {l : Launch} {D : va_G} {dA : Nat → ClassId} {sa : String → Nat → Nat}
def xP (D : va_G) (dA : Nat → ClassId) (sa : String → Nat → Nat) (al : List Value) (w0 : va_W) (sz : Nat) : Array Value → State → Prop := va_Pc al (fun U => U.heap.size = sz ∧ va_P D vwC w0 U.heap ∧ va_K D vwC (tyl dA) U ∧ va_D (fun _ => True) w0 ∧ xe sa (va_A w0 sz) U U.heap)
theorem xP_blind {al : List Value} {w0 : va_W} {sz : Nat} : FrameBlind (xP D dA sa al w0 sz) := fun _ U _ _ q => ⟨q.1, q.2.1, q.2.2.1, va_K.moved (u := U) (Vm.Alike.refl U.vm) q.2.2.2.1, q.2.2.2.2.1, xe_same (s := U) rfl q.2.2.2.2.2⟩
def CTi (l : Launch) (D : va_G) (dA : Nat → ClassId) (sa : String → Nat → Nat) (y : MethodName) (ws : List Cond) (rm : Room) (al : List Value) (w0 : va_W) (v : Int32) (w1 : va_W) : Prop := ∀ sz, Met l y ws rm (xP D dA sa al w0 sz) (va_Qi (fun r (_ : Unit) => r = v) (xb D dA (va_A w0 sz) w1) (va_A w0 sz)) rm.cells rm.slots (va_A w0 sz)
def CTl (l : Launch) (D : va_G) (dA : Nat → ClassId) (sa : String → Nat → Nat) (y : MethodName) (ws : List Cond) (rm : Room) (al : List Value) (w0 : va_W) (v : Int64) (w1 : va_W) : Prop := ∀ sz, Met l y ws rm (xP D dA sa al w0 sz) (va_Ql (fun r (_ : Unit) => r = v) (xb D dA (va_A w0 sz) w1) (va_A w0 sz)) rm.cells rm.slots (va_A w0 sz)
def CTf (l : Launch) (D : va_G) (dA : Nat → ClassId) (sa : String → Nat → Nat) (y : MethodName) (ws : List Cond) (rm : Room) (al : List Value) (w0 : va_W) (v : UInt32) (w1 : va_W) : Prop := ∀ sz, Met l y ws rm (xP D dA sa al w0 sz) (va_Qf (fun r (_ : Unit) => r = v) (xb D dA (va_A w0 sz) w1) (va_A w0 sz)) rm.cells rm.slots (va_A w0 sz)
def CTd (l : Launch) (D : va_G) (dA : Nat → ClassId) (sa : String → Nat → Nat) (y : MethodName) (ws : List Cond) (rm : Room) (al : List Value) (w0 : va_W) (v : UInt64) (w1 : va_W) : Prop := ∀ sz, Met l y ws rm (xP D dA sa al w0 sz) (va_Qd (fun r (_ : Unit) => r = v) (xb D dA (va_A w0 sz) w1) (va_A w0 sz)) rm.cells rm.slots (va_A w0 sz)
def CTv (l : Launch) (D : va_G) (dA : Nat → ClassId) (sa : String → Nat → Nat) (y : MethodName) (ws : List Cond) (rm : Room) (al : List Value) (w0 : va_W) (w1 : va_W) : Prop := ∀ sz, Met l y ws rm (xP D dA sa al w0 sz) (va_Qv (fun (_ : Unit) => True) (xb D dA (va_A w0 sz) w1) (va_A w0 sz)) rm.cells rm.slots (va_A w0 sz)
/-- a method that throws, too: o says which (inl: the exception's number) -/
def xX {T : Type} (D : va_G) (dA : Nat → ClassId) (A : Nat → Prop) (o : Nat ⊕ T) (w1 : va_W) : String → State → State → Prop := vx_X (fun (_ : Unit) => True) (fun E u t => (∃ k, o = .inl k ∧ xe_nm k = E) ∧ xb D dA A w1 u t) A
def CXi (l : Launch) (D : va_G) (dA : Nat → ClassId) (sa : String → Nat → Nat) (y : MethodName) (ws : List Cond) (rm : Room) (al : List Value) (w0 : va_W) (o : Nat ⊕ Int32) (w1 : va_W) : Prop := ∀ sz, vx_Met l y ws rm (xP D dA sa al w0 sz) (va_Qi (fun r (_ : Unit) => o = .inr r) (xb D dA (va_A w0 sz) w1) (va_A w0 sz)) (xX D dA (va_A w0 sz) o w1) rm.cells rm.slots (va_A w0 sz)
def CXf (l : Launch) (D : va_G) (dA : Nat → ClassId) (sa : String → Nat → Nat) (y : MethodName) (ws : List Cond) (rm : Room) (al : List Value) (w0 : va_W) (o : Nat ⊕ UInt32) (w1 : va_W) : Prop := ∀ sz, vx_Met l y ws rm (xP D dA sa al w0 sz) (va_Qf (fun r (_ : Unit) => o = .inr r) (xb D dA (va_A w0 sz) w1) (va_A w0 sz)) (xX D dA (va_A w0 sz) o w1) rm.cells rm.slots (va_A w0 sz)
def CXd (l : Launch) (D : va_G) (dA : Nat → ClassId) (sa : String → Nat → Nat) (y : MethodName) (ws : List Cond) (rm : Room) (al : List Value) (w0 : va_W) (o : Nat ⊕ UInt64) (w1 : va_W) : Prop := ∀ sz, vx_Met l y ws rm (xP D dA sa al w0 sz) (va_Qd (fun r (_ : Unit) => o = .inr r) (xb D dA (va_A w0 sz) w1) (va_A w0 sz)) (xX D dA (va_A w0 sz) o w1) rm.cells rm.slots (va_A w0 sz)
def CXv (l : Launch) (D : va_G) (dA : Nat → ClassId) (sa : String → Nat → Nat) (y : MethodName) (ws : List Cond) (rm : Room) (al : List Value) (w0 : va_W) (o : Nat ⊕ Unit) (w1 : va_W) : Prop := ∀ sz, vx_Met l y ws rm (xP D dA sa al w0 sz) (va_Qv (fun (_ : Unit) => o = .inr ()) (xb D dA (va_A w0 sz) w1) (va_A w0 sz)) (xX D dA (va_A w0 sz) o w1) rm.cells rm.slots (va_A w0 sz)
/-- .. whose answer is a cell of the world, by its number -/
def CXr (l : Launch) (D : va_G) (dA : Nat → ClassId) (sa : String → Nat → Nat) (y : MethodName) (ws : List Cond) (rm : Room) (al : List Value) (w0 : va_W) (ad : Nat → Nat) (o : Nat ⊕ Nat) (w1 : va_W) : Prop := ∀ sz, vx_Met l y ws rm (xP D dA sa al w0 sz) (va_Qr (fun (_ : Unit) => True) (fun u a t => (∃ k, o = .inr k ∧ a = ad k) ∧ xb D dA (va_A w0 sz) w1 u t) (va_A w0 sz)) (xX D dA (va_A w0 sz) o w1) rm.cells rm.slots (va_A w0 sz)
/-- thrown over the frame -/
def xvx (p : Program) (l : Launch) (e : Env) (R : Room) (s : State) (m : MethodId) (args : Array Value) (below : List Frame) (meth : Method) (c : Code) (D : va_G) (A : Nat → Prop) (nL : Nat) (Q : State → Prop) (w : va_W) (cells slots pc : Nat) (lv : List (Nat × Value)) (st : List Value) (E : String) : Prop :=
  ∀ (H : Heap) (locs : List Loc) (ls : Array Slot) (q : Addr) (ce : Cell), va_P D vwC w H → va_D A w → va_S A s.heap H locs → lv_has ls nL lv → H[q]? = some ce → ce.vm = .none → s.vm.findClass E = some ce.cls → vx_W p l e R s m args below meth c H locs cells slots Q (F0 m pc ls st) q
/-- the five rows of 'throw new E(text)' -/
def xT5 (cc : ByteArray) (pc ik iss ic : Nat) : Prop := decode cc pc = .ok (.new ik, 3) ∧ decode cc (pc + 3) = .ok (.dup, 1) ∧ decode cc (pc + 4) = .ok (.ldc iss, 2) ∧ decode cc (pc + 6) = .ok (.invokespecial ic, 3) ∧ decode cc (pc + 9) = .ok (.athrow, 1)
def xT5w (cc : ByteArray) (pc ik iss ic : Nat) : Prop := decode cc pc = .ok (.new ik, 3) ∧ decode cc (pc + 3) = .ok (.dup, 1) ∧ decode cc (pc + 4) = .ok (.ldc_w iss, 3) ∧ decode cc (pc + 7) = .ok (.invokespecial ic, 3) ∧ decode cc (pc + 10) = .ok (.athrow, 1)
/-- what the words say of 'throw new E(text)' in the class own -/
def xTw (own cls : String) (ik ic : Nat) : Prop := Cond.classLink own ik cls ∈ WT ∧ Cond.initialized cls ∈ WT ∧ Bundle.fit cls = true ∧ (∀ x ∈ (vx_atS own ic cls ["java/lang/RuntimeException", "java/lang/Exception"]), x ∈ WT ∨ (x = .castable cls cls ∧ cls ∈ xe_E) ∨ ∃ y ∈ xe_D, x = .declares y) ∧ ∀ x ∈ Cond.classLink own ik cls :: Cond.initialized cls :: vx_atS own ic cls ["java/lang/RuntimeException", "java/lang/Exception"], vx_ot x = true
def xTq (own cls : String) (ik ic ix : Nat) (rx : ByteArray) : Prop := decode rx 0 = .ok (.aload_n 0, 1) ∧ decode rx 1 = .ok (.aload_n 1, 1) ∧ decode rx 2 = .ok (.invokespecial ix, 3) ∧ decode rx 5 = .ok (.return_, 1) ∧ Cond.classLink own ik cls ∈ WT ∧ Cond.initialized cls ∈ WT ∧ Bundle.fit cls = true ∧ (∀ x ∈ (xo_at own ic cls ix rx ["java/lang/RuntimeException", "java/lang/Exception"]), x ∈ WT ∨ (x = .castable cls cls ∧ cls ∈ xe_E) ∨ ∃ y ∈ xe_D, x = .declares y) ∧ ∀ x ∈ Cond.classLink own ik cls :: Cond.initialized cls :: xo_at own ic cls ix rx ["java/lang/RuntimeException", "java/lang/Exception"], vx_ot x = true
variable {y : MethodName} {cc : ByteArray} {n : Nat} {ret : Option FieldType} {rm : Room} {al : List Value} {w0 w1 : va_W}
theorem xC_of {p : Program} {e : Env} {s : State} {m : MethodId} {args : Array Value} {below : List Frame} {meth : Method} {c : Code} {s₁ : State} {sz : Nat} (hl : l.stackTraces = false) (B : BodyLoose p l y (headSpec (wz y cc n ret) rm) cc n ret e s m args below meth c s₁) (hml : c.maxLocals = n) (hv : xP D dA sa al w0 sz args s) :
    args = al.toArray ∧ s.heap.size = sz ∧ va_P D vwC w0 s.heap ∧ va_D (va_A w0 sz) w0 ∧ xv_C p l s m args meth c D dA sa (va_A w0 sz) cc n y.cls (wz y cc n ret) := by
  obtain ⟨hargs, hsz, hP, hK, hD0, hE⟩ := hv
  exact ⟨hargs, hsz, hP, hD0.self, ⟨B.exec, B.bytes, hml, findClass_of_methodNamed B.named, atoms_spec (ws := wz y cc n ret) B.pre⟩, hK, fun q h => Or.inr (by omega), hE, B.notSynchronized, hl⟩

theorem xth_n {T : Type} {o : Nat ⊕ T} {p : Program} {e : Env} {R : Room} {s : State} {m : MethodId} {args : Array Value} {below : List Frame} {meth : Method} {c : Code} {A : Nat → Prop} {Qc : Array Value → State → Outcome → State → Prop} {own : String} {cw : Cond} {mc ms : Nat} (hC : xv_C p l s m args meth c D dA sa A cc n own (cw :: WT)) (hnt : ∀ x ∈ c.exceptionTable.toList, False) {cells slots pc k ik iss ic : Nat} {text : String} {lv : List (Nat × Value)} {st : List Value} (ho : o = .inl k) (h5 : xT5 cc pc ik iss ic) (hw : xTw own (xe_nm k) ik ic) (hs9 : (own, iss, text) ∈ xe_S) (hf : 5 < R.frames) (hlo : (st.map fun v => v.category).sum + 82 ≤ R.locals) (hcR : cells + 1 ≤ R.cells) (hsR : slots + 6 ≤ R.slots) (hc : cells + 1 ≤ mc) (hs : slots + 6 ≤ ms) : xv p l e R s m args below meth c D A n (vx_MQ below Qc (xX D dA A o w1) args s mc ms A) w1 cells slots pc lv st := by
  intro H locs ls hP hD hS hl9
  obtain ⟨w1', w2', w3', w4', w5'⟩ := hw
  obtain ⟨d0, d3, d4, d6, d9⟩ := h5
  have hts : ∀ x ∈ WT, x.before args s = true := fun x hx => hC.1.2.2.2.2 x (List.mem_cons_of_mem _ hx)
  obtain ⟨hU, hN, -, hE, -, hSt, -, -, -, -, -, -, hDe, -⟩ := hC.2.2.2.1
  refine vx_throwS (cls := xe_nm k) (text := text) (names := ["java/lang/RuntimeException", "java/lang/Exception"]) (sa := sa own iss) (A := A) hC.1.1 hC.1.2.1 hC.2.2.2.2.2 hC.1.2.2.2.1 w3' (by decide +kernel) (hts _ w1') (hts _ w2') (hSt _ hs9) (fun x hx => ?_) w5' hU hN hS (hl9.1.trans hC.1.2.2.1.symm) d0 d3 d4 d6 d9 (fun x hx => (hnt x hx).elim) hf hlo hcR hsR hC.2.2.2.2.1 (fun t hv9 hz9 hk9 => ?_) hS.2.2 hc hs
  · rcases w4' x hx with h | ⟨h, hin⟩ | ⟨y9, hin, h⟩
    · exact hts x h
    · rw [h]; exact va_Nw.use rfl (hE _ hin)
    · rw [h]; exact va_Nw.use rfl (hDe _ hin)
  · exact ⟨(), trivial, ⟨⟨k, ho, rfl⟩, hP.kept (fun k9 q9 h9 => hk9 q9.1 (hP k9 q9 h9).lt), va_K.moved hv9 hC.2.1, hD⟩, Nat.le_trans hS.1 hz9, fun q h1 h2 => (hk9 q (Nat.lt_of_lt_of_le h1 hS.1)).trans (hS.2.1 q h1 h2)⟩
theorem xth_w {T : Type} {o : Nat ⊕ T} {p : Program} {e : Env} {R : Room} {s : State} {m : MethodId} {args : Array Value} {below : List Frame} {meth : Method} {c : Code} {A : Nat → Prop} {Qc : Array Value → State → Outcome → State → Prop} {own : String} {cw : Cond} {mc ms : Nat} (hC : xv_C p l s m args meth c D dA sa A cc n own (cw :: WT)) (hnt : ∀ x ∈ c.exceptionTable.toList, False) {cells slots pc k ik iss ic : Nat} {text : String} {lv : List (Nat × Value)} {st : List Value} (ho : o = .inl k) (h5 : xT5w cc pc ik iss ic) (hw : xTw own (xe_nm k) ik ic) (hs9 : (own, iss, text) ∈ xe_S) (hf : 5 < R.frames) (hlo : (st.map fun v => v.category).sum + 82 ≤ R.locals) (hcR : cells + 1 ≤ R.cells) (hsR : slots + 6 ≤ R.slots) (hc : cells + 1 ≤ mc) (hs : slots + 6 ≤ ms) : xv p l e R s m args below meth c D A n (vx_MQ below Qc (xX D dA A o w1) args s mc ms A) w1 cells slots pc lv st := by
  intro H locs ls hP hD hS hl9
  obtain ⟨w1', w2', w3', w4', w5'⟩ := hw
  obtain ⟨d0, d3, d4, d6, d9⟩ := h5
  have hts : ∀ x ∈ WT, x.before args s = true := fun x hx => hC.1.2.2.2.2 x (List.mem_cons_of_mem _ hx)
  obtain ⟨hU, hN, -, hE, -, hSt, -, -, -, -, -, -, hDe, -⟩ := hC.2.2.2.1
  refine vx_throwSW (cls := xe_nm k) (text := text) (names := ["java/lang/RuntimeException", "java/lang/Exception"]) (sa := sa own iss) (A := A) hC.1.1 hC.1.2.1 hC.2.2.2.2.2 hC.1.2.2.2.1 w3' (by decide +kernel) (hts _ w1') (hts _ w2') (hSt _ hs9) (fun x hx => ?_) w5' hU hN hS (hl9.1.trans hC.1.2.2.1.symm) d0 d3 d4 d6 d9 (fun x hx => (hnt x hx).elim) hf hlo hcR hsR hC.2.2.2.2.1 (fun t hv9 hz9 hk9 => ?_) hS.2.2 hc hs
  · rcases w4' x hx with h | ⟨h, hin⟩ | ⟨y9, hin, h⟩
    · exact hts x h
    · rw [h]; exact va_Nw.use rfl (hE _ hin)
    · rw [h]; exact va_Nw.use rfl (hDe _ hin)
  · exact ⟨(), trivial, ⟨⟨k, ho, rfl⟩, hP.kept (fun k9 q9 h9 => hk9 q9.1 (hP k9 q9 h9).lt), va_K.moved hv9 hC.2.1, hD⟩, Nat.le_trans hS.1 hz9, fun q h1 h2 => (hk9 q (Nat.lt_of_lt_of_le h1 hS.1)).trans (hS.2.1 q h1 h2)⟩
theorem xth_qn {T : Type} {o : Nat ⊕ T} {p : Program} {e : Env} {R : Room} {s : State} {m : MethodId} {args : Array Value} {below : List Frame} {meth : Method} {c : Code} {A : Nat → Prop} {Qc : Array Value → State → Outcome → State → Prop} {own : String} {cw : Cond} {mc ms : Nat} (hC : xv_C p l s m args meth c D dA sa A cc n own (cw :: WT)) (hnt : ∀ x ∈ c.exceptionTable.toList, False) {cells slots pc k ik iss ic : Nat} {text : String} {lv : List (Nat × Value)} {st : List Value} {ix : Nat} {rx : ByteArray} (ho : o = .inl k) (h5 : xT5 cc pc ik iss ic) (hw : xTq own (xe_nm k) ik ic ix rx) (hs9 : (own, iss, text) ∈ xe_S) (hf : 5 < R.frames) (hlo : (st.map fun v => v.category).sum + 82 ≤ R.locals) (hcR : cells + 1 ≤ R.cells) (hsR : slots + 6 ≤ R.slots) (hc : cells + 1 ≤ mc) (hs : slots + 6 ≤ ms) : xv p l e R s m args below meth c D A n (vx_MQ below Qc (xX D dA A o w1) args s mc ms A) w1 cells slots pc lv st := by
  intro H locs ls hP hD hS hl9
  obtain ⟨x0, x1, x2, x5, w1', w2', w3', w4', w5'⟩ := hw
  obtain ⟨d0, d3, d4, d6, d9⟩ := h5
  have hts : ∀ x ∈ WT, x.before args s = true := fun x hx => hC.1.2.2.2.2 x (List.mem_cons_of_mem _ hx)
  obtain ⟨hU, hN, -, hE, -, hSt, -, -, -, -, -, -, hDe, -⟩ := hC.2.2.2.1
  refine xo_throwS (cls := xe_nm k) (text := text) (names := ["java/lang/RuntimeException", "java/lang/Exception"]) (sa := sa own iss) (A := A) x0 x1 x2 x5 hC.1.1 hC.1.2.1 hC.2.2.2.2.2 hC.1.2.2.2.1 w3' (by decide +kernel) (hts _ w1') (hts _ w2') (hSt _ hs9) (fun x hx => ?_) w5' hU hN hS (hl9.1.trans hC.1.2.2.1.symm) d0 d3 d4 d6 d9 (fun x hx => (hnt x hx).elim) hf hlo hcR hsR hC.2.2.2.2.1 (fun t hv9 hz9 hk9 => ?_) hS.2.2 hc hs
  · rcases w4' x hx with h | ⟨h, hin⟩ | ⟨y9, hin, h⟩
    · exact hts x h
    · rw [h]; exact va_Nw.use rfl (hE _ hin)
    · rw [h]; exact va_Nw.use rfl (hDe _ hin)
  · exact ⟨(), trivial, ⟨⟨k, ho, rfl⟩, hP.kept (fun k9 q9 h9 => hk9 q9.1 (hP k9 q9 h9).lt), va_K.moved hv9 hC.2.1, hD⟩, Nat.le_trans hS.1 hz9, fun q h1 h2 => (hk9 q (Nat.lt_of_lt_of_le h1 hS.1)).trans (hS.2.1 q h1 h2)⟩
theorem xth_qw {T : Type} {o : Nat ⊕ T} {p : Program} {e : Env} {R : Room} {s : State} {m : MethodId} {args : Array Value} {below : List Frame} {meth : Method} {c : Code} {A : Nat → Prop} {Qc : Array Value → State → Outcome → State → Prop} {own : String} {cw : Cond} {mc ms : Nat} (hC : xv_C p l s m args meth c D dA sa A cc n own (cw :: WT)) (hnt : ∀ x ∈ c.exceptionTable.toList, False) {cells slots pc k ik iss ic : Nat} {text : String} {lv : List (Nat × Value)} {st : List Value} {ix : Nat} {rx : ByteArray} (ho : o = .inl k) (h5 : xT5w cc pc ik iss ic) (hw : xTq own (xe_nm k) ik ic ix rx) (hs9 : (own, iss, text) ∈ xe_S) (hf : 5 < R.frames) (hlo : (st.map fun v => v.category).sum + 82 ≤ R.locals) (hcR : cells + 1 ≤ R.cells) (hsR : slots + 6 ≤ R.slots) (hc : cells + 1 ≤ mc) (hs : slots + 6 ≤ ms) : xv p l e R s m args below meth c D A n (vx_MQ below Qc (xX D dA A o w1) args s mc ms A) w1 cells slots pc lv st := by
  intro H locs ls hP hD hS hl9
  obtain ⟨x0, x1, x2, x5, w1', w2', w3', w4', w5'⟩ := hw
  obtain ⟨d0, d3, d4, d6, d9⟩ := h5
  have hts : ∀ x ∈ WT, x.before args s = true := fun x hx => hC.1.2.2.2.2 x (List.mem_cons_of_mem _ hx)
  obtain ⟨hU, hN, -, hE, -, hSt, -, -, -, -, -, -, hDe, -⟩ := hC.2.2.2.1
  refine xo_throwSW (cls := xe_nm k) (text := text) (names := ["java/lang/RuntimeException", "java/lang/Exception"]) (sa := sa own iss) (A := A) x0 x1 x2 x5 hC.1.1 hC.1.2.1 hC.2.2.2.2.2 hC.1.2.2.2.1 w3' (by decide +kernel) (hts _ w1') (hts _ w2') (hSt _ hs9) (fun x hx => ?_) w5' hU hN hS (hl9.1.trans hC.1.2.2.1.symm) d0 d3 d4 d6 d9 (fun x hx => (hnt x hx).elim) hf hlo hcR hsR hC.2.2.2.2.1 (fun t hv9 hz9 hk9 => ?_) hS.2.2 hc hs
  · rcases w4' x hx with h | ⟨h, hin⟩ | ⟨y9, hin, h⟩
    · exact hts x h
    · rw [h]; exact va_Nw.use rfl (hE _ hin)
    · rw [h]; exact va_Nw.use rfl (hDe _ hin)
  · exact ⟨(), trivial, ⟨⟨k, ho, rfl⟩, hP.kept (fun k9 q9 h9 => hk9 q9.1 (hP k9 q9 h9).lt), va_K.moved hv9 hC.2.1, hD⟩, Nat.le_trans hS.1 hz9, fun q h1 h2 => (hk9 q (Nat.lt_of_lt_of_le h1 hS.1)).trans (hS.2.1 q h1 h2)⟩
theorem xm_i {v : Int32} (hl : l.stackTraces = false) (hy : plainName y.cls = true) (hlen : (lg_sl al).length ≤ n) (hret : ret = some .int)
    (body : ∀ (p : Program) (e : Env) (s : State) (m : MethodId) (args : Array Value) (below : List Frame) (meth : Method) (c : Code) (A : Nat → Prop) (Q : State → Prop), xv_C p l s m args meth c D dA sa A cc n y.cls (wz y cc n ret) →
      (∀ (cells slots pc : Nat) (lv : List (Nat × Value)) ,  cells ≤ rm.cells → slots ≤ rm.slots → decode cc pc = .ok (.ireturn, 1) → xv p l e rm s m args below meth c D A n Q w1 cells slots pc lv [.int v]) →
      xv p l e rm s m args below meth c D A n Q w0 0 0 0 (lv_args 0 al) []) : CTi l D dA sa y (wz y cc n ret) rm al w0 v w1 := by
  intro sz
  refine Met.ofW (cc := cc) (maxL := n) (ret := ret) hy rfl ?_
  intro p e s m args below meth c s₁ B hml hv
  obtain ⟨rfl, hsz, hP, hD, hC⟩ := xC_of hl B hml hv
  have hr := B.returns
  have hlv := lv_entry al hlen
  rw [lg_entry_eq]
  refine body p e s m al.toArray below meth c (va_A w0 sz) _ hC ?_ _ _ _ hP hD (by subst hsz; exact va_S.rf) hlv
  · intro cells slots pc lv hc hs d
    exact xv_iret hC (hr.trans hret) hc hs d
theorem xm_z {v : Int32} (hl : l.stackTraces = false) (hy : plainName y.cls = true) (hlen : (lg_sl al).length ≤ n) {ty : FieldType} (hret : ret = some ty)
    (body : ∀ (p : Program) (e : Env) (s : State) (m : MethodId) (args : Array Value) (below : List Frame) (meth : Method) (c : Code) (A : Nat → Prop) (Q : State → Prop), xv_C p l s m args meth c D dA sa A cc n y.cls (wz y cc n ret) →
      (∀ (cells slots pc : Nat) (lv : List (Nat × Value)) , narrow ty (.int v) = .int v → cells ≤ rm.cells → slots ≤ rm.slots → decode cc pc = .ok (.ireturn, 1) → xv p l e rm s m args below meth c D A n Q w1 cells slots pc lv [.int v]) →
      xv p l e rm s m args below meth c D A n Q w0 0 0 0 (lv_args 0 al) []) : CTi l D dA sa y (wz y cc n ret) rm al w0 v w1 := by
  intro sz
  refine Met.ofW (cc := cc) (maxL := n) (ret := ret) hy rfl ?_
  intro p e s m args below meth c s₁ B hml hv
  obtain ⟨rfl, hsz, hP, hD, hC⟩ := xC_of hl B hml hv
  have hr := B.returns
  have hlv := lv_entry al hlen
  rw [lg_entry_eq]
  refine body p e s m al.toArray below meth c (va_A w0 sz) _ hC ?_ _ _ _ hP hD (by subst hsz; exact va_S.rf) hlv
  · intro cells slots pc lv hn hc hs d
    exact xv_zret hC (hr.trans hret) hn hc hs d
theorem xm_l {v : Int64} (hl : l.stackTraces = false) (hy : plainName y.cls = true) (hlen : (lg_sl al).length ≤ n) (hret : ret = some .long)
    (body : ∀ (p : Program) (e : Env) (s : State) (m : MethodId) (args : Array Value) (below : List Frame) (meth : Method) (c : Code) (A : Nat → Prop) (Q : State → Prop), xv_C p l s m args meth c D dA sa A cc n y.cls (wz y cc n ret) →
      (∀ (cells slots pc : Nat) (lv : List (Nat × Value)) ,  cells ≤ rm.cells → slots ≤ rm.slots → decode cc pc = .ok (.lreturn, 1) → xv p l e rm s m args below meth c D A n Q w1 cells slots pc lv [.long v]) →
      xv p l e rm s m args below meth c D A n Q w0 0 0 0 (lv_args 0 al) []) : CTl l D dA sa y (wz y cc n ret) rm al w0 v w1 := by
  intro sz
  refine Met.ofW (cc := cc) (maxL := n) (ret := ret) hy rfl ?_
  intro p e s m args below meth c s₁ B hml hv
  obtain ⟨rfl, hsz, hP, hD, hC⟩ := xC_of hl B hml hv
  have hr := B.returns
  have hlv := lv_entry al hlen
  rw [lg_entry_eq]
  refine body p e s m al.toArray below meth c (va_A w0 sz) _ hC ?_ _ _ _ hP hD (by subst hsz; exact va_S.rf) hlv
  · intro cells slots pc lv hc hs d
    exact xv_lret hC (hr.trans hret) hc hs d
theorem xm_f {v : UInt32} (hl : l.stackTraces = false) (hy : plainName y.cls = true) (hlen : (lg_sl al).length ≤ n) (hret : ret = some .float)
    (body : ∀ (p : Program) (e : Env) (s : State) (m : MethodId) (args : Array Value) (below : List Frame) (meth : Method) (c : Code) (A : Nat → Prop) (Q : State → Prop), xv_C p l s m args meth c D dA sa A cc n y.cls (wz y cc n ret) →
      (∀ (cells slots pc : Nat) (lv : List (Nat × Value)) ,  cells ≤ rm.cells → slots ≤ rm.slots → decode cc pc = .ok (.freturn, 1) → xv p l e rm s m args below meth c D A n Q w1 cells slots pc lv [.float v]) →
      xv p l e rm s m args below meth c D A n Q w0 0 0 0 (lv_args 0 al) []) : CTf l D dA sa y (wz y cc n ret) rm al w0 v w1 := by
  intro sz
  refine Met.ofW (cc := cc) (maxL := n) (ret := ret) hy rfl ?_
  intro p e s m args below meth c s₁ B hml hv
  obtain ⟨rfl, hsz, hP, hD, hC⟩ := xC_of hl B hml hv
  have hr := B.returns
  have hlv := lv_entry al hlen
  rw [lg_entry_eq]
  refine body p e s m al.toArray below meth c (va_A w0 sz) _ hC ?_ _ _ _ hP hD (by subst hsz; exact va_S.rf) hlv
  · intro cells slots pc lv hc hs d
    exact xv_fret hC (hr.trans hret) hc hs d
theorem xm_d {v : UInt64} (hl : l.stackTraces = false) (hy : plainName y.cls = true) (hlen : (lg_sl al).length ≤ n) (hret : ret = some .double)
    (body : ∀ (p : Program) (e : Env) (s : State) (m : MethodId) (args : Array Value) (below : List Frame) (meth : Method) (c : Code) (A : Nat → Prop) (Q : State → Prop), xv_C p l s m args meth c D dA sa A cc n y.cls (wz y cc n ret) →
      (∀ (cells slots pc : Nat) (lv : List (Nat × Value)) ,  cells ≤ rm.cells → slots ≤ rm.slots → decode cc pc = .ok (.dreturn, 1) → xv p l e rm s m args below meth c D A n Q w1 cells slots pc lv [.double v]) →
      xv p l e rm s m args below meth c D A n Q w0 0 0 0 (lv_args 0 al) []) : CTd l D dA sa y (wz y cc n ret) rm al w0 v w1 := by
  intro sz
  refine Met.ofW (cc := cc) (maxL := n) (ret := ret) hy rfl ?_
  intro p e s m args below meth c s₁ B hml hv
  obtain ⟨rfl, hsz, hP, hD, hC⟩ := xC_of hl B hml hv
  have hr := B.returns
  have hlv := lv_entry al hlen
  rw [lg_entry_eq]
  refine body p e s m al.toArray below meth c (va_A w0 sz) _ hC ?_ _ _ _ hP hD (by subst hsz; exact va_S.rf) hlv
  · intro cells slots pc lv hc hs d
    exact xv_dret hC (hr.trans hret) hc hs d
theorem xm_v (hl : l.stackTraces = false) (hy : plainName y.cls = true) (hlen : (lg_sl al).length ≤ n) (hret : ret = none)
    (body : ∀ (p : Program) (e : Env) (s : State) (m : MethodId) (args : Array Value) (below : List Frame) (meth : Method) (c : Code) (A : Nat → Prop) (Q : State → Prop), xv_C p l s m args meth c D dA sa A cc n y.cls (wz y cc n ret) →
      (∀ (cells slots pc : Nat) (lv : List (Nat × Value)) ,  cells ≤ rm.cells → slots ≤ rm.slots → decode cc pc = .ok (.return_, 1) → xv p l e rm s m args below meth c D A n Q w1 cells slots pc lv []) →
      xv p l e rm s m args below meth c D A n Q w0 0 0 0 (lv_args 0 al) []) : CTv l D dA sa y (wz y cc n ret) rm al w0 w1 := by
  intro sz
  refine Met.ofW (cc := cc) (maxL := n) (ret := ret) hy rfl ?_
  intro p e s m args below meth c s₁ B hml hv
  obtain ⟨rfl, hsz, hP, hD, hC⟩ := xC_of hl B hml hv
  have hr := B.returns
  have hlv := lv_entry al hlen
  rw [lg_entry_eq]
  refine body p e s m al.toArray below meth c (va_A w0 sz) _ hC ?_ _ _ _ hP hD (by subst hsz; exact va_S.rf) hlv
  · intro cells slots pc lv hc hs d
    exact xv_vret hC (hr.trans hret) hc hs d
theorem xm_xi {o : Nat ⊕ Int32} (hl : l.stackTraces = false) (hy : plainName y.cls = true) (hlen : (lg_sl al).length ≤ n) (hret : ret = some .int)
    (body : ∀ (p : Program) (e : Env) (s : State) (m : MethodId) (args : Array Value) (below : List Frame) (meth : Method) (c : Code) (A : Nat → Prop) (Q : State → Prop), xv_C p l s m args meth c D dA sa A cc n y.cls (wz y cc n ret) →
      (∀ (cells slots pc : Nat) (lv : List (Nat × Value)) (v : Int32) , o = .inr v →  cells ≤ rm.cells → slots ≤ rm.slots → decode cc pc = .ok (.ireturn, 1) → xv p l e rm s m args below meth c D A n Q w1 cells slots pc lv [.int v]) →
      (∀ (cells slots pc k ik iss ic : Nat) (text : String) (lv : List (Nat × Value)) (st : List Value), o = .inl k → xT5 cc pc ik iss ic → xTw y.cls (xe_nm k) ik ic → (y.cls, iss, text) ∈ xe_S → 5 < rm.frames → (st.map fun v => v.category).sum + 82 ≤ rm.locals → cells + 1 ≤ rm.cells → slots + 6 ≤ rm.slots → xv p l e rm s m args below meth c D A n Q w1 cells slots pc lv st) →
      (∀ (cells slots pc k ik iss ic : Nat) (text : String) (lv : List (Nat × Value)) (st : List Value), o = .inl k → xT5w cc pc ik iss ic → xTw y.cls (xe_nm k) ik ic → (y.cls, iss, text) ∈ xe_S → 5 < rm.frames → (st.map fun v => v.category).sum + 82 ≤ rm.locals → cells + 1 ≤ rm.cells → slots + 6 ≤ rm.slots → xv p l e rm s m args below meth c D A n Q w1 cells slots pc lv st) →
      (∀ (cells slots pc k ik iss ic : Nat) (text : String) (lv : List (Nat × Value)) (st : List Value) (ix : Nat) (rx : ByteArray), o = .inl k → xT5 cc pc ik iss ic → xTq y.cls (xe_nm k) ik ic ix rx → (y.cls, iss, text) ∈ xe_S → 5 < rm.frames → (st.map fun v => v.category).sum + 82 ≤ rm.locals → cells + 1 ≤ rm.cells → slots + 6 ≤ rm.slots → xv p l e rm s m args below meth c D A n Q w1 cells slots pc lv st) →
      (∀ (cells slots pc k ik iss ic : Nat) (text : String) (lv : List (Nat × Value)) (st : List Value) (ix : Nat) (rx : ByteArray), o = .inl k → xT5w cc pc ik iss ic → xTq y.cls (xe_nm k) ik ic ix rx → (y.cls, iss, text) ∈ xe_S → 5 < rm.frames → (st.map fun v => v.category).sum + 82 ≤ rm.locals → cells + 1 ≤ rm.cells → slots + 6 ≤ rm.slots → xv p l e rm s m args below meth c D A n Q w1 cells slots pc lv st) →
      (∀ (cells slots pc k : Nat) (lv : List (Nat × Value)) (st : List Value), o = .inl k → cells ≤ rm.cells → slots ≤ rm.slots → xvx p l e rm s m args below meth c D A n Q w1 cells slots pc lv st (xe_nm k)) →
      xv p l e rm s m args below meth c D A n Q w0 0 0 0 (lv_args 0 al) []) : CXi l D dA sa y (wz y cc n ret) rm al w0 o w1 := by
  intro sz
  refine vx_ofW (cc := cc) (maxL := n) (ret := ret) hy rfl ?_
  intro p e s m args below meth c s₁ B hml hnt hv
  obtain ⟨rfl, hsz, hP, hD, hC⟩ := xC_of hl B hml hv
  have hr := B.returns
  have hlv := lv_entry al hlen
  rw [lg_entry_eq]
  refine body p e s m al.toArray below meth c (va_A w0 sz) _ hC ?_ ?_ ?_ ?_ ?_ ?_ _ _ _ hP hD (by subst hsz; exact va_S.rf) hlv
  · intro cells slots pc lv v ho hc hs d H locs ls hP hD hS hl9
    subst ho
    refine W.widen hc hs ?_
    have hx := hC.1.1
    have hb := hC.1.2.1
    exact vx_ret (W.iret hx hb (hr.trans hret) (fun t ht hW => ⟨⟨v, (), rfl, rfl, by rw [ht]; exact hP, va_K.moved hW.alike hC.2.1, hD⟩, hS.F ht⟩) hS.2.2 d hC.2.2.2.2.1)
  · intro cells slots pc k ik iss ic text lv st ho h5 hw hs9 hf hlo hc hs
    exact xth_n hC hnt ho h5 hw hs9 hf hlo hc hs hc hs
  · intro cells slots pc k ik iss ic text lv st ho h5 hw hs9 hf hlo hc hs
    exact xth_w hC hnt ho h5 hw hs9 hf hlo hc hs hc hs
  · intro cells slots pc k ik iss ic text lv st ix rx ho h5 hw hs9 hf hlo hc hs
    exact xth_qn hC hnt ho h5 hw hs9 hf hlo hc hs hc hs
  · intro cells slots pc k ik iss ic text lv st ix rx ho h5 hw hs9 hf hlo hc hs
    exact xth_qw hC hnt ho h5 hw hs9 hf hlo hc hs hc hs
  · intro cells slots pc k lv st ho hc hs H locs ls q ce hP hD hS hl9 hce hcv hcl
    exact vx_out (fun x hx => (hnt x hx).elim) hC.2.2.2.2.1 hce hcv hcl (fun t ht hv9 => ⟨(), trivial, ⟨⟨k, ho, rfl⟩, by rw [ht]; exact hP, va_K.moved hv9 hC.2.1, hD⟩, hS.F ht⟩) hS.2.2 hc hs
theorem xm_xz {o : Nat ⊕ Int32} (hl : l.stackTraces = false) (hy : plainName y.cls = true) (hlen : (lg_sl al).length ≤ n) {ty : FieldType} (hret : ret = some ty)
    (body : ∀ (p : Program) (e : Env) (s : State) (m : MethodId) (args : Array Value) (below : List Frame) (meth : Method) (c : Code) (A : Nat → Prop) (Q : State → Prop), xv_C p l s m args meth c D dA sa A cc n y.cls (wz y cc n ret) →
      (∀ (cells slots pc : Nat) (lv : List (Nat × Value)) (v : Int32) , o = .inr v → narrow ty (.int v) = .int v → cells ≤ rm.cells → slots ≤ rm.slots → decode cc pc = .ok (.ireturn, 1) → xv p l e rm s m args below meth c D A n Q w1 cells slots pc lv [.int v]) →
      (∀ (cells slots pc k ik iss ic : Nat) (text : String) (lv : List (Nat × Value)) (st : List Value), o = .inl k → xT5 cc pc ik iss ic → xTw y.cls (xe_nm k) ik ic → (y.cls, iss, text) ∈ xe_S → 5 < rm.frames → (st.map fun v => v.category).sum + 82 ≤ rm.locals → cells + 1 ≤ rm.cells → slots + 6 ≤ rm.slots → xv p l e rm s m args below meth c D A n Q w1 cells slots pc lv st) →
      (∀ (cells slots pc k ik iss ic : Nat) (text : String) (lv : List (Nat × Value)) (st : List Value), o = .inl k → xT5w cc pc ik iss ic → xTw y.cls (xe_nm k) ik ic → (y.cls, iss, text) ∈ xe_S → 5 < rm.frames → (st.map fun v => v.category).sum + 82 ≤ rm.locals → cells + 1 ≤ rm.cells → slots + 6 ≤ rm.slots → xv p l e rm s m args below meth c D A n Q w1 cells slots pc lv st) →
      (∀ (cells slots pc k ik iss ic : Nat) (text : String) (lv : List (Nat × Value)) (st : List Value) (ix : Nat) (rx : ByteArray), o = .inl k → xT5 cc pc ik iss ic → xTq y.cls (xe_nm k) ik ic ix rx → (y.cls, iss, text) ∈ xe_S → 5 < rm.frames → (st.map fun v => v.category).sum + 82 ≤ rm.locals → cells + 1 ≤ rm.cells → slots + 6 ≤ rm.slots → xv p l e rm s m args below meth c D A n Q w1 cells slots pc lv st) →
      (∀ (cells slots pc k ik iss ic : Nat) (text : String) (lv : List (Nat × Value)) (st : List Value) (ix : Nat) (rx : ByteArray), o = .inl k → xT5w cc pc ik iss ic → xTq y.cls (xe_nm k) ik ic ix rx → (y.cls, iss, text) ∈ xe_S → 5 < rm.frames → (st.map fun v => v.category).sum + 82 ≤ rm.locals → cells + 1 ≤ rm.cells → slots + 6 ≤ rm.slots → xv p l e rm s m args below meth c D A n Q w1 cells slots pc lv st) →
      (∀ (cells slots pc k : Nat) (lv : List (Nat × Value)) (st : List Value), o = .inl k → cells ≤ rm.cells → slots ≤ rm.slots → xvx p l e rm s m args below meth c D A n Q w1 cells slots pc lv st (xe_nm k)) →
      xv p l e rm s m args below meth c D A n Q w0 0 0 0 (lv_args 0 al) []) : CXi l D dA sa y (wz y cc n ret) rm al w0 o w1 := by
  intro sz
  refine vx_ofW (cc := cc) (maxL := n) (ret := ret) hy rfl ?_
  intro p e s m args below meth c s₁ B hml hnt hv
  obtain ⟨rfl, hsz, hP, hD, hC⟩ := xC_of hl B hml hv
  have hr := B.returns
  have hlv := lv_entry al hlen
  rw [lg_entry_eq]
  refine body p e s m al.toArray below meth c (va_A w0 sz) _ hC ?_ ?_ ?_ ?_ ?_ ?_ _ _ _ hP hD (by subst hsz; exact va_S.rf) hlv
  · intro cells slots pc lv v ho hn hc hs d H locs ls hP hD hS hl9
    subst ho
    refine W.widen hc hs ?_
    have hx := hC.1.1
    have hb := hC.1.2.1
    exact vx_ret (W.zret hx hb (hr.trans hret) hn (fun t ht hW => ⟨⟨v, (), rfl, rfl, by rw [ht]; exact hP, va_K.moved hW.alike hC.2.1, hD⟩, hS.F ht⟩) hS.2.2 d hC.2.2.2.2.1)
  · intro cells slots pc k ik iss ic text lv st ho h5 hw hs9 hf hlo hc hs
    exact xth_n hC hnt ho h5 hw hs9 hf hlo hc hs hc hs
  · intro cells slots pc k ik iss ic text lv st ho h5 hw hs9 hf hlo hc hs
    exact xth_w hC hnt ho h5 hw hs9 hf hlo hc hs hc hs
  · intro cells slots pc k ik iss ic text lv st ix rx ho h5 hw hs9 hf hlo hc hs
    exact xth_qn hC hnt ho h5 hw hs9 hf hlo hc hs hc hs
  · intro cells slots pc k ik iss ic text lv st ix rx ho h5 hw hs9 hf hlo hc hs
    exact xth_qw hC hnt ho h5 hw hs9 hf hlo hc hs hc hs
  · intro cells slots pc k lv st ho hc hs H locs ls q ce hP hD hS hl9 hce hcv hcl
    exact vx_out (fun x hx => (hnt x hx).elim) hC.2.2.2.2.1 hce hcv hcl (fun t ht hv9 => ⟨(), trivial, ⟨⟨k, ho, rfl⟩, by rw [ht]; exact hP, va_K.moved hv9 hC.2.1, hD⟩, hS.F ht⟩) hS.2.2 hc hs
theorem xm_xf {o : Nat ⊕ UInt32} (hl : l.stackTraces = false) (hy : plainName y.cls = true) (hlen : (lg_sl al).length ≤ n) (hret : ret = some .float)
    (body : ∀ (p : Program) (e : Env) (s : State) (m : MethodId) (args : Array Value) (below : List Frame) (meth : Method) (c : Code) (A : Nat → Prop) (Q : State → Prop), xv_C p l s m args meth c D dA sa A cc n y.cls (wz y cc n ret) →
      (∀ (cells slots pc : Nat) (lv : List (Nat × Value)) (v : UInt32) , o = .inr v →  cells ≤ rm.cells → slots ≤ rm.slots → decode cc pc = .ok (.freturn, 1) → xv p l e rm s m args below meth c D A n Q w1 cells slots pc lv [.float v]) →
      (∀ (cells slots pc k ik iss ic : Nat) (text : String) (lv : List (Nat × Value)) (st : List Value), o = .inl k → xT5 cc pc ik iss ic → xTw y.cls (xe_nm k) ik ic → (y.cls, iss, text) ∈ xe_S → 5 < rm.frames → (st.map fun v => v.category).sum + 82 ≤ rm.locals → cells + 1 ≤ rm.cells → slots + 6 ≤ rm.slots → xv p l e rm s m args below meth c D A n Q w1 cells slots pc lv st) →
      (∀ (cells slots pc k ik iss ic : Nat) (text : String) (lv : List (Nat × Value)) (st : List Value), o = .inl k → xT5w cc pc ik iss ic → xTw y.cls (xe_nm k) ik ic → (y.cls, iss, text) ∈ xe_S → 5 < rm.frames → (st.map fun v => v.category).sum + 82 ≤ rm.locals → cells + 1 ≤ rm.cells → slots + 6 ≤ rm.slots → xv p l e rm s m args below meth c D A n Q w1 cells slots pc lv st) →
      (∀ (cells slots pc k ik iss ic : Nat) (text : String) (lv : List (Nat × Value)) (st : List Value) (ix : Nat) (rx : ByteArray), o = .inl k → xT5 cc pc ik iss ic → xTq y.cls (xe_nm k) ik ic ix rx → (y.cls, iss, text) ∈ xe_S → 5 < rm.frames → (st.map fun v => v.category).sum + 82 ≤ rm.locals → cells + 1 ≤ rm.cells → slots + 6 ≤ rm.slots → xv p l e rm s m args below meth c D A n Q w1 cells slots pc lv st) →
      (∀ (cells slots pc k ik iss ic : Nat) (text : String) (lv : List (Nat × Value)) (st : List Value) (ix : Nat) (rx : ByteArray), o = .inl k → xT5w cc pc ik iss ic → xTq y.cls (xe_nm k) ik ic ix rx → (y.cls, iss, text) ∈ xe_S → 5 < rm.frames → (st.map fun v => v.category).sum + 82 ≤ rm.locals → cells + 1 ≤ rm.cells → slots + 6 ≤ rm.slots → xv p l e rm s m args below meth c D A n Q w1 cells slots pc lv st) →
      (∀ (cells slots pc k : Nat) (lv : List (Nat × Value)) (st : List Value), o = .inl k → cells ≤ rm.cells → slots ≤ rm.slots → xvx p l e rm s m args below meth c D A n Q w1 cells slots pc lv st (xe_nm k)) →
      xv p l e rm s m args below meth c D A n Q w0 0 0 0 (lv_args 0 al) []) : CXf l D dA sa y (wz y cc n ret) rm al w0 o w1 := by
  intro sz
  refine vx_ofW (cc := cc) (maxL := n) (ret := ret) hy rfl ?_
  intro p e s m args below meth c s₁ B hml hnt hv
  obtain ⟨rfl, hsz, hP, hD, hC⟩ := xC_of hl B hml hv
  have hr := B.returns
  have hlv := lv_entry al hlen
  rw [lg_entry_eq]
  refine body p e s m al.toArray below meth c (va_A w0 sz) _ hC ?_ ?_ ?_ ?_ ?_ ?_ _ _ _ hP hD (by subst hsz; exact va_S.rf) hlv
  · intro cells slots pc lv v ho hc hs d H locs ls hP hD hS hl9
    subst ho
    refine W.widen hc hs ?_
    have hx := hC.1.1
    have hb := hC.1.2.1
    exact vx_ret (W.fret hx hb (hr.trans hret) (fun t ht hW => ⟨⟨v, (), rfl, rfl, by rw [ht]; exact hP, va_K.moved hW.alike hC.2.1, hD⟩, hS.F ht⟩) hS.2.2 d hC.2.2.2.2.1)
  · intro cells slots pc k ik iss ic text lv st ho h5 hw hs9 hf hlo hc hs
    exact xth_n hC hnt ho h5 hw hs9 hf hlo hc hs hc hs
  · intro cells slots pc k ik iss ic text lv st ho h5 hw hs9 hf hlo hc hs
    exact xth_w hC hnt ho h5 hw hs9 hf hlo hc hs hc hs
  · intro cells slots pc k ik iss ic text lv st ix rx ho h5 hw hs9 hf hlo hc hs
    exact xth_qn hC hnt ho h5 hw hs9 hf hlo hc hs hc hs
  · intro cells slots pc k ik iss ic text lv st ix rx ho h5 hw hs9 hf hlo hc hs
    exact xth_qw hC hnt ho h5 hw hs9 hf hlo hc hs hc hs
  · intro cells slots pc k lv st ho hc hs H locs ls q ce hP hD hS hl9 hce hcv hcl
    exact vx_out (fun x hx => (hnt x hx).elim) hC.2.2.2.2.1 hce hcv hcl (fun t ht hv9 => ⟨(), trivial, ⟨⟨k, ho, rfl⟩, by rw [ht]; exact hP, va_K.moved hv9 hC.2.1, hD⟩, hS.F ht⟩) hS.2.2 hc hs
theorem xm_xd {o : Nat ⊕ UInt64} (hl : l.stackTraces = false) (hy : plainName y.cls = true) (hlen : (lg_sl al).length ≤ n) (hret : ret = some .double)
    (body : ∀ (p : Program) (e : Env) (s : State) (m : MethodId) (args : Array Value) (below : List Frame) (meth : Method) (c : Code) (A : Nat → Prop) (Q : State → Prop), xv_C p l s m args meth c D dA sa A cc n y.cls (wz y cc n ret) →
      (∀ (cells slots pc : Nat) (lv : List (Nat × Value)) (v : UInt64) , o = .inr v →  cells ≤ rm.cells → slots ≤ rm.slots → decode cc pc = .ok (.dreturn, 1) → xv p l e rm s m args below meth c D A n Q w1 cells slots pc lv [.double v]) →
      (∀ (cells slots pc k ik iss ic : Nat) (text : String) (lv : List (Nat × Value)) (st : List Value), o = .inl k → xT5 cc pc ik iss ic → xTw y.cls (xe_nm k) ik ic → (y.cls, iss, text) ∈ xe_S → 5 < rm.frames → (st.map fun v => v.category).sum + 82 ≤ rm.locals → cells + 1 ≤ rm.cells → slots + 6 ≤ rm.slots → xv p l e rm s m args below meth c D A n Q w1 cells slots pc lv st) →
      (∀ (cells slots pc k ik iss ic : Nat) (text : String) (lv : List (Nat × Value)) (st : List Value), o = .inl k → xT5w cc pc ik iss ic → xTw y.cls (xe_nm k) ik ic → (y.cls, iss, text) ∈ xe_S → 5 < rm.frames → (st.map fun v => v.category).sum + 82 ≤ rm.locals → cells + 1 ≤ rm.cells → slots + 6 ≤ rm.slots → xv p l e rm s m args below meth c D A n Q w1 cells slots pc lv st) →
      (∀ (cells slots pc k ik iss ic : Nat) (text : String) (lv : List (Nat × Value)) (st : List Value) (ix : Nat) (rx : ByteArray), o = .inl k → xT5 cc pc ik iss ic → xTq y.cls (xe_nm k) ik ic ix rx → (y.cls, iss, text) ∈ xe_S → 5 < rm.frames → (st.map fun v => v.category).sum + 82 ≤ rm.locals → cells + 1 ≤ rm.cells → slots + 6 ≤ rm.slots → xv p l e rm s m args below meth c D A n Q w1 cells slots pc lv st) →
      (∀ (cells slots pc k ik iss ic : Nat) (text : String) (lv : List (Nat × Value)) (st : List Value) (ix : Nat) (rx : ByteArray), o = .inl k → xT5w cc pc ik iss ic → xTq y.cls (xe_nm k) ik ic ix rx → (y.cls, iss, text) ∈ xe_S → 5 < rm.frames → (st.map fun v => v.category).sum + 82 ≤ rm.locals → cells + 1 ≤ rm.cells → slots + 6 ≤ rm.slots → xv p l e rm s m args below meth c D A n Q w1 cells slots pc lv st) →
      (∀ (cells slots pc k : Nat) (lv : List (Nat × Value)) (st : List Value), o = .inl k → cells ≤ rm.cells → slots ≤ rm.slots → xvx p l e rm s m args below meth c D A n Q w1 cells slots pc lv st (xe_nm k)) →
      xv p l e rm s m args below meth c D A n Q w0 0 0 0 (lv_args 0 al) []) : CXd l D dA sa y (wz y cc n ret) rm al w0 o w1 := by
  intro sz
  refine vx_ofW (cc := cc) (maxL := n) (ret := ret) hy rfl ?_
  intro p e s m args below meth c s₁ B hml hnt hv
  obtain ⟨rfl, hsz, hP, hD, hC⟩ := xC_of hl B hml hv
  have hr := B.returns
  have hlv := lv_entry al hlen
  rw [lg_entry_eq]
  refine body p e s m al.toArray below meth c (va_A w0 sz) _ hC ?_ ?_ ?_ ?_ ?_ ?_ _ _ _ hP hD (by subst hsz; exact va_S.rf) hlv
  · intro cells slots pc lv v ho hc hs d H locs ls hP hD hS hl9
    subst ho
    refine W.widen hc hs ?_
    have hx := hC.1.1
    have hb := hC.1.2.1
    exact vx_ret (W.dret hx hb (hr.trans hret) (fun t ht hW => ⟨⟨v, (), rfl, rfl, by rw [ht]; exact hP, va_K.moved hW.alike hC.2.1, hD⟩, hS.F ht⟩) hS.2.2 d hC.2.2.2.2.1)
  · intro cells slots pc k ik iss ic text lv st ho h5 hw hs9 hf hlo hc hs
    exact xth_n hC hnt ho h5 hw hs9 hf hlo hc hs hc hs
  · intro cells slots pc k ik iss ic text lv st ho h5 hw hs9 hf hlo hc hs
    exact xth_w hC hnt ho h5 hw hs9 hf hlo hc hs hc hs
  · intro cells slots pc k ik iss ic text lv st ix rx ho h5 hw hs9 hf hlo hc hs
    exact xth_qn hC hnt ho h5 hw hs9 hf hlo hc hs hc hs
  · intro cells slots pc k ik iss ic text lv st ix rx ho h5 hw hs9 hf hlo hc hs
    exact xth_qw hC hnt ho h5 hw hs9 hf hlo hc hs hc hs
  · intro cells slots pc k lv st ho hc hs H locs ls q ce hP hD hS hl9 hce hcv hcl
    exact vx_out (fun x hx => (hnt x hx).elim) hC.2.2.2.2.1 hce hcv hcl (fun t ht hv9 => ⟨(), trivial, ⟨⟨k, ho, rfl⟩, by rw [ht]; exact hP, va_K.moved hv9 hC.2.1, hD⟩, hS.F ht⟩) hS.2.2 hc hs
theorem xm_xv {o : Nat ⊕ Unit} (hl : l.stackTraces = false) (hy : plainName y.cls = true) (hlen : (lg_sl al).length ≤ n) (hret : ret = none)
    (body : ∀ (p : Program) (e : Env) (s : State) (m : MethodId) (args : Array Value) (below : List Frame) (meth : Method) (c : Code) (A : Nat → Prop) (Q : State → Prop), xv_C p l s m args meth c D dA sa A cc n y.cls (wz y cc n ret) →
      (∀ (cells slots pc : Nat) (lv : List (Nat × Value)) , o = .inr () →  cells ≤ rm.cells → slots ≤ rm.slots → decode cc pc = .ok (.return_, 1) → xv p l e rm s m args below meth c D A n Q w1 cells slots pc lv []) →
      (∀ (cells slots pc k ik iss ic : Nat) (text : String) (lv : List (Nat × Value)) (st : List Value), o = .inl k → xT5 cc pc ik iss ic → xTw y.cls (xe_nm k) ik ic → (y.cls, iss, text) ∈ xe_S → 5 < rm.frames → (st.map fun v => v.category).sum + 82 ≤ rm.locals → cells + 1 ≤ rm.cells → slots + 6 ≤ rm.slots → xv p l e rm s m args below meth c D A n Q w1 cells slots pc lv st) →
      (∀ (cells slots pc k ik iss ic : Nat) (text : String) (lv : List (Nat × Value)) (st : List Value), o = .inl k → xT5w cc pc ik iss ic → xTw y.cls (xe_nm k) ik ic → (y.cls, iss, text) ∈ xe_S → 5 < rm.frames → (st.map fun v => v.category).sum + 82 ≤ rm.locals → cells + 1 ≤ rm.cells → slots + 6 ≤ rm.slots → xv p l e rm s m args below meth c D A n Q w1 cells slots pc lv st) →
      (∀ (cells slots pc k ik iss ic : Nat) (text : String) (lv : List (Nat × Value)) (st : List Value) (ix : Nat) (rx : ByteArray), o = .inl k → xT5 cc pc ik iss ic → xTq y.cls (xe_nm k) ik ic ix rx → (y.cls, iss, text) ∈ xe_S → 5 < rm.frames → (st.map fun v => v.category).sum + 82 ≤ rm.locals → cells + 1 ≤ rm.cells → slots + 6 ≤ rm.slots → xv p l e rm s m args below meth c D A n Q w1 cells slots pc lv st) →
      (∀ (cells slots pc k ik iss ic : Nat) (text : String) (lv : List (Nat × Value)) (st : List Value) (ix : Nat) (rx : ByteArray), o = .inl k → xT5w cc pc ik iss ic → xTq y.cls (xe_nm k) ik ic ix rx → (y.cls, iss, text) ∈ xe_S → 5 < rm.frames → (st.map fun v => v.category).sum + 82 ≤ rm.locals → cells + 1 ≤ rm.cells → slots + 6 ≤ rm.slots → xv p l e rm s m args below meth c D A n Q w1 cells slots pc lv st) →
      (∀ (cells slots pc k : Nat) (lv : List (Nat × Value)) (st : List Value), o = .inl k → cells ≤ rm.cells → slots ≤ rm.slots → xvx p l e rm s m args below meth c D A n Q w1 cells slots pc lv st (xe_nm k)) →
      xv p l e rm s m args below meth c D A n Q w0 0 0 0 (lv_args 0 al) []) : CXv l D dA sa y (wz y cc n ret) rm al w0 o w1 := by
  intro sz
  refine vx_ofW (cc := cc) (maxL := n) (ret := ret) hy rfl ?_
  intro p e s m args below meth c s₁ B hml hnt hv
  obtain ⟨rfl, hsz, hP, hD, hC⟩ := xC_of hl B hml hv
  have hr := B.returns
  have hlv := lv_entry al hlen
  rw [lg_entry_eq]
  refine body p e s m al.toArray below meth c (va_A w0 sz) _ hC ?_ ?_ ?_ ?_ ?_ ?_ _ _ _ hP hD (by subst hsz; exact va_S.rf) hlv
  · intro cells slots pc lv ho hc hs d H locs ls hP hD hS hl9
    subst ho
    refine W.widen hc hs ?_
    have hx := hC.1.1
    have hb := hC.1.2.1
    exact vx_ret (W.vret hx hb (hr.trans hret) (fun t ht hW => ⟨⟨(), rfl, rfl, by rw [ht]; exact hP, va_K.moved hW.alike hC.2.1, hD⟩, hS.F ht⟩) hS.2.2 d hC.2.2.2.2.1)
  · intro cells slots pc k ik iss ic text lv st ho h5 hw hs9 hf hlo hc hs
    exact xth_n hC hnt ho h5 hw hs9 hf hlo hc hs hc hs
  · intro cells slots pc k ik iss ic text lv st ho h5 hw hs9 hf hlo hc hs
    exact xth_w hC hnt ho h5 hw hs9 hf hlo hc hs hc hs
  · intro cells slots pc k ik iss ic text lv st ix rx ho h5 hw hs9 hf hlo hc hs
    exact xth_qn hC hnt ho h5 hw hs9 hf hlo hc hs hc hs
  · intro cells slots pc k ik iss ic text lv st ix rx ho h5 hw hs9 hf hlo hc hs
    exact xth_qw hC hnt ho h5 hw hs9 hf hlo hc hs hc hs
  · intro cells slots pc k lv st ho hc hs H locs ls q ce hP hD hS hl9 hce hcv hcl
    exact vx_out (fun x hx => (hnt x hx).elim) hC.2.2.2.2.1 hce hcv hcl (fun t ht hv9 => ⟨(), trivial, ⟨⟨k, ho, rfl⟩, by rw [ht]; exact hP, va_K.moved hv9 hC.2.1, hD⟩, hS.F ht⟩) hS.2.2 hc hs
end SXC
