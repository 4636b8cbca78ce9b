def bq (v : Int32) : Bool := decide (v = 0) || decide (v = 1)
theorem bq_of {v : Int32} (h : bq v = true) : v = 0 ∨ v = 1 := by simpa [bq] using h
theorem bq_n {v : Int32} (h : bq v = true) : narrow .boolean (.int v) = .int v := by rcases bq_of h with rfl | rfl <;> decide
theorem bq_f {v : Int32} (h : bq v = true) : fits .boolean (.int v) = true := by rcases bq_of h with rfl | rfl <;> decide
def nch (v : Int32) : Bool := decide (vp_nar .char v = v)
theorem nch_n {v : Int32} (h : nch v = true) : narrow .char (.int v) = .int v := by
  have h1 : vp_nar .char v = v := by simpa [nch] using h
  rw [vp_nar_char] at h1
  show Value.int _ = Value.int v
  exact congrArg Value.int h1
def imin (x y : Int32) : Int32 := if y < x then y else x
def imax (x y : Int32) : Int32 := if x < y then y else x
def iush (x y : Int32) : Int32 := (x.toUInt32 >>> (y.toUInt32 &&& Int32.toUInt32 31)).toInt32
def ichar (x : Int32) : Int32 := (x.toUInt32 % 65536).toInt32
def thr {T V : Type} (q : (Nat ⊕ V) × ZZ) (f : V → ZZ → Option ((Nat ⊕ T) × ZZ)) : Option ((Nat ⊕ T) × ZZ) := match q.1 with
  | .inl k => some (.inl k, q.2)
  | .inr r => f r q.2
theorem thr_l {T V : Type} {q : (Nat ⊕ V) × ZZ} {f : V → ZZ → Option ((Nat ⊕ T) × ZZ)} {k : Nat} {res : (Nat ⊕ T) × ZZ} (hq : q.1 = .inl k) (h : thr q f = some res) : res = (.inl k, q.2) := by
  unfold thr at h
  rw [hq] at h
  exact (Option.some.inj h).symm
theorem thr_r {T V : Type} {q : (Nat ⊕ V) × ZZ} {f : V → ZZ → Option ((Nat ⊕ T) × ZZ)} {r : V} {res : (Nat ⊕ T) × ZZ} (hq : q.1 = .inr r) (h : thr q f = some res) : f r q.2 = some res := by
  unfold thr at h
  rw [hq] at h
  exact h
theorem some_pair {α β : Type} {x y : α} {u v : β} (h : some (x, u) = some (y, v)) : x = y ∧ u = v := by
  cases h
  exact ⟨rfl, rfl⟩
theorem nm_some {α β : Type} {x : α} {f : α → Option β} {y : β} (h : nm x f = some y) : ∃ z, z = x ∧ f z = some y := ⟨x, rfl, h⟩
/-- System.arraycopy's room: both ranges lie in their rows -/
def cpo (sp dp n : Int32) (n0 n1 : Nat) : Bool := decide (¬ sp < 0) && decide (¬ dp < 0) && decide (¬ n < 0) && decide (sp.toNatClampNeg + n.toNatClampNeg ≤ n0) && decide (dp.toNatClampNeg + n.toNatClampNeg ≤ n1)
theorem cpo_of {sp dp n : Int32} {n0 n1 : Nat} (h : cpo sp dp n n0 n1 = true) : ¬ sp < 0 ∧ ¬ dp < 0 ∧ ¬ n < 0 ∧ sp.toNatClampNeg + n.toNatClampNeg ≤ n0 ∧ dp.toNatClampNeg + n.toNatClampNeg ≤ n1 := by
  unfold cpo at h
  simp only [Bool.and_eq_true, decide_eq_true_eq] at h
  obtain ⟨⟨⟨⟨h1, h2⟩, h3⟩, h4⟩, h5⟩ := h
  exact ⟨h1, h2, h3, h4, h5⟩
def pC (Z : ZZ) (t0 : Nat) (sp : Int32) (t1 : Nat) (dp n : Int32) : ZZ := pR Z t1 (va_cpy (Z.1 t0) (Z.1 t1) sp.toNatClampNeg dp.toNatClampNeg n.toNatClampNeg)
section SXM
variable {p : Program} {l : Launch} {e : Env} {R : Room} {s : State} {m : MethodId} {args : Array Value} {below : List Frame} {meth : Method} {c : Code} {Q : State → Prop} {D : va_G} {dA : Nat → ClassId} {sa : String → Nat → Nat} {A : Nat → Prop} {cc : ByteArray} {nL cells slots pc : Nat} {own : String} {cw : Cond} {lv lv' : List (Nat × Value)} {st : List Value} {a : Nat → Nat} {Z Z2 : ZZ} {t t0 t1 : Nat} {w : va_W}
theorem xv_iushr (C : xv_C p l s m args meth c D dA sa A cc nL own (cw :: WT)) {x y : Int32} (d : decode cc pc = .ok (.iushr, 1)) (k : xv p l e R s m args below meth c D A nL Q w cells slots (pc + 1) lv (.int (iush x y) :: st)) : xv p l e R s m args below meth c D A nL Q w cells slots pc lv (.int y :: .int x :: st) := fun H locs ls hP hD hS hl => lv_iushr C.1.1 C.1.2.1 d rfl (k H locs ls hP hD hS hl)
theorem xv_irem (C : xv_C p l s m args meth c D dA sa A cc nL own (cw :: WT)) {x y : Int32} (d : decode cc pc = .ok (.irem, 1)) (hne : ¬ y = 0) (k : xv p l e R s m args below meth c D A nL Q w cells slots (pc + 1) lv (.int (x - x / y * y) :: st)) : xv p l e R s m args below meth c D A nL Q w cells slots pc lv (.int y :: .int x :: st) := fun H locs ls hP hD hS hl => lv_irem C.1.1 C.1.2.1 d hne (k H locs ls hP hD hS hl)
theorem xv_lcmp (C : xv_C p l s m args meth c D dA sa A cc nL own (cw :: WT)) {x y : Int64} (d : decode cc pc = .ok (.lcmp, 1)) (k : xv p l e R s m args below meth c D A nL Q w cells slots (pc + 1) lv (.int (lg_cmp x y) :: st)) : xv p l e R s m args below meth c D A nL Q w cells slots pc lv (.long y :: .long x :: st) := fun H locs ls hP hD hS hl => W.lcmp C.1.1 C.1.2.1 d (k H locs ls hP hD hS hl)
theorem xv_ldcw (C : xv_C p l s m args meth c D dA sa A cc nL own (cw :: WT)) {index : Nat} {v : Int32} (d : decode cc pc = .ok (.ldc_w index, 3)) (hw : Cond.constant own index v ∈ WT) (k : xv p l e R s m args below meth c D A nL Q w cells slots (pc + 3) lv (.int v :: st)) : xv p l e R s m args below meth c D A nL Q w cells slots pc lv st := fun H locs ls hP hD hS hl => lv_ldcw C.1.1 C.1.2.1 C.1.2.2.2.1 (C.1.2.2.2.2 _ (List.mem_cons_of_mem _ hw)) d (k H locs ls hP hD hS hl)
theorem xv_ldci (C : xv_C p l s m args meth c D dA sa A cc nL own (cw :: WT)) {index : Nat} {v : Int32} (d : decode cc pc = .ok (.ldc index, 2)) (hw : Cond.constant own index v ∈ WT) (k : xv p l e R s m args below meth c D A nL Q w cells slots (pc + 2) lv (.int v :: st)) : xv p l e R s m args below meth c D A nL Q w cells slots pc lv st := xv_ldc C d (List.mem_cons_of_mem _ hw) k
theorem xv_immin (C : xv_C p l s m args meth c D dA sa A cc nL own (cw :: WT)) {index : Nat} {x y : Int32} (d : decode cc pc = .ok (.invokestatic index, 3)) (h1 : Cond.methodLink own index Lib.Math.min.name ∈ WT) (hw : Cond.static Lib.Math.min.name ∈ WT ∧ Cond.initialized "java/lang/Math" ∈ WT ∧ Cond.code Lib.Math.min.name Lib.Math.min.code 2 (some .int) ∈ WT) (hf : 1 ≤ R.frames) (ho : (st.map fun v => v.category).sum + 13 ≤ R.locals) (hc : cells ≤ R.cells) (hs : slots ≤ R.slots) (k : xv p l e R s m args below meth c D A nL Q w cells slots (pc + 3) lv (.int (imin x y) :: st)) : xv p l e R s m args below meth c D A nL Q w cells slots pc lv (.int y :: .int x :: st) := xv_mmin C d (List.mem_cons_of_mem _ h1) (List.mem_cons_of_mem _ hw.1) (List.mem_cons_of_mem _ hw.2.1) (List.mem_cons_of_mem _ hw.2.2) hf ho hc hs k
theorem xv_immax (C : xv_C p l s m args meth c D dA sa A cc nL own (cw :: WT)) {index : Nat} {x y : Int32} (d : decode cc pc = .ok (.invokestatic index, 3)) (h1 : Cond.methodLink own index Lib.Math.max.name ∈ WT) (hw : Cond.static Lib.Math.max.name ∈ WT ∧ Cond.initialized "java/lang/Math" ∈ WT ∧ Cond.code Lib.Math.max.name Lib.Math.max.code 2 (some .int) ∈ WT) (hf : 1 ≤ R.frames) (ho : (st.map fun v => v.category).sum + 13 ≤ R.locals) (hc : cells ≤ R.cells) (hs : slots ≤ R.slots) (k : xv p l e R s m args below meth c D A nL Q w cells slots (pc + 3) lv (.int (imax x y) :: st)) : xv p l e R s m args below meth c D A nL Q w cells slots pc lv (.int y :: .int x :: st) := xv_mmax C d (List.mem_cons_of_mem _ h1) (List.mem_cons_of_mem _ hw.1) (List.mem_cons_of_mem _ hw.2.1) (List.mem_cons_of_mem _ hw.2.2) hf ho hc hs k
theorem xn_C5 (C : xv_C p l s m args meth c D dA sa A cc nL own (cw :: WT)) {v : Int32} (d : decode cc pc = .ok (.arraylength, 1)) (h : shC t = 5) (hv : nI 8 = v) (k : xv p l e R s m args below meth c D A nL Q (cwC dA a Z) cells slots (pc + 1) lv (.int v :: st)) : xv p l e R s m args below meth c D A nL Q (cwC dA a Z) cells slots pc lv (.ref (a t) :: st) := xv_alen C d (t0 := 0) rfl (tw_at (shC_lt h (by decide)) (ar_C5 h _ _)) hv k
theorem xn_C9 (C : xv_C p l s m args meth c D dA sa A cc nL own (cw :: WT)) {v : Int32} (d : decode cc pc = .ok (.arraylength, 1)) (h : shC t = 9) (hv : nI 13 = v) (k : xv p l e R s m args below meth c D A nL Q (cwC dA a Z) cells slots (pc + 1) lv (.int v :: st)) : xv p l e R s m args below meth c D A nL Q (cwC dA a Z) cells slots pc lv (.ref (a t) :: st) := xv_alen C d (t0 := 0) rfl (tw_at (shC_lt h (by decide)) (ar_C9 h _ _)) hv k
theorem xn_C11 (C : xv_C p l s m args meth c D dA sa A cc nL own (cw :: WT)) {v : Int32} (d : decode cc pc = .ok (.arraylength, 1)) (h : shC t = 11) (hv : nI 7 = v) (k : xv p l e R s m args below meth c D A nL Q (cwC dA a Z) cells slots (pc + 1) lv (.int v :: st)) : xv p l e R s m args below meth c D A nL Q (cwC dA a Z) cells slots pc lv (.ref (a t) :: st) := xv_alen C d (t0 := 0) rfl (tw_at (shC_lt h (by decide)) (ar_C11 h _ _)) hv k
theorem xn_C12 (C : xv_C p l s m args meth c D dA sa A cc nL own (cw :: WT)) {v : Int32} (d : decode cc pc = .ok (.arraylength, 1)) (h : shC t = 12) (hv : nI 16 = v) (k : xv p l e R s m args below meth c D A nL Q (cwC dA a Z) cells slots (pc + 1) lv (.int v :: st)) : xv p l e R s m args below meth c D A nL Q (cwC dA a Z) cells slots pc lv (.ref (a t) :: st) := xv_alen C d (t0 := 0) rfl (tw_at (shC_lt h (by decide)) (ar_C12 h _ _)) hv k
theorem xn_C15 (C : xv_C p l s m args meth c D dA sa A cc nL own (cw :: WT)) {v : Int32} (d : decode cc pc = .ok (.arraylength, 1)) (h : shC t = 15) (hv : nI 10 = v) (k : xv p l e R s m args below meth c D A nL Q (cwC dA a Z) cells slots (pc + 1) lv (.int v :: st)) : xv p l e R s m args below meth c D A nL Q (cwC dA a Z) cells slots pc lv (.ref (a t) :: st) := xv_alen C d (t0 := 0) rfl (tw_at (shC_lt h (by decide)) (ar_C15 h _ _)) hv k
theorem xn_R2 (C : xv_C p l s m args meth c D dA sa A cc nL own (cw :: WT)) {v : Int32} (d : decode cc pc = .ok (.arraylength, 1)) (h : shR t = 2) (hv : nI 180 = v) (k : xv p l e R s m args below meth c D A nL Q (cwR dA a Z) cells slots (pc + 1) lv (.int v :: st)) : xv p l e R s m args below meth c D A nL Q (cwR dA a Z) cells slots pc lv (.ref (a t) :: st) := xv_alen C d (t0 := 0) rfl (tw_at (shR_lt h (by decide)) (ar_R2 h _ _)) hv k
theorem xn_R3 (C : xv_C p l s m args meth c D dA sa A cc nL own (cw :: WT)) {v : Int32} (d : decode cc pc = .ok (.arraylength, 1)) (h : shR t = 3) (hv : nI 1440 = v) (k : xv p l e R s m args below meth c D A nL Q (cwR dA a Z) cells slots (pc + 1) lv (.int v :: st)) : xv p l e R s m args below meth c D A nL Q (cwR dA a Z) cells slots pc lv (.ref (a t) :: st) := xv_alen C d (t0 := 0) rfl (tw_at (shR_lt h (by decide)) (ar_R3 h _ _)) hv k
theorem xn_R4 (C : xv_C p l s m args meth c D dA sa A cc nL own (cw :: WT)) {v : Int32} (d : decode cc pc = .ok (.arraylength, 1)) (h : shR t = 4) (hv : nI 24 = v) (k : xv p l e R s m args below meth c D A nL Q (cwR dA a Z) cells slots (pc + 1) lv (.int v :: st)) : xv p l e R s m args below meth c D A nL Q (cwR dA a Z) cells slots pc lv (.ref (a t) :: st) := xv_alen C d (t0 := 0) rfl (tw_at (shR_lt h (by decide)) (ar_R4 h _ _)) hv k
theorem xn_R5 (C : xv_C p l s m args meth c D dA sa A cc nL own (cw :: WT)) {v : Int32} (d : decode cc pc = .ok (.arraylength, 1)) (h : shR t = 5) (hv : nI 8 = v) (k : xv p l e R s m args below meth c D A nL Q (cwR dA a Z) cells slots (pc + 1) lv (.int v :: st)) : xv p l e R s m args below meth c D A nL Q (cwR dA a Z) cells slots pc lv (.ref (a t) :: st) := xv_alen C d (t0 := 0) rfl (tw_at (shR_lt h (by decide)) (ar_R5 h _ _)) hv k
theorem xn_R6 (C : xv_C p l s m args meth c D dA sa A cc nL own (cw :: WT)) {v : Int32} (d : decode cc pc = .ok (.arraylength, 1)) (h : shR t = 6) (hv : nI 80 = v) (k : xv p l e R s m args below meth c D A nL Q (cwR dA a Z) cells slots (pc + 1) lv (.int v :: st)) : xv p l e R s m args below meth c D A nL Q (cwR dA a Z) cells slots pc lv (.ref (a t) :: st) := xv_alen C d (t0 := 0) rfl (tw_at (shR_lt h (by decide)) (ar_R6 h _ _)) hv k
theorem xn_R7 (C : xv_C p l s m args meth c D dA sa A cc nL own (cw :: WT)) {v : Int32} (d : decode cc pc = .ok (.arraylength, 1)) (h : shR t = 7) (hv : nI 60 = v) (k : xv p l e R s m args below meth c D A nL Q (cwR dA a Z) cells slots (pc + 1) lv (.int v :: st)) : xv p l e R s m args below meth c D A nL Q (cwR dA a Z) cells slots pc lv (.ref (a t) :: st) := xv_alen C d (t0 := 0) rfl (tw_at (shR_lt h (by decide)) (ar_R7 h _ _)) hv k
theorem xn_R8 (C : xv_C p l s m args meth c D dA sa A cc nL own (cw :: WT)) {v : Int32} (d : decode cc pc = .ok (.arraylength, 1)) (h : shR t = 8) (hv : nI 32 = v) (k : xv p l e R s m args below meth c D A nL Q (cwR dA a Z) cells slots (pc + 1) lv (.int v :: st)) : xv p l e R s m args below meth c D A nL Q (cwR dA a Z) cells slots pc lv (.ref (a t) :: st) := xv_alen C d (t0 := 0) rfl (tw_at (shR_lt h (by decide)) (ar_R8 h _ _)) hv k
theorem xn_R9 (C : xv_C p l s m args meth c D dA sa A cc nL own (cw :: WT)) {v : Int32} (d : decode cc pc = .ok (.arraylength, 1)) (h : shR t = 9) (hv : nI 96 = v) (k : xv p l e R s m args below meth c D A nL Q (cwR dA a Z) cells slots (pc + 1) lv (.int v :: st)) : xv p l e R s m args below meth c D A nL Q (cwR dA a Z) cells slots pc lv (.ref (a t) :: st) := xv_alen C d (t0 := 0) rfl (tw_at (shR_lt h (by decide)) (ar_R9 h _ _)) hv k
theorem xy_C11 (C : xv_C p l s m args meth c D dA sa A cc nL own (cw :: WT)) {index : Nat} {sp dp n : Int32} (d : decode cc pc = .ok (.invokestatic index, 3)) (h0 : shC t0 = 11) (h1 : shC t1 = 11) (hw : Cond.methodLink own index arraycopyName ∈ WT) (hw2 : Cond.native arraycopyName ∈ WT ∧ Cond.static arraycopyName ∈ WT ∧ Cond.initialized "java/lang/System" ∈ WT) (hg : cpo sp dp n 7 7 = true) (hframes : 1 ≤ R.frames) (hloc : (st.map fun v => v.category).sum + (nativeFrameWords "java/lang/System" "arraycopy" 5 + 11) ≤ R.locals) (hZ : Z2 = pC Z t0 sp t1 dp n) (k : xv p l e R s m args below meth c D A nL Q (cwC dA a Z2) cells slots (pc + 3) lv st) : xv p l e R s m args below meth c D A nL Q (cwC dA a Z) cells slots pc lv (.int n :: .int dp :: .ref (a t1) :: .int sp :: .ref (a t0) :: st) := by
  intro H locs ls hP hD hS hl
  obtain ⟨g1, g2, g3, g4, g5⟩ := cpo_of hg
  have hts : ∀ x ∈ WT, x.before args s = true := fun x hx => C.1.2.2.2.2 x (List.mem_cons_of_mem _ hx)
  refine va_copyi C.1.1 C.1.2.1 (C.1.2.2.1.trans hl.1.symm) C.1.2.2.2.1 (hts _ hw) (hts _ hw2.1) (hts _ hw2.2.1) (hts _ hw2.2.2) C.2.1 hP hD hS t0 t1 0 0 (tw_at (shC_lt h0 (by decide)) (ar_C11 h0 _ _)) (tw_at (shC_lt h1 (by decide)) (ar_C11 h1 _ _)) rfl rfl rfl g1 g2 g3 g4 g5 (fun _ _ => rfl) hframes hloc d (fun H1 locs1 hP1 hD1 hS1 => ?_)
  have e9 : (cwC dA a Z).set t1 (a t1, .inl (dA 0, 7, .inl (va_cpy (Z.1 t0) (Z.1 t1) sp.toNatClampNeg dp.toNatClampNeg n.toNatClampNeg))) = cwC dA a Z2 := by
    rw [hZ]
    exact tw_ext (shC_lt h1 (by decide)) (by unfold pC; rw [pR_same, ar_C11 h1]) (fun q hq => pR_oth Z t1 _ q hq) (fun _ _ => rfl)
  rw [e9] at hP1 hD1
  exact k H1 locs1 ls hP1 hD1 hS1 hl
theorem xy_C12 (C : xv_C p l s m args meth c D dA sa A cc nL own (cw :: WT)) {index : Nat} {sp dp n : Int32} (d : decode cc pc = .ok (.invokestatic index, 3)) (h0 : shC t0 = 12) (h1 : shC t1 = 12) (hw : Cond.methodLink own index arraycopyName ∈ WT) (hw2 : Cond.native arraycopyName ∈ WT ∧ Cond.static arraycopyName ∈ WT ∧ Cond.initialized "java/lang/System" ∈ WT) (hg : cpo sp dp n 16 16 = true) (hframes : 1 ≤ R.frames) (hloc : (st.map fun v => v.category).sum + (nativeFrameWords "java/lang/System" "arraycopy" 5 + 11) ≤ R.locals) (hZ : Z2 = pC Z t0 sp t1 dp n) (k : xv p l e R s m args below meth c D A nL Q (cwC dA a Z2) cells slots (pc + 3) lv st) : xv p l e R s m args below meth c D A nL Q (cwC dA a Z) cells slots pc lv (.int n :: .int dp :: .ref (a t1) :: .int sp :: .ref (a t0) :: st) := by
  intro H locs ls hP hD hS hl
  obtain ⟨g1, g2, g3, g4, g5⟩ := cpo_of hg
  have hts : ∀ x ∈ WT, x.before args s = true := fun x hx => C.1.2.2.2.2 x (List.mem_cons_of_mem _ hx)
  refine va_copyi C.1.1 C.1.2.1 (C.1.2.2.1.trans hl.1.symm) C.1.2.2.2.1 (hts _ hw) (hts _ hw2.1) (hts _ hw2.2.1) (hts _ hw2.2.2) C.2.1 hP hD hS t0 t1 0 0 (tw_at (shC_lt h0 (by decide)) (ar_C12 h0 _ _)) (tw_at (shC_lt h1 (by decide)) (ar_C12 h1 _ _)) rfl rfl rfl g1 g2 g3 g4 g5 (fun _ _ => rfl) hframes hloc d (fun H1 locs1 hP1 hD1 hS1 => ?_)
  have e9 : (cwC dA a Z).set t1 (a t1, .inl (dA 0, 16, .inl (va_cpy (Z.1 t0) (Z.1 t1) sp.toNatClampNeg dp.toNatClampNeg n.toNatClampNeg))) = cwC dA a Z2 := by
    rw [hZ]
    exact tw_ext (shC_lt h1 (by decide)) (by unfold pC; rw [pR_same, ar_C12 h1]) (fun q hq => pR_oth Z t1 _ q hq) (fun _ _ => rfl)
  rw [e9] at hP1 hD1
  exact k H1 locs1 ls hP1 hD1 hS1 hl
theorem xy_C15 (C : xv_C p l s m args meth c D dA sa A cc nL own (cw :: WT)) {index : Nat} {sp dp n : Int32} (d : decode cc pc = .ok (.invokestatic index, 3)) (h0 : shC t0 = 15) (h1 : shC t1 = 15) (hw : Cond.methodLink own index arraycopyName ∈ WT) (hw2 : Cond.native arraycopyName ∈ WT ∧ Cond.static arraycopyName ∈ WT ∧ Cond.initialized "java/lang/System" ∈ WT) (hg : cpo sp dp n 10 10 = true) (hframes : 1 ≤ R.frames) (hloc : (st.map fun v => v.category).sum + (nativeFrameWords "java/lang/System" "arraycopy" 5 + 11) ≤ R.locals) (hZ : Z2 = pC Z t0 sp t1 dp n) (k : xv p l e R s m args below meth c D A nL Q (cwC dA a Z2) cells slots (pc + 3) lv st) : xv p l e R s m args below meth c D A nL Q (cwC dA a Z) cells slots pc lv (.int n :: .int dp :: .ref (a t1) :: .int sp :: .ref (a t0) :: st) := by
  intro H locs ls hP hD hS hl
  obtain ⟨g1, g2, g3, g4, g5⟩ := cpo_of hg
  have hts : ∀ x ∈ WT, x.before args s = true := fun x hx => C.1.2.2.2.2 x (List.mem_cons_of_mem _ hx)
  refine va_copyi C.1.1 C.1.2.1 (C.1.2.2.1.trans hl.1.symm) C.1.2.2.2.1 (hts _ hw) (hts _ hw2.1) (hts _ hw2.2.1) (hts _ hw2.2.2) C.2.1 hP hD hS t0 t1 0 0 (tw_at (shC_lt h0 (by decide)) (ar_C15 h0 _ _)) (tw_at (shC_lt h1 (by decide)) (ar_C15 h1 _ _)) rfl rfl rfl g1 g2 g3 g4 g5 (fun _ _ => rfl) hframes hloc d (fun H1 locs1 hP1 hD1 hS1 => ?_)
  have e9 : (cwC dA a Z).set t1 (a t1, .inl (dA 0, 10, .inl (va_cpy (Z.1 t0) (Z.1 t1) sp.toNatClampNeg dp.toNatClampNeg n.toNatClampNeg))) = cwC dA a Z2 := by
    rw [hZ]
    exact tw_ext (shC_lt h1 (by decide)) (by unfold pC; rw [pR_same, ar_C15 h1]) (fun q hq => pR_oth Z t1 _ q hq) (fun _ _ => rfl)
  rw [e9] at hP1 hD1
  exact k H1 locs1 ls hP1 hD1 hS1 hl
theorem xv_tabD (C : xv_C p l s m args meth c D dA sa A cc nL own (cw :: WT)) {dflt lo hi : Int} {offs : Array Int} {len : Nat} {x : Int32} {tgt : Nat} (d : decode cc pc = .ok (.tableswitch dflt lo hi offs, len)) (hsz : (offs.size : Int) = hi - lo + 1) (h : ∀ i : Nat, i < offs.size → offs[i]? ≠ some dflt → ¬ x = Int32.ofInt (lo + i)) (ht : (pc : Int) + dflt = (tgt : Int)) (k : xv p l e R s m args below meth c D A nL Q w cells slots tgt lv st) : xv p l e R s m args below meth c D A nL Q w cells slots pc lv (.int x :: st) := by
  by_cases h1 : x.toInt < lo
  · exact xv_tabOut C d (Or.inl h1) ht k
  · by_cases h2 : hi < x.toInt
    · exact xv_tabOut C d (Or.inr h2) ht k
    · have hlt : (x.toInt - lo).toNat < offs.size := by omega
      have hx : x = Int32.ofInt (lo + ((x.toInt - lo).toNat : Nat)) := by
        have : lo + ((x.toInt - lo).toNat : Nat) = x.toInt := by omega
        rw [this, Int32.ofInt_toInt]
      by_cases h3 : offs[(x.toInt - lo).toNat]? = some dflt
      · exact xv_tabIn C d x rfl h1 h2 h3 ht k
      · exact absurd hx (h _ hlt h3)
end SXM
