/-! constructors of objects that hold objects: new, the nest mate's constructor, a world in another order *)-/
section SXN
variable {p : Program} {l : Launch} {e : Env} {R : Room} {s : State} {m : MethodId} {args : Array Value} {below : List Frame} {meth : Method} {c : Code} {Q : State → Prop} {D : va_G} {dA : Nat → ClassId} {sa : String → Nat → Nat} {A : Nat → Prop} {cc : ByteArray} {nL cells slots pc : Nat} {own : String} {w w2 : va_W} {lv lv' : List (Nat × Value)} {st st0 rest : List Value}
variable {cw : Cond} {y : MethodName} {bytes : ByteArray} {maxL n index : Nat} {rm : Room} {As : List Value} {b : Nat} {pre post w0 w1 : va_W}
theorem xv_perm (is : List Nat) (hn : va_nd is = true) (h : is.map (fun i => w[i]?) = w2.map some) (k : xv p l e R s m args below meth c D A nL Q w2 cells slots pc lv st) : xv p l e R s m args below meth c D A nL Q w cells slots pc lv st := by
  intro H locs ls hP hD hS hl
  have hf : is.filterMap (fun i => w[i]?) = w2 := by
    have e1 : is.filterMap (fun i => w[i]?) = (is.map (fun i => w[i]?)).filterMap id := by rw [List.filterMap_map]; rfl
    rw [e1, h, List.filterMap_map]
    exact List.filterMap_some
  exact k H locs ls (hP.sub is hf) (hD.sub is hn h) hS hl
theorem xv_new (C : xv_C p l s m args meth c D dA sa A cc nL own (cw :: WT)) {Cn : String} {T : u_T} {N ci : Nat} {fs : List Value} {ty0 : Nat → FieldType} (d : decode cc pc = .ok (.new index, 3)) (hin : ∀ x ∈ u_ws Cn T N, x ∈ WT) (hty : ∀ k, k < N → parseFieldDescriptor (T k).2.2.1 = some (ty0 k)) (hcl : Cond.classLink own index Cn ∈ WT) (hinst : Cond.instantiable Cn N ∈ WT) (hini : Cond.initialized Cn ∈ WT) (hc : vwC[ci]? = some (Cn, T, N)) (hfs : ∀ j, j < N → defaultValue (ty0 j) = vp_V fs j) (hcells : cells + 1 ≤ R.cells) (hslots : slots + N ≤ R.slots) (k : ∀ q, xv p l e R s m args below meth c D A nL Q (w ++ [(q, .inr (ci, fs))]) (cells + 1) (slots + N) (pc + 3) lv (.ref q :: st)) : xv p l e R s m args below meth c D A nL Q w cells slots pc lv st := by
  intro H locs ls hP hD hS hl
  have hts : ∀ x ∈ WT, x.before args s = true := fun x hx => C.1.2.2.2.2 x (List.mem_cons_of_mem _ hx)
  exact va_new C.1.1 C.1.2.1 C.1.2.2.2.2 (fun x h => List.mem_cons_of_mem _ (hin x h)) ty0 hty C.1.2.2.2.1 (hts _ hcl) (hts _ hinst) (hts _ hini) C.2.1 hP hD hS C.2.2.1 hc hfs hcells hslots d (fun q H1 hP1 hD1 hS1 => k q H1 locs ls hP1 hD1 hS1 hl)
theorem xv_callINpv (C : xv_C p l s m args meth c D dA sa A cc nL own (cw :: WT)) {P1 : va_W → Prop} (M : CPv l D dA sa y (wz y bytes maxL none) rm (.ref b :: As) w0 P1) (f : cfI y bytes maxL n) {host : String} (hk9 : (own, index, y, host) ∈ xe_N) (hn : As.length = n) (hR : rm.frames + 1 ≤ R.frames ∧ 8 + (maxL + 11) + rm.locals ≤ R.locals) (hst : st0 = As.reverse ++ .ref b :: st) (hcat : (st.map fun v => v.category).sum ≤ 8) (d : decode cc pc = .ok (.invokespecial index, 3)) (hcs : cells + rm.cells ≤ R.cells ∧ slots + rm.slots ≤ R.slots) (hw : w = pre ++ (w0 ++ post)) (k : ∀ w1, P1 w1 → xv p l e R s m args below meth c D A nL Q (pre ++ (w1 ++ post)) (cells + rm.cells) (slots + rm.slots) (pc + 3) lv st) : xv p l e R s m args below meth c D A nL Q w cells slots pc lv st0 := by
  intro H locs ls hP hD hS hl
  subst hw
  have hF := wf_free hP hD hS C.2.2.1
  refine va_callv (va_runIN (As := As) (rest := st) C.1 (M H.size) ⟨va_cnB (host := host) (index := index) n C.1.2.2.2.2 (gi_wt (ws := wz y bytes maxL none) (fun x hx => by
      rcases List.mem_cons.mp hx with rfl | h
      · exact f.1.2.2
      · exact h)) rfl rfl rfl (C.2.2.2.1.2.2.1 _ hk9) (C.1.2.2.2.2 _ (List.mem_cons_of_mem _ f.1.2.1)) f.1.1 hR, f.2.2, C.1.2.2.2.2 _ (List.mem_cons_of_mem _ f.2.1)⟩ ⟨xP_blind, xq_pre C hP hD hS⟩ rfl hn hl.1 hst (lv_room hcat) d hcs) hS (fun q _ h => hF q h) hF ?_
  intro u t H1 locs1 ht hvm hp hb hz hk1 hS1
  obtain ⟨b1, b2, b3⟩ := hb
  rw [ht] at b1
  obtain ⟨j1, j2⟩ := wj_join hP hD hk1 hF b1 b3
  exact k u hp H1 locs1 ls j1 j2 hS1 hl
end SXN
section SXN2
variable {p : Program} {l : Launch} {e : Env} {R : Room} {s : State} {m : MethodId} {args : Array Value} {below : List Frame} {meth : Method} {c : Code} {Q : State → Prop} {D : va_G} {dA : Nat → ClassId} {sa : String → Nat → Nat} {A : Nat → Prop} {cc : ByteArray} {nL cells slots pc : Nat} {own : String} {w w2 : va_W} {lv lv' : List (Nat × Value)} {st st0 rest : List Value} {cw : Cond} {index : Nat}
theorem ao_call (C : xv_C p l s m args meth c D dA sa A cc nL own (cw :: WT)) : va_AO "Switchboard$Call" s := C.2.2.2.1.2.2.2.2.1.2.1
theorem ao_state (C : xv_C p l s m args meth c D dA sa A cc nL own (cw :: WT)) : va_AO "Switchboard$State" s := C.2.2.2.1.2.2.2.2.1.2.2
theorem xv_newq (C : xv_C p l s m args meth c D dA sa A cc nL own (cw :: WT)) {Cn : String} {t0 : Nat} {cB : ClassId} {n : Int32} {N : Nat} (ht : (tyl dA)[t0]? = some (cB, .object Cn)) (hov : va_AO Cn s) (d : decode cc pc = .ok (.anewarray index, 3)) (hcl : Cond.classLink own index Cn ∈ WT) (hn : ¬ n < 0) (hN : n.toNatClampNeg = N) (hb : N ≤ 100000) (hc : cells + 1 ≤ R.cells) (hs : slots + N ≤ R.slots) (k : ∀ q, xv p l e R s m args below meth c D A nL Q (w ++ [(q, .inl (cB, N, .inr (.inr (.inr (.inr (fun _ => none))))))]) (cells + 1) (slots + N) (pc + 3) lv (.ref q :: st)) : xv p l e R s m args below meth c D A nL Q w cells slots pc lv (.int n :: st) := by
  intro H locs ls hP hD hS hl
  refine va_newq C.1.1 C.1.2.1 C.1.2.2.2.1 (C.1.2.2.2.2 _ (List.mem_cons_of_mem _ hcl)) hov C.2.1 hP hD hS C.2.2.1 hn hN (by omega) hc hs d (fun q cA H1 hK1 hP1 hD1 hS1 => ?_)
  obtain ⟨-, -, -, -, -, e1⟩ := (C.2.1.2 t0 _ ht).2
  obtain ⟨-, -, -, -, -, e2⟩ := (hK1.2 7 _ rfl).2
  have e3 : cA = cB := Option.some.inj (e2.symm.trans e1)
  subst e3
  exact k q H1 locs ls hP1 hD1 hS1 hl
theorem xv_astq (C : xv_C p l s m args meth c D dA sa A cc nL own (cw :: WT)) {q0 t0 qk ci n v ak : Nat} {r : vw_C} {cA : ClassId} {vs : List Value} {f : Nat → Option Nat} {i : Int32} (d : decode cc pc = .ok (.aastore, 1)) (ha : w[q0]? = some (ak, .inl (cA, n, .inr (.inr (.inr (.inr f)))))) (ht : (tyl dA)[t0]? = some (cA, .object r.1)) (hv : w[qk]? = some (v, .inr (ci, vs))) (hc : vwC[ci]? = some r) (hi : vin i n = true) (h2 : w.set q0 (ak, .inl (cA, n, .inr (.inr (.inr (.inr (va_up f i.toNatClampNeg (some v))))))) = w2) (k : xv p l e R s m args below meth c D A nL Q w2 cells slots (pc + 1) lv st) : xv p l e R s m args below meth c D A nL Q w cells slots pc lv (.ref v :: .int i :: .ref ak :: st) := by
  subst h2
  intro H locs ls hP hD hS hl
  exact va_astq C.1.1 C.1.2.1 C.2.1 hP hD hS q0 t0 qk ci ha ht hv hc (vin_of hi) d (fun H1 locs1 hP1 hD1 hS1 => k H1 locs1 ls hP1 hD1 hS1 hl)
end SXN2
