theorem wd_gl {a b : va_W} {i : Nat} {p : Nat × va_E} (h : a[i]? = some p) : (a ++ b)[i]? = some p := by
  rw [List.getElem?_append_left (List.getElem?_eq_some_iff.mp h).1]; exact h
theorem wd_gr {a b : va_W} {i : Nat} {p : Nat × va_E} (h : b[i]? = some p) : (a ++ b)[a.length + i]? = some p := by
  rw [List.getElem?_append_right (by omega), Nat.add_sub_cancel_left]; exact h
theorem wd_l {A : Nat → Prop} {a b : va_W} (h : va_D A (a ++ b)) : va_D A a := ⟨fun i j p q hi hj e => h.1 i j p q (wd_gl hi) (wd_gl hj) e, fun k q hk => h.2 k q (wd_gl hk)⟩
theorem wd_r {A : Nat → Prop} {a b : va_W} (h : va_D A (a ++ b)) : va_D A b := ⟨fun i j p q hi hj e => by have := h.1 _ _ p q (wd_gr (a := a) hi) (wd_gr hj) e; omega, fun k q hk => h.2 _ q (wd_gr hk)⟩
theorem wd_x {A : Nat → Prop} {a b : va_W} (h : va_D A (a ++ b)) (i j : Nat) (p q : Nat × va_E) (hi : a[i]? = some p) (hj : b[j]? = some q) : p.1 ≠ q.1 := fun e => by
  have := h.1 _ _ p q (wd_gl hi) (wd_gr (a := a) hj) e
  have := (List.getElem?_eq_some_iff.mp hi).1
  omega
theorem wp_l {D : va_G} {cl : List vw_C} {a b : va_W} {H : Heap} (h : va_P D cl (a ++ b) H) : va_P D cl a H := fun k q hk => h k q (wd_gl hk)
theorem wp_r {D : va_G} {cl : List vw_C} {a b : va_W} {H : Heap} (h : va_P D cl (a ++ b) H) : va_P D cl b H := fun k q hk => h _ q (wd_gr hk)
theorem wp_kept {D : va_G} {cl : List vw_C} {a w0 : va_W} {H H1 : Heap} (h : va_P D cl a H) (hx : ∀ (i j : Nat) (p q : Nat × va_E), a[i]? = some p → w0[j]? = some q → p.1 ≠ q.1) (hk : ∀ q : Nat, q < H.size → ¬ va_A w0 H.size q → H1[q]? = H[q]?) : va_P D cl a H1 :=
  h.kept fun k q hq => hk q.1 (h k q hq).lt (fun z => by
    rcases z with ⟨j, x, hj⟩ | z
    · exact hx k j q (q.1, x) hq hj rfl
    · have := (h k q hq).lt; omega)
theorem wd_new {a w0 w1 : va_W} {H : Heap} {D : va_G} {cl : List vw_C} (h : va_P D cl a H) (hx : ∀ (i j : Nat) (p q : Nat × va_E), a[i]? = some p → w0[j]? = some q → p.1 ≠ q.1) (h1 : va_D (va_A w0 H.size) w1) (i j : Nat) (p q : Nat × va_E) (hi : a[i]? = some p) (hj : w1[j]? = some q) : p.1 ≠ q.1 := fun e => by
  rcases h1.2 j q hj with ⟨k, x, hk⟩ | z
  · exact hx i k p (q.1, x) hi hk e
  · have := (h i p hi).lt; omega
/-- behind a call on the part w0: the other parts stay -/
theorem wj_join {A : Nat → Prop} {D : va_G} {cl : List vw_C} {pre w0 w1 post : va_W} {H H1 : Heap} (hP : va_P D cl (pre ++ (w0 ++ post)) H) (hD : va_D A (pre ++ (w0 ++ post))) (hk : ∀ q : Nat, q < H.size → ¬ va_A w0 H.size q → H1[q]? = H[q]?) (hF : ∀ q, va_A w0 H.size q → A q) (hP1 : va_P D cl w1 H1) (hD1 : va_D (va_A w0 H.size) w1) :
    va_P D cl (pre ++ (w1 ++ post)) H1 ∧ va_D A (pre ++ (w1 ++ post)) := by
  have d2 := wd_r hD
  have x1 : ∀ (i j : Nat) (p q : Nat × va_E), pre[i]? = some p → w0[j]? = some q → p.1 ≠ q.1 := fun i j p q hi hj => wd_x hD i j p q hi (wd_gl hj)
  have x2 : ∀ (i j : Nat) (p q : Nat × va_E), post[i]? = some p → w0[j]? = some q → p.1 ≠ q.1 := fun i j p q hi hj e => wd_x d2 j i q p hj hi e.symm
  have p1 := wp_l hP
  have p2 := wp_r (wp_r hP)
  refine ⟨va_P.app (wp_kept p1 x1 hk) (va_P.app hP1 (wp_kept p2 x2 hk)), va_D.app (wd_l hD) (va_D.app (hD1.weaken (fun _ q _ h => hF q.1 h)) (wd_r d2) (fun i j p q hi hj e => wd_new p2 x2 hD1 j i q p hj hi e.symm)) (fun i j p q hi hj e => ?_)⟩
  by_cases hlt : j < w1.length
  · rw [List.getElem?_append_left hlt] at hj
    exact wd_new p1 x1 hD1 i j p q hi hj e
  · rw [List.getElem?_append_right (by omega)] at hj
    exact wd_x hD i _ p q hi (wd_gr hj) e
theorem wf_free {A : Nat → Prop} {D : va_G} {cl : List vw_C} {pre w0 post : va_W} {H0 H : Heap} {locs : List Loc} (hP : va_P D cl (pre ++ (w0 ++ post)) H) (hD : va_D A (pre ++ (w0 ++ post))) (hS : va_S A H0 H locs) (hA : ∀ q : Nat, H0.size ≤ q → A q) : ∀ q, va_A w0 H.size q → A q := fun q h => by
  rcases h with ⟨k, x, hk⟩ | h
  · exact (wd_l (wd_r hD)).2 k (q, x) hk
  · exact hA q (Nat.le_trans hS.1 h)
section SXR
variable {p : Program} {l : Launch} {e : Env} {R : Room} {s : State} {m : MethodId} {args : Array Value} {below : List Frame} {meth : Method} {c : Code} {H : Heap} {locs : List Loc} {cells slots : Nat} {Q : State → Prop}
variable {mc ms : Nat} {free : Addr → Prop} {A0 A1 : Nat → Prop} {H0 : Heap} {a : Array Value} {pc : Nat} {ls : Array Slot} {st0 rest : List Value}
theorem xx_callr {S SX : Type} {post : S → Prop} {px : SX → Prop} {B : S → Nat → State → Prop} {BX : String → SX → State → Prop} {AX : Nat → Prop} (hr : vx_Run p l e R s m args below meth c H locs cells slots mc ms (F0 m pc ls st0) rest (va_Qr post B A1 a) (vx_X px BX AX) free) (hS : va_S A0 H0 H locs) (hA : ∀ q, q < H.size → A1 q → A0 q) (hf : ∀ q, free q → A0 q) (hAX : ∀ q, q < H.size → AX q → A0 q)
    (kx : ∀ (E : String) (ce : Cell) (q9 : Addr) (u : SX) (t : State) (H1 : Heap) (locs1 : List Loc), t.heap = H1 → s.vm.Alike t.vm → px u → BX E u t → H.size ≤ H1.size → (∀ q : Nat, q < H.size → ¬ AX q → H1[q]? = H[q]?) → va_S A0 H0 H1 locs1 → H1[q9]? = some ce → ce.vm = .none → s.vm.findClass E = some ce.cls → vx_W p l e R s m args below meth c H1 locs1 (cells + mc) (slots + ms) Q (F0 m pc ls rest) q9)
    (kk : ∀ (u : S) (r : Nat) (t : State) (H1 : Heap) (locs1 : List Loc), t.heap = H1 → s.vm.Alike t.vm → post u → B u r t → H.size ≤ H1.size → (∀ q : Nat, q < H.size → ¬ A1 q → H1[q]? = H[q]?) → va_S A0 H0 H1 locs1 → W p l e R s m args below meth c H1 locs1 (cells + mc) (slots + ms) Q (F0 m (pc + 3) ls (.ref r :: rest))) : W p l e R s m args below meth c H locs cells slots Q (F0 m pc ls st0) := by
  intro T hT X
  rcases hr T hT X with ⟨v, st₀, t, T', L, h0, X', hL, e1, e2, ⟨⟨u, r, hv, hp, hb⟩, hF⟩, st⟩ | ⟨q, st₀, t, T', L, E, ce, h0, X', hL, e1, e2, ⟨u, hp, hb, hF⟩, hce, hcv, hcl, st⟩
  · cases hv
    obtain ⟨k1, k2, k3⟩ := vx_keep h0 e1 hS hA hf hL hF
    obtain ⟨t2, a1, b1⟩ := kk u r t T'.heap (locs ++ L) e1.symm (by rw [← e2]; exact X'.warmed.alike) hp hb k1 k2 k3 T' rfl X'
    exact ⟨t2, st t2 a1, b1⟩
  · obtain ⟨k1, k2, k3⟩ := vx_keep h0 e1 hS hAX hf hL hF
    obtain ⟨t2, a1, b1⟩ := kx E ce q u t T'.heap (locs ++ L) e1.symm (by rw [← e2]; exact X'.warmed.alike) hp hb k1 k2 k3 (by rw [e1]; exact hce) hcv hcl T' rfl X'
    exact ⟨t2, st.trans a1, b1⟩
end SXR
section SXD
variable {p : Program} {l : Launch} {e : Env} {R : Room} {s : State} {m : MethodId} {args : Array Value} {below : List Frame} {meth : Method} {c : Code} {Q : State → Prop} {D : va_G} {dA : Nat → ClassId} {sa : String → Nat → Nat} {A : Nat → Prop} {cc : ByteArray} {nL cells slots pc : Nat} {own : String} {w w2 : va_W} {lv lv' : List (Nat × Value)} {st st0 rest : List Value}
variable {cw : Cond} {y : MethodName} {bytes : ByteArray} {maxL n index : Nat} {ret : Option FieldType} {rm : Room} {As : List Value} {b : Nat} {pre post w0 w1 : va_W}
theorem xq_pre (C : xv_C p l s m args meth c D dA sa A cc nL own (cw :: WT)) {al : List Value} {H : Heap} {locs : List Loc} (hP : va_P D vwC (pre ++ (w0 ++ post)) H) (hD : va_D A (pre ++ (w0 ++ post))) (hS : va_S A s.heap H locs) : ∀ U : State, U.heap = H → s.WarmedH U.vm → xP D dA sa al w0 H.size al.toArray U := fun U hU hW =>
  ⟨rfl, by rw [hU], by rw [hU]; exact wp_l (wp_r hP), va_K.moved hW.alike C.2.1, (wd_l (wd_r hD)).weaken (fun _ _ _ _ => trivial), by
    rw [hU]
    exact xe_warm hW (xe_narrow (xe_kept C.2.2.2.1 hS.2.1) (wf_free hP hD hS C.2.2.1))⟩

theorem xv_callVi (C : xv_C p l s m args meth c D dA sa A cc nL own (cw :: WT)) {v : Int32} (M : CTi l D dA sa y (wz y bytes maxL ret) rm (.ref b :: As) w0 v w1) (f : cfV y bytes maxL ret n) (hk9 : Cond.methodLink own index y ∈ WT) (hrc : ∃ (q0 ci : Nat) (fs : List Value) (T : u_T) (N : Nat), w0[q0]? = some (b, .inr (ci, fs)) ∧ vwC[ci]? = some (y.cls, T, N)) (hn : As.length = n) (hR : rm.frames + 1 ≤ R.frames ∧ 8 + (maxL + 11) + rm.locals ≤ R.locals) (hst : st0 = As.reverse ++ .ref b :: st) (hcat : (st.map fun v => v.category).sum ≤ 8) (d : decode cc pc = .ok (.invokevirtual index, 3)) (hcs : cells + rm.cells ≤ R.cells ∧ slots + rm.slots ≤ R.slots) (hw : w = pre ++ (w0 ++ post)) (hw2 : w2 = pre ++ (w1 ++ post)) (k : xv p l e R s m args below meth c D A nL Q w2 (cells + rm.cells) (slots + rm.slots) (pc + 3) lv (.int v :: st)) : xv p l e R s m args below meth c D A nL Q w cells slots pc lv st0 := by
  intro H locs ls hP hD hS hl
  subst hw; subst hw2
  obtain ⟨q0, ci, fs, T, N, hq0, hvc⟩ := hrc
  have hF := wf_free hP hD hS C.2.2.1
  refine va_calli (va_runV (As := As) (rest := st) C.1 (M H.size) (cwV n C.1.2.2.2.2 (gi_wt (ws := wsV own index y.cls y (wz y bytes maxL ret)) (fun x hx => by
      rcases List.mem_append.mp hx with h | h
      · rcases List.mem_cons.mp h with rfl | h
        · exact hk9
        · rcases List.mem_cons.mp h with rfl | h
          · exact f.2.1
          · rcases List.mem_cons.mp h with rfl | h
            · exact f.2.2
            · rcases List.mem_cons.mp h with rfl | h
              · exact f.1.2.1
              · exact absurd h List.not_mem_nil
      · rcases List.mem_cons.mp h with rfl | h
        · exact f.1.2.2
        · exact h)) rfl rfl rfl ⟨rfl, f.1.1⟩ hR) ⟨xP_blind, va_recv C.2.1 (wp_l (wp_r hP)) hvc hq0, xq_pre C hP hD hS⟩ rfl hn hl.1 hst (lv_room hcat) d hcs) hS (fun q _ h => hF q h) hF ?_
  intro r9 u t H1 locs1 ht hvm hp hb hz hk1 hS1
  obtain ⟨b1, b2, b3⟩ := hb
  rw [ht] at b1
  obtain ⟨j1, j2⟩ := wj_join hP hD hk1 hF b1 b3
  have hp : r9 = v := hp
  subst hp
  exact k H1 locs1 ls j1 j2 hS1 hl
theorem xv_callVi0 (C : xv_C p l s m args meth c D dA sa A cc nL own (cw :: WT)) {v : Int32} (M : CTi l D dA sa y (wz y bytes maxL ret) rm (.ref b :: As) w v w2) (f : cfV y bytes maxL ret n) (hk9 : Cond.methodLink own index y ∈ WT) (hrc : ∃ (q0 ci : Nat) (fs : List Value) (T : u_T) (N : Nat), w[q0]? = some (b, .inr (ci, fs)) ∧ vwC[ci]? = some (y.cls, T, N)) (hn : As.length = n) (hR : rm.frames + 1 ≤ R.frames ∧ 8 + (maxL + 11) + rm.locals ≤ R.locals) (hst : st0 = As.reverse ++ .ref b :: st) (hcat : (st.map fun v => v.category).sum ≤ 8) (d : decode cc pc = .ok (.invokevirtual index, 3)) (hcs : cells + rm.cells ≤ R.cells ∧ slots + rm.slots ≤ R.slots) (k : xv p l e R s m args below meth c D A nL Q w2 (cells + rm.cells) (slots + rm.slots) (pc + 3) lv (.int v :: st)) : xv p l e R s m args below meth c D A nL Q w cells slots pc lv st0 :=
  xv_callVi C M f hk9 hrc hn hR hst hcat d hcs (pre := []) (post := []) (by simp) (by simp) k
theorem xv_callVl (C : xv_C p l s m args meth c D dA sa A cc nL own (cw :: WT)) {v : Int64} (M : CTl l D dA sa y (wz y bytes maxL ret) rm (.ref b :: As) w0 v w1) (f : cfV y bytes maxL ret n) (hk9 : Cond.methodLink own index y ∈ WT) (hrc : ∃ (q0 ci : Nat) (fs : List Value) (T : u_T) (N : Nat), w0[q0]? = some (b, .inr (ci, fs)) ∧ vwC[ci]? = some (y.cls, T, N)) (hn : As.length = n) (hR : rm.frames + 1 ≤ R.frames ∧ 8 + (maxL + 11) + rm.locals ≤ R.locals) (hst : st0 = As.reverse ++ .ref b :: st) (hcat : (st.map fun v => v.category).sum ≤ 8) (d : decode cc pc = .ok (.invokevirtual index, 3)) (hcs : cells + rm.cells ≤ R.cells ∧ slots + rm.slots ≤ R.slots) (hw : w = pre ++ (w0 ++ post)) (hw2 : w2 = pre ++ (w1 ++ post)) (k : xv p l e R s m args below meth c D A nL Q w2 (cells + rm.cells) (slots + rm.slots) (pc + 3) lv (.long v :: st)) : xv p l e R s m args below meth c D A nL Q w cells slots pc lv st0 := by
  intro H locs ls hP hD hS hl
  subst hw; subst hw2
  obtain ⟨q0, ci, fs, T, N, hq0, hvc⟩ := hrc
  have hF := wf_free hP hD hS C.2.2.1
  refine va_calll (va_runV (As := As) (rest := st) C.1 (M H.size) (cwV n C.1.2.2.2.2 (gi_wt (ws := wsV own index y.cls y (wz y bytes maxL ret)) (fun x hx => by
      rcases List.mem_append.mp hx with h | h
      · rcases List.mem_cons.mp h with rfl | h
        · exact hk9
        · rcases List.mem_cons.mp h with rfl | h
          · exact f.2.1
          · rcases List.mem_cons.mp h with rfl | h
            · exact f.2.2
            · rcases List.mem_cons.mp h with rfl | h
              · exact f.1.2.1
              · exact absurd h List.not_mem_nil
      · rcases List.mem_cons.mp h with rfl | h
        · exact f.1.2.2
        · exact h)) rfl rfl rfl ⟨rfl, f.1.1⟩ hR) ⟨xP_blind, va_recv C.2.1 (wp_l (wp_r hP)) hvc hq0, xq_pre C hP hD hS⟩ rfl hn hl.1 hst (lv_room hcat) d hcs) hS (fun q _ h => hF q h) hF ?_
  intro r9 u t H1 locs1 ht hvm hp hb hz hk1 hS1
  obtain ⟨b1, b2, b3⟩ := hb
  rw [ht] at b1
  obtain ⟨j1, j2⟩ := wj_join hP hD hk1 hF b1 b3
  have hp : r9 = v := hp
  subst hp
  exact k H1 locs1 ls j1 j2 hS1 hl
theorem xv_callVl0 (C : xv_C p l s m args meth c D dA sa A cc nL own (cw :: WT)) {v : Int64} (M : CTl l D dA sa y (wz y bytes maxL ret) rm (.ref b :: As) w v w2) (f : cfV y bytes maxL ret n) (hk9 : Cond.methodLink own index y ∈ WT) (hrc : ∃ (q0 ci : Nat) (fs : List Value) (T : u_T) (N : Nat), w[q0]? = some (b, .inr (ci, fs)) ∧ vwC[ci]? = some (y.cls, T, N)) (hn : As.length = n) (hR : rm.frames + 1 ≤ R.frames ∧ 8 + (maxL + 11) + rm.locals ≤ R.locals) (hst : st0 = As.reverse ++ .ref b :: st) (hcat : (st.map fun v => v.category).sum ≤ 8) (d : decode cc pc = .ok (.invokevirtual index, 3)) (hcs : cells + rm.cells ≤ R.cells ∧ slots + rm.slots ≤ R.slots) (k : xv p l e R s m args below meth c D A nL Q w2 (cells + rm.cells) (slots + rm.slots) (pc + 3) lv (.long v :: st)) : xv p l e R s m args below meth c D A nL Q w cells slots pc lv st0 :=
  xv_callVl C M f hk9 hrc hn hR hst hcat d hcs (pre := []) (post := []) (by simp) (by simp) k
theorem xv_callVv (C : xv_C p l s m args meth c D dA sa A cc nL own (cw :: WT)) (M : CTv l D dA sa y (wz y bytes maxL ret) rm (.ref b :: As) w0 w1) (f : cfV y bytes maxL ret n) (hk9 : Cond.methodLink own index y ∈ WT) (hrc : ∃ (q0 ci : Nat) (fs : List Value) (T : u_T) (N : Nat), w0[q0]? = some (b, .inr (ci, fs)) ∧ vwC[ci]? = some (y.cls, T, N)) (hn : As.length = n) (hR : rm.frames + 1 ≤ R.frames ∧ 8 + (maxL + 11) + rm.locals ≤ R.locals) (hst : st0 = As.reverse ++ .ref b :: st) (hcat : (st.map fun v => v.category).sum ≤ 8) (d : decode cc pc = .ok (.invokevirtual index, 3)) (hcs : cells + rm.cells ≤ R.cells ∧ slots + rm.slots ≤ R.slots) (hw : w = pre ++ (w0 ++ post)) (hw2 : w2 = pre ++ (w1 ++ post)) (k : xv p l e R s m args below meth c D A nL Q w2 (cells + rm.cells) (slots + rm.slots) (pc + 3) lv (st)) : xv p l e R s m args below meth c D A nL Q w cells slots pc lv st0 := by
  intro H locs ls hP hD hS hl
  subst hw; subst hw2
  obtain ⟨q0, ci, fs, T, N, hq0, hvc⟩ := hrc
  have hF := wf_free hP hD hS C.2.2.1
  refine va_callv (va_runV (As := As) (rest := st) C.1 (M H.size) (cwV n C.1.2.2.2.2 (gi_wt (ws := wsV own index y.cls y (wz y bytes maxL ret)) (fun x hx => by
      rcases List.mem_append.mp hx with h | h
      · rcases List.mem_cons.mp h with rfl | h
        · exact hk9
        · rcases List.mem_cons.mp h with rfl | h
          · exact f.2.1
          · rcases List.mem_cons.mp h with rfl | h
            · exact f.2.2
            · rcases List.mem_cons.mp h with rfl | h
              · exact f.1.2.1
              · exact absurd h List.not_mem_nil
      · rcases List.mem_cons.mp h with rfl | h
        · exact f.1.2.2
        · exact h)) rfl rfl rfl ⟨rfl, f.1.1⟩ hR) ⟨xP_blind, va_recv C.2.1 (wp_l (wp_r hP)) hvc hq0, xq_pre C hP hD hS⟩ rfl hn hl.1 hst (lv_room hcat) d hcs) hS (fun q _ h => hF q h) hF ?_
  intro u t H1 locs1 ht hvm hp hb hz hk1 hS1
  obtain ⟨b1, b2, b3⟩ := hb
  rw [ht] at b1
  obtain ⟨j1, j2⟩ := wj_join hP hD hk1 hF b1 b3
  exact k H1 locs1 ls j1 j2 hS1 hl
theorem xv_callVv0 (C : xv_C p l s m args meth c D dA sa A cc nL own (cw :: WT)) (M : CTv l D dA sa y (wz y bytes maxL ret) rm (.ref b :: As) w w2) (f : cfV y bytes maxL ret n) (hk9 : Cond.methodLink own index y ∈ WT) (hrc : ∃ (q0 ci : Nat) (fs : List Value) (T : u_T) (N : Nat), w[q0]? = some (b, .inr (ci, fs)) ∧ vwC[ci]? = some (y.cls, T, N)) (hn : As.length = n) (hR : rm.frames + 1 ≤ R.frames ∧ 8 + (maxL + 11) + rm.locals ≤ R.locals) (hst : st0 = As.reverse ++ .ref b :: st) (hcat : (st.map fun v => v.category).sum ≤ 8) (d : decode cc pc = .ok (.invokevirtual index, 3)) (hcs : cells + rm.cells ≤ R.cells ∧ slots + rm.slots ≤ R.slots) (k : xv p l e R s m args below meth c D A nL Q w2 (cells + rm.cells) (slots + rm.slots) (pc + 3) lv (st)) : xv p l e R s m args below meth c D A nL Q w cells slots pc lv st0 :=
  xv_callVv C M f hk9 hrc hn hR hst hcat d hcs (pre := []) (post := []) (by simp) (by simp) k
theorem xv_callVxi (C : xv_C p l s m args meth c D dA sa A cc nL own (cw :: WT)) {o : Nat ⊕ Int32} (M : CXi l D dA sa y (wz y bytes maxL ret) rm (.ref b :: As) w0 o w1) (f : cfV y bytes maxL ret n) (hk9 : Cond.methodLink own index y ∈ WT) (hrc : ∃ (q0 ci : Nat) (fs : List Value) (T : u_T) (N : Nat), w0[q0]? = some (b, .inr (ci, fs)) ∧ vwC[ci]? = some (y.cls, T, N)) (hn : As.length = n) (hR : rm.frames + 1 ≤ R.frames ∧ 8 + (maxL + 11) + rm.locals ≤ R.locals) (hst : st0 = As.reverse ++ .ref b :: st) (hcat : (st.map fun v => v.category).sum ≤ 8) (d : decode cc pc = .ok (.invokevirtual index, 3)) (hcs : cells + rm.cells ≤ R.cells ∧ slots + rm.slots ≤ R.slots) (hw : w = pre ++ (w0 ++ post)) (hw2 : w2 = pre ++ (w1 ++ post)) (kx : ∀ k9, o = .inl k9 → xvx p l e R s m args below meth c D A nL Q w2 (cells + rm.cells) (slots + rm.slots) pc lv st (xe_nm k9)) (k : ∀ v, o = .inr v → xv p l e R s m args below meth c D A nL Q w2 (cells + rm.cells) (slots + rm.slots) (pc + 3) lv (.int v :: st)) : xv p l e R s m args below meth c D A nL Q w cells slots pc lv st0 := by
  intro H locs ls hP hD hS hl
  subst hw; subst hw2
  obtain ⟨q0, ci, fs, T, N, hq0, hvc⟩ := hrc
  have hF := wf_free hP hD hS C.2.2.1
  refine vx_calli (vx_runV (As := As) (rest := st) C.1 (M H.size) (cwV n C.1.2.2.2.2 (gi_wt (ws := wsV own index y.cls y (wz y bytes maxL ret)) (fun x hx => by
      rcases List.mem_append.mp hx with h | h
      · rcases List.mem_cons.mp h with rfl | h
        · exact hk9
        · rcases List.mem_cons.mp h with rfl | h
          · exact f.2.1
          · rcases List.mem_cons.mp h with rfl | h
            · exact f.2.2
            · rcases List.mem_cons.mp h with rfl | h
              · exact f.1.2.1
              · exact absurd h List.not_mem_nil
      · rcases List.mem_cons.mp h with rfl | h
        · exact f.1.2.2
        · exact h)) rfl rfl rfl ⟨rfl, f.1.1⟩ hR) ⟨xP_blind, va_recv C.2.1 (wp_l (wp_r hP)) hvc hq0, xq_pre C hP hD hS⟩ rfl hn hl.1 hst (lv_room hcat) d hcs) hS (fun q _ h => hF q h) hF (fun q _ h => hF q h) ?_ ?_
  · intro E ce q9 u t H1 locs1 ht hvm hp hb hz hk1 hS1 hce hcv hcl
    obtain ⟨⟨k9, ho, rfl⟩, b1, b2, b3⟩ := hb
    rw [ht] at b1
    obtain ⟨j1, j2⟩ := wj_join hP hD hk1 hF b1 b3
    exact kx k9 ho H1 locs1 ls q9 ce j1 j2 hS1 hl hce hcv hcl
  · intro r9 u t H1 locs1 ht hvm hp hb hz hk1 hS1
    have hp : o = .inr r9 := hp
    obtain ⟨b1, b2, b3⟩ := hb
    rw [ht] at b1
    obtain ⟨j1, j2⟩ := wj_join hP hD hk1 hF b1 b3
    exact k r9 hp H1 locs1 ls j1 j2 hS1 hl
theorem xv_callVxi0 (C : xv_C p l s m args meth c D dA sa A cc nL own (cw :: WT)) {o : Nat ⊕ Int32} (M : CXi l D dA sa y (wz y bytes maxL ret) rm (.ref b :: As) w o w2) (f : cfV y bytes maxL ret n) (hk9 : Cond.methodLink own index y ∈ WT) (hrc : ∃ (q0 ci : Nat) (fs : List Value) (T : u_T) (N : Nat), w[q0]? = some (b, .inr (ci, fs)) ∧ vwC[ci]? = some (y.cls, T, N)) (hn : As.length = n) (hR : rm.frames + 1 ≤ R.frames ∧ 8 + (maxL + 11) + rm.locals ≤ R.locals) (hst : st0 = As.reverse ++ .ref b :: st) (hcat : (st.map fun v => v.category).sum ≤ 8) (d : decode cc pc = .ok (.invokevirtual index, 3)) (hcs : cells + rm.cells ≤ R.cells ∧ slots + rm.slots ≤ R.slots) (kx : ∀ k9, o = .inl k9 → xvx p l e R s m args below meth c D A nL Q w2 (cells + rm.cells) (slots + rm.slots) pc lv st (xe_nm k9)) (k : ∀ v, o = .inr v → xv p l e R s m args below meth c D A nL Q w2 (cells + rm.cells) (slots + rm.slots) (pc + 3) lv (.int v :: st)) : xv p l e R s m args below meth c D A nL Q w cells slots pc lv st0 :=
  xv_callVxi C M f hk9 hrc hn hR hst hcat d hcs (pre := []) (post := []) (by simp) (by simp) kx k
theorem xv_callVxv (C : xv_C p l s m args meth c D dA sa A cc nL own (cw :: WT)) {o : Nat ⊕ Unit} (M : CXv l D dA sa y (wz y bytes maxL ret) rm (.ref b :: As) w0 o w1) (f : cfV y bytes maxL ret n) (hk9 : Cond.methodLink own index y ∈ WT) (hrc : ∃ (q0 ci : Nat) (fs : List Value) (T : u_T) (N : Nat), w0[q0]? = some (b, .inr (ci, fs)) ∧ vwC[ci]? = some (y.cls, T, N)) (hn : As.length = n) (hR : rm.frames + 1 ≤ R.frames ∧ 8 + (maxL + 11) + rm.locals ≤ R.locals) (hst : st0 = As.reverse ++ .ref b :: st) (hcat : (st.map fun v => v.category).sum ≤ 8) (d : decode cc pc = .ok (.invokevirtual index, 3)) (hcs : cells + rm.cells ≤ R.cells ∧ slots + rm.slots ≤ R.slots) (hw : w = pre ++ (w0 ++ post)) (hw2 : w2 = pre ++ (w1 ++ post)) (kx : ∀ k9, o = .inl k9 → xvx p l e R s m args below meth c D A nL Q w2 (cells + rm.cells) (slots + rm.slots) pc lv st (xe_nm k9)) (k : o = .inr () → xv p l e R s m args below meth c D A nL Q w2 (cells + rm.cells) (slots + rm.slots) (pc + 3) lv (st)) : xv p l e R s m args below meth c D A nL Q w cells slots pc lv st0 := by
  intro H locs ls hP hD hS hl
  subst hw; subst hw2
  obtain ⟨q0, ci, fs, T, N, hq0, hvc⟩ := hrc
  have hF := wf_free hP hD hS C.2.2.1
  refine vx_callv (vx_runV (As := As) (rest := st) C.1 (M H.size) (cwV n C.1.2.2.2.2 (gi_wt (ws := wsV own index y.cls y (wz y bytes maxL ret)) (fun x hx => by
      rcases List.mem_append.mp hx with h | h
      · rcases List.mem_cons.mp h with rfl | h
        · exact hk9
        · rcases List.mem_cons.mp h with rfl | h
          · exact f.2.1
          · rcases List.mem_cons.mp h with rfl | h
            · exact f.2.2
            · rcases List.mem_cons.mp h with rfl | h
              · exact f.1.2.1
              · exact absurd h List.not_mem_nil
      · rcases List.mem_cons.mp h with rfl | h
        · exact f.1.2.2
        · exact h)) rfl rfl rfl ⟨rfl, f.1.1⟩ hR) ⟨xP_blind, va_recv C.2.1 (wp_l (wp_r hP)) hvc hq0, xq_pre C hP hD hS⟩ rfl hn hl.1 hst (lv_room hcat) d hcs) hS (fun q _ h => hF q h) hF (fun q _ h => hF q h) ?_ ?_
  · intro E ce q9 u t H1 locs1 ht hvm hp hb hz hk1 hS1 hce hcv hcl
    obtain ⟨⟨k9, ho, rfl⟩, b1, b2, b3⟩ := hb
    rw [ht] at b1
    obtain ⟨j1, j2⟩ := wj_join hP hD hk1 hF b1 b3
    exact kx k9 ho H1 locs1 ls q9 ce j1 j2 hS1 hl hce hcv hcl
  · intro u t H1 locs1 ht hvm hp hb hz hk1 hS1
    have hp : o = .inr () := hp
    obtain ⟨b1, b2, b3⟩ := hb
    rw [ht] at b1
    obtain ⟨j1, j2⟩ := wj_join hP hD hk1 hF b1 b3
    exact k hp H1 locs1 ls j1 j2 hS1 hl
theorem xv_callVxv0 (C : xv_C p l s m args meth c D dA sa A cc nL own (cw :: WT)) {o : Nat ⊕ Unit} (M : CXv l D dA sa y (wz y bytes maxL ret) rm (.ref b :: As) w o w2) (f : cfV y bytes maxL ret n) (hk9 : Cond.methodLink own index y ∈ WT) (hrc : ∃ (q0 ci : Nat) (fs : List Value) (T : u_T) (N : Nat), w[q0]? = some (b, .inr (ci, fs)) ∧ vwC[ci]? = some (y.cls, T, N)) (hn : As.length = n) (hR : rm.frames + 1 ≤ R.frames ∧ 8 + (maxL + 11) + rm.locals ≤ R.locals) (hst : st0 = As.reverse ++ .ref b :: st) (hcat : (st.map fun v => v.category).sum ≤ 8) (d : decode cc pc = .ok (.invokevirtual index, 3)) (hcs : cells + rm.cells ≤ R.cells ∧ slots + rm.slots ≤ R.slots) (kx : ∀ k9, o = .inl k9 → xvx p l e R s m args below meth c D A nL Q w2 (cells + rm.cells) (slots + rm.slots) pc lv st (xe_nm k9)) (k : o = .inr () → xv p l e R s m args below meth c D A nL Q w2 (cells + rm.cells) (slots + rm.slots) (pc + 3) lv (st)) : xv p l e R s m args below meth c D A nL Q w cells slots pc lv st0 :=
  xv_callVxv C M f hk9 hrc hn hR hst hcat d hcs (pre := []) (post := []) (by simp) (by simp) kx k
theorem xv_callVxr (C : xv_C p l s m args meth c D dA sa A cc nL own (cw :: WT)) {o : Nat ⊕ Nat} {ad : Nat → Nat} (M : CXr l D dA sa y (wz y bytes maxL ret) rm (.ref b :: As) w0 ad o w1) (f : cfV y bytes maxL ret n) (hk9 : Cond.methodLink own index y ∈ WT) (hrc : ∃ (q0 ci : Nat) (fs : List Value) (T : u_T) (N : Nat), w0[q0]? = some (b, .inr (ci, fs)) ∧ vwC[ci]? = some (y.cls, T, N)) (hn : As.length = n) (hR : rm.frames + 1 ≤ R.frames ∧ 8 + (maxL + 11) + rm.locals ≤ R.locals) (hst : st0 = As.reverse ++ .ref b :: st) (hcat : (st.map fun v => v.category).sum ≤ 8) (d : decode cc pc = .ok (.invokevirtual index, 3)) (hcs : cells + rm.cells ≤ R.cells ∧ slots + rm.slots ≤ R.slots) (hw : w = pre ++ (w0 ++ post)) (hw2 : w2 = pre ++ (w1 ++ post)) (kx : ∀ k9, o = .inl k9 → xvx p l e R s m args below meth c D A nL Q w2 (cells + rm.cells) (slots + rm.slots) pc lv st (xe_nm k9)) (k : ∀ v, o = .inr v → xv p l e R s m args below meth c D A nL Q w2 (cells + rm.cells) (slots + rm.slots) (pc + 3) lv (.ref (ad v) :: st)) : xv p l e R s m args below meth c D A nL Q w cells slots pc lv st0 := by
  intro H locs ls hP hD hS hl
  subst hw; subst hw2
  obtain ⟨q0, ci, fs, T, N, hq0, hvc⟩ := hrc
  have hF := wf_free hP hD hS C.2.2.1
  refine xx_callr (vx_runV (As := As) (rest := st) C.1 (M H.size) (cwV n C.1.2.2.2.2 (gi_wt (ws := wsV own index y.cls y (wz y bytes maxL ret)) (fun x hx => by
      rcases List.mem_append.mp hx with h | h
      · rcases List.mem_cons.mp h with rfl | h
        · exact hk9
        · rcases List.mem_cons.mp h with rfl | h
          · exact f.2.1
          · rcases List.mem_cons.mp h with rfl | h
            · exact f.2.2
            · rcases List.mem_cons.mp h with rfl | h
              · exact f.1.2.1
              · exact absurd h List.not_mem_nil
      · rcases List.mem_cons.mp h with rfl | h
        · exact f.1.2.2
        · exact h)) rfl rfl rfl ⟨rfl, f.1.1⟩ hR) ⟨xP_blind, va_recv C.2.1 (wp_l (wp_r hP)) hvc hq0, xq_pre C hP hD hS⟩ rfl hn hl.1 hst (lv_room hcat) d hcs) hS (fun q _ h => hF q h) hF (fun q _ h => hF q h) ?_ ?_
  · intro E ce q9 u t H1 locs1 ht hvm hp hb hz hk1 hS1 hce hcv hcl
    obtain ⟨⟨k9, ho, rfl⟩, b1, b2, b3⟩ := hb
    rw [ht] at b1
    obtain ⟨j1, j2⟩ := wj_join hP hD hk1 hF b1 b3
    exact kx k9 ho H1 locs1 ls q9 ce j1 j2 hS1 hl hce hcv hcl
  · intro u a9 t H1 locs1 ht hvm hp hb hz hk1 hS1
    obtain ⟨⟨r9, hp, rfl⟩, b1, b2, b3⟩ := hb
    rw [ht] at b1
    obtain ⟨j1, j2⟩ := wj_join hP hD hk1 hF b1 b3
    exact k r9 hp H1 locs1 ls j1 j2 hS1 hl
theorem xv_callVxr0 (C : xv_C p l s m args meth c D dA sa A cc nL own (cw :: WT)) {o : Nat ⊕ Nat} {ad : Nat → Nat} (M : CXr l D dA sa y (wz y bytes maxL ret) rm (.ref b :: As) w ad o w2) (f : cfV y bytes maxL ret n) (hk9 : Cond.methodLink own index y ∈ WT) (hrc : ∃ (q0 ci : Nat) (fs : List Value) (T : u_T) (N : Nat), w[q0]? = some (b, .inr (ci, fs)) ∧ vwC[ci]? = some (y.cls, T, N)) (hn : As.length = n) (hR : rm.frames + 1 ≤ R.frames ∧ 8 + (maxL + 11) + rm.locals ≤ R.locals) (hst : st0 = As.reverse ++ .ref b :: st) (hcat : (st.map fun v => v.category).sum ≤ 8) (d : decode cc pc = .ok (.invokevirtual index, 3)) (hcs : cells + rm.cells ≤ R.cells ∧ slots + rm.slots ≤ R.slots) (kx : ∀ k9, o = .inl k9 → xvx p l e R s m args below meth c D A nL Q w2 (cells + rm.cells) (slots + rm.slots) pc lv st (xe_nm k9)) (k : ∀ v, o = .inr v → xv p l e R s m args below meth c D A nL Q w2 (cells + rm.cells) (slots + rm.slots) (pc + 3) lv (.ref (ad v) :: st)) : xv p l e R s m args below meth c D A nL Q w cells slots pc lv st0 :=
  xv_callVxr C M f hk9 hrc hn hR hst hcat d hcs (pre := []) (post := []) (by simp) (by simp) kx k
theorem xv_callSi (C : xv_C p l s m args meth c D dA sa A cc nL own (cw :: WT)) {v : Int32} (M : CTi l D dA sa y (wz y bytes maxL ret) rm As w0 v w1) (f : cfS y bytes maxL ret n) (hk9 : Cond.methodLink own index y ∈ WT) (hn : As.length = n) (hR : rm.frames + 1 ≤ R.frames ∧ 8 + (maxL + 11) + rm.locals ≤ R.locals) (hst : st0 = As.reverse ++ st) (hcat : (st.map fun v => v.category).sum ≤ 8) (d : decode cc pc = .ok (.invokestatic index, 3)) (hcs : cells + rm.cells ≤ R.cells ∧ slots + rm.slots ≤ R.slots) (hw : w = pre ++ (w0 ++ post)) (hw2 : w2 = pre ++ (w1 ++ post)) (k : xv p l e R s m args below meth c D A nL Q w2 (cells + rm.cells) (slots + rm.slots) (pc + 3) lv (.int v :: st)) : xv p l e R s m args below meth c D A nL Q w cells slots pc lv st0 := by
  intro H locs ls hP hD hS hl
  subst hw; subst hw2
  have hF := wf_free hP hD hS C.2.2.1
  refine va_calli (va_runS (As := As) (rest := st) C.1 (M H.size) ⟨callB_of (index := index) (own := own) n C.1.2.2.2.2 (gi_wt (ws := wz y bytes maxL ret) (fun x hx => by
      rcases List.mem_cons.mp hx with rfl | h
      · exact f.1.2.2
      · exact h)) rfl rfl rfl (C.1.2.2.2.2 _ (List.mem_cons_of_mem _ f.1.2.1)) (C.1.2.2.2.2 _ (List.mem_cons_of_mem _ hk9)) f.1.1 hR, C.1.2.2.2.2 _ (List.mem_cons_of_mem _ f.2)⟩ ⟨xP_blind, xq_pre C hP hD hS⟩ rfl hn hl.1 hst (lv_room hcat) d hcs) hS (fun q _ h => hF q h) hF ?_
  intro r9 u t H1 locs1 ht hvm hp hb hz hk1 hS1
  obtain ⟨b1, b2, b3⟩ := hb
  rw [ht] at b1
  obtain ⟨j1, j2⟩ := wj_join hP hD hk1 hF b1 b3
  have hp : r9 = v := hp
  subst hp
  exact k H1 locs1 ls j1 j2 hS1 hl
theorem xv_callSi0 (C : xv_C p l s m args meth c D dA sa A cc nL own (cw :: WT)) {v : Int32} (M : CTi l D dA sa y (wz y bytes maxL ret) rm As w v w2) (f : cfS y bytes maxL ret n) (hk9 : Cond.methodLink own index y ∈ WT) (hn : As.length = n) (hR : rm.frames + 1 ≤ R.frames ∧ 8 + (maxL + 11) + rm.locals ≤ R.locals) (hst : st0 = As.reverse ++ st) (hcat : (st.map fun v => v.category).sum ≤ 8) (d : decode cc pc = .ok (.invokestatic index, 3)) (hcs : cells + rm.cells ≤ R.cells ∧ slots + rm.slots ≤ R.slots) (k : xv p l e R s m args below meth c D A nL Q w2 (cells + rm.cells) (slots + rm.slots) (pc + 3) lv (.int v :: st)) : xv p l e R s m args below meth c D A nL Q w cells slots pc lv st0 :=
  xv_callSi C M f hk9 hn hR hst hcat d hcs (pre := []) (post := []) (by simp) (by simp) k
theorem xv_callSl (C : xv_C p l s m args meth c D dA sa A cc nL own (cw :: WT)) {v : Int64} (M : CTl l D dA sa y (wz y bytes maxL ret) rm As w0 v w1) (f : cfS y bytes maxL ret n) (hk9 : Cond.methodLink own index y ∈ WT) (hn : As.length = n) (hR : rm.frames + 1 ≤ R.frames ∧ 8 + (maxL + 11) + rm.locals ≤ R.locals) (hst : st0 = As.reverse ++ st) (hcat : (st.map fun v => v.category).sum ≤ 8) (d : decode cc pc = .ok (.invokestatic index, 3)) (hcs : cells + rm.cells ≤ R.cells ∧ slots + rm.slots ≤ R.slots) (hw : w = pre ++ (w0 ++ post)) (hw2 : w2 = pre ++ (w1 ++ post)) (k : xv p l e R s m args below meth c D A nL Q w2 (cells + rm.cells) (slots + rm.slots) (pc + 3) lv (.long v :: st)) : xv p l e R s m args below meth c D A nL Q w cells slots pc lv st0 := by
  intro H locs ls hP hD hS hl
  subst hw; subst hw2
  have hF := wf_free hP hD hS C.2.2.1
  refine va_calll (va_runS (As := As) (rest := st) C.1 (M H.size) ⟨callB_of (index := index) (own := own) n C.1.2.2.2.2 (gi_wt (ws := wz y bytes maxL ret) (fun x hx => by
      rcases List.mem_cons.mp hx with rfl | h
      · exact f.1.2.2
      · exact h)) rfl rfl rfl (C.1.2.2.2.2 _ (List.mem_cons_of_mem _ f.1.2.1)) (C.1.2.2.2.2 _ (List.mem_cons_of_mem _ hk9)) f.1.1 hR, C.1.2.2.2.2 _ (List.mem_cons_of_mem _ f.2)⟩ ⟨xP_blind, xq_pre C hP hD hS⟩ rfl hn hl.1 hst (lv_room hcat) d hcs) hS (fun q _ h => hF q h) hF ?_
  intro r9 u t H1 locs1 ht hvm hp hb hz hk1 hS1
  obtain ⟨b1, b2, b3⟩ := hb
  rw [ht] at b1
  obtain ⟨j1, j2⟩ := wj_join hP hD hk1 hF b1 b3
  have hp : r9 = v := hp
  subst hp
  exact k H1 locs1 ls j1 j2 hS1 hl
theorem xv_callSl0 (C : xv_C p l s m args meth c D dA sa A cc nL own (cw :: WT)) {v : Int64} (M : CTl l D dA sa y (wz y bytes maxL ret) rm As w v w2) (f : cfS y bytes maxL ret n) (hk9 : Cond.methodLink own index y ∈ WT) (hn : As.length = n) (hR : rm.frames + 1 ≤ R.frames ∧ 8 + (maxL + 11) + rm.locals ≤ R.locals) (hst : st0 = As.reverse ++ st) (hcat : (st.map fun v => v.category).sum ≤ 8) (d : decode cc pc = .ok (.invokestatic index, 3)) (hcs : cells + rm.cells ≤ R.cells ∧ slots + rm.slots ≤ R.slots) (k : xv p l e R s m args below meth c D A nL Q w2 (cells + rm.cells) (slots + rm.slots) (pc + 3) lv (.long v :: st)) : xv p l e R s m args below meth c D A nL Q w cells slots pc lv st0 :=
  xv_callSl C M f hk9 hn hR hst hcat d hcs (pre := []) (post := []) (by simp) (by simp) k
theorem xv_callSv (C : xv_C p l s m args meth c D dA sa A cc nL own (cw :: WT)) (M : CTv l D dA sa y (wz y bytes maxL ret) rm As w0 w1) (f : cfS y bytes maxL ret n) (hk9 : Cond.methodLink own index y ∈ WT) (hn : As.length = n) (hR : rm.frames + 1 ≤ R.frames ∧ 8 + (maxL + 11) + rm.locals ≤ R.locals) (hst : st0 = As.reverse ++ st) (hcat : (st.map fun v => v.category).sum ≤ 8) (d : decode cc pc = .ok (.invokestatic index, 3)) (hcs : cells + rm.cells ≤ R.cells ∧ slots + rm.slots ≤ R.slots) (hw : w = pre ++ (w0 ++ post)) (hw2 : w2 = pre ++ (w1 ++ post)) (k : xv p l e R s m args below meth c D A nL Q w2 (cells + rm.cells) (slots + rm.slots) (pc + 3) lv (st)) : xv p l e R s m args below meth c D A nL Q w cells slots pc lv st0 := by
  intro H locs ls hP hD hS hl
  subst hw; subst hw2
  have hF := wf_free hP hD hS C.2.2.1
  refine va_callv (va_runS (As := As) (rest := st) C.1 (M H.size) ⟨callB_of (index := index) (own := own) n C.1.2.2.2.2 (gi_wt (ws := wz y bytes maxL ret) (fun x hx => by
      rcases List.mem_cons.mp hx with rfl | h
      · exact f.1.2.2
      · exact h)) rfl rfl rfl (C.1.2.2.2.2 _ (List.mem_cons_of_mem _ f.1.2.1)) (C.1.2.2.2.2 _ (List.mem_cons_of_mem _ hk9)) f.1.1 hR, C.1.2.2.2.2 _ (List.mem_cons_of_mem _ f.2)⟩ ⟨xP_blind, xq_pre C hP hD hS⟩ rfl hn hl.1 hst (lv_room hcat) d hcs) hS (fun q _ h => hF q h) hF ?_
  intro u t H1 locs1 ht hvm hp hb hz hk1 hS1
  obtain ⟨b1, b2, b3⟩ := hb
  rw [ht] at b1
  obtain ⟨j1, j2⟩ := wj_join hP hD hk1 hF b1 b3
  exact k H1 locs1 ls j1 j2 hS1 hl
theorem xv_callSv0 (C : xv_C p l s m args meth c D dA sa A cc nL own (cw :: WT)) (M : CTv l D dA sa y (wz y bytes maxL ret) rm As w w2) (f : cfS y bytes maxL ret n) (hk9 : Cond.methodLink own index y ∈ WT) (hn : As.length = n) (hR : rm.frames + 1 ≤ R.frames ∧ 8 + (maxL + 11) + rm.locals ≤ R.locals) (hst : st0 = As.reverse ++ st) (hcat : (st.map fun v => v.category).sum ≤ 8) (d : decode cc pc = .ok (.invokestatic index, 3)) (hcs : cells + rm.cells ≤ R.cells ∧ slots + rm.slots ≤ R.slots) (k : xv p l e R s m args below meth c D A nL Q w2 (cells + rm.cells) (slots + rm.slots) (pc + 3) lv (st)) : xv p l e R s m args below meth c D A nL Q w cells slots pc lv st0 :=
  xv_callSv C M f hk9 hn hR hst hcat d hcs (pre := []) (post := []) (by simp) (by simp) k
theorem xv_callSxi (C : xv_C p l s m args meth c D dA sa A cc nL own (cw :: WT)) {o : Nat ⊕ Int32} (M : CXi l D dA sa y (wz y bytes maxL ret) rm As w0 o w1) (f : cfS y bytes maxL ret n) (hk9 : Cond.methodLink own index y ∈ WT) (hn : As.length = n) (hR : rm.frames + 1 ≤ R.frames ∧ 8 + (maxL + 11) + rm.locals ≤ R.locals) (hst : st0 = As.reverse ++ st) (hcat : (st.map fun v => v.category).sum ≤ 8) (d : decode cc pc = .ok (.invokestatic index, 3)) (hcs : cells + rm.cells ≤ R.cells ∧ slots + rm.slots ≤ R.slots) (hw : w = pre ++ (w0 ++ post)) (hw2 : w2 = pre ++ (w1 ++ post)) (kx : ∀ k9, o = .inl k9 → xvx p l e R s m args below meth c D A nL Q w2 (cells + rm.cells) (slots + rm.slots) pc lv st (xe_nm k9)) (k : ∀ v, o = .inr v → xv p l e R s m args below meth c D A nL Q w2 (cells + rm.cells) (slots + rm.slots) (pc + 3) lv (.int v :: st)) : xv p l e R s m args below meth c D A nL Q w cells slots pc lv st0 := by
  intro H locs ls hP hD hS hl
  subst hw; subst hw2
  have hF := wf_free hP hD hS C.2.2.1
  refine vx_calli (vx_runS (As := As) (rest := st) C.1 (M H.size) ⟨callB_of (index := index) (own := own) n C.1.2.2.2.2 (gi_wt (ws := wz y bytes maxL ret) (fun x hx => by
      rcases List.mem_cons.mp hx with rfl | h
      · exact f.1.2.2
      · exact h)) rfl rfl rfl (C.1.2.2.2.2 _ (List.mem_cons_of_mem _ f.1.2.1)) (C.1.2.2.2.2 _ (List.mem_cons_of_mem _ hk9)) f.1.1 hR, C.1.2.2.2.2 _ (List.mem_cons_of_mem _ f.2)⟩ ⟨xP_blind, xq_pre C hP hD hS⟩ rfl hn hl.1 hst (lv_room hcat) d hcs) hS (fun q _ h => hF q h) hF (fun q _ h => hF q h) ?_ ?_
  · intro E ce q9 u t H1 locs1 ht hvm hp hb hz hk1 hS1 hce hcv hcl
    obtain ⟨⟨k9, ho, rfl⟩, b1, b2, b3⟩ := hb
    rw [ht] at b1
    obtain ⟨j1, j2⟩ := wj_join hP hD hk1 hF b1 b3
    exact kx k9 ho H1 locs1 ls q9 ce j1 j2 hS1 hl hce hcv hcl
  · intro r9 u t H1 locs1 ht hvm hp hb hz hk1 hS1
    have hp : o = .inr r9 := hp
    obtain ⟨b1, b2, b3⟩ := hb
    rw [ht] at b1
    obtain ⟨j1, j2⟩ := wj_join hP hD hk1 hF b1 b3
    exact k r9 hp H1 locs1 ls j1 j2 hS1 hl
theorem xv_callSxi0 (C : xv_C p l s m args meth c D dA sa A cc nL own (cw :: WT)) {o : Nat ⊕ Int32} (M : CXi l D dA sa y (wz y bytes maxL ret) rm As w o w2) (f : cfS y bytes maxL ret n) (hk9 : Cond.methodLink own index y ∈ WT) (hn : As.length = n) (hR : rm.frames + 1 ≤ R.frames ∧ 8 + (maxL + 11) + rm.locals ≤ R.locals) (hst : st0 = As.reverse ++ st) (hcat : (st.map fun v => v.category).sum ≤ 8) (d : decode cc pc = .ok (.invokestatic index, 3)) (hcs : cells + rm.cells ≤ R.cells ∧ slots + rm.slots ≤ R.slots) (kx : ∀ k9, o = .inl k9 → xvx p l e R s m args below meth c D A nL Q w2 (cells + rm.cells) (slots + rm.slots) pc lv st (xe_nm k9)) (k : ∀ v, o = .inr v → xv p l e R s m args below meth c D A nL Q w2 (cells + rm.cells) (slots + rm.slots) (pc + 3) lv (.int v :: st)) : xv p l e R s m args below meth c D A nL Q w cells slots pc lv st0 :=
  xv_callSxi C M f hk9 hn hR hst hcat d hcs (pre := []) (post := []) (by simp) (by simp) kx k
theorem xv_callSxv (C : xv_C p l s m args meth c D dA sa A cc nL own (cw :: WT)) {o : Nat ⊕ Unit} (M : CXv l D dA sa y (wz y bytes maxL ret) rm As w0 o w1) (f : cfS y bytes maxL ret n) (hk9 : Cond.methodLink own index y ∈ WT) (hn : As.length = n) (hR : rm.frames + 1 ≤ R.frames ∧ 8 + (maxL + 11) + rm.locals ≤ R.locals) (hst : st0 = As.reverse ++ st) (hcat : (st.map fun v => v.category).sum ≤ 8) (d : decode cc pc = .ok (.invokestatic index, 3)) (hcs : cells + rm.cells ≤ R.cells ∧ slots + rm.slots ≤ R.slots) (hw : w = pre ++ (w0 ++ post)) (hw2 : w2 = pre ++ (w1 ++ post)) (kx : ∀ k9, o = .inl k9 → xvx p l e R s m args below meth c D A nL Q w2 (cells + rm.cells) (slots + rm.slots) pc lv st (xe_nm k9)) (k : o = .inr () → xv p l e R s m args below meth c D A nL Q w2 (cells + rm.cells) (slots + rm.slots) (pc + 3) lv (st)) : xv p l e R s m args below meth c D A nL Q w cells slots pc lv st0 := by
  intro H locs ls hP hD hS hl
  subst hw; subst hw2
  have hF := wf_free hP hD hS C.2.2.1
  refine vx_callv (vx_runS (As := As) (rest := st) C.1 (M H.size) ⟨callB_of (index := index) (own := own) n C.1.2.2.2.2 (gi_wt (ws := wz y bytes maxL ret) (fun x hx => by
      rcases List.mem_cons.mp hx with rfl | h
      · exact f.1.2.2
      · exact h)) rfl rfl rfl (C.1.2.2.2.2 _ (List.mem_cons_of_mem _ f.1.2.1)) (C.1.2.2.2.2 _ (List.mem_cons_of_mem _ hk9)) f.1.1 hR, C.1.2.2.2.2 _ (List.mem_cons_of_mem _ f.2)⟩ ⟨xP_blind, xq_pre C hP hD hS⟩ rfl hn hl.1 hst (lv_room hcat) d hcs) hS (fun q _ h => hF q h) hF (fun q _ h => hF q h) ?_ ?_
  · intro E ce q9 u t H1 locs1 ht hvm hp hb hz hk1 hS1 hce hcv hcl
    obtain ⟨⟨k9, ho, rfl⟩, b1, b2, b3⟩ := hb
    rw [ht] at b1
    obtain ⟨j1, j2⟩ := wj_join hP hD hk1 hF b1 b3
    exact kx k9 ho H1 locs1 ls q9 ce j1 j2 hS1 hl hce hcv hcl
  · intro u t H1 locs1 ht hvm hp hb hz hk1 hS1
    have hp : o = .inr () := hp
    obtain ⟨b1, b2, b3⟩ := hb
    rw [ht] at b1
    obtain ⟨j1, j2⟩ := wj_join hP hD hk1 hF b1 b3
    exact k hp H1 locs1 ls j1 j2 hS1 hl
theorem xv_callSxv0 (C : xv_C p l s m args meth c D dA sa A cc nL own (cw :: WT)) {o : Nat ⊕ Unit} (M : CXv l D dA sa y (wz y bytes maxL ret) rm As w o w2) (f : cfS y bytes maxL ret n) (hk9 : Cond.methodLink own index y ∈ WT) (hn : As.length = n) (hR : rm.frames + 1 ≤ R.frames ∧ 8 + (maxL + 11) + rm.locals ≤ R.locals) (hst : st0 = As.reverse ++ st) (hcat : (st.map fun v => v.category).sum ≤ 8) (d : decode cc pc = .ok (.invokestatic index, 3)) (hcs : cells + rm.cells ≤ R.cells ∧ slots + rm.slots ≤ R.slots) (kx : ∀ k9, o = .inl k9 → xvx p l e R s m args below meth c D A nL Q w2 (cells + rm.cells) (slots + rm.slots) pc lv st (xe_nm k9)) (k : o = .inr () → xv p l e R s m args below meth c D A nL Q w2 (cells + rm.cells) (slots + rm.slots) (pc + 3) lv (st)) : xv p l e R s m args below meth c D A nL Q w cells slots pc lv st0 :=
  xv_callSxv C M f hk9 hn hR hst hcat d hcs (pre := []) (post := []) (by simp) (by simp) kx k
theorem xv_callSxr (C : xv_C p l s m args meth c D dA sa A cc nL own (cw :: WT)) {o : Nat ⊕ Nat} {ad : Nat → Nat} (M : CXr l D dA sa y (wz y bytes maxL ret) rm As w0 ad o w1) (f : cfS y bytes maxL ret n) (hk9 : Cond.methodLink own index y ∈ WT) (hn : As.length = n) (hR : rm.frames + 1 ≤ R.frames ∧ 8 + (maxL + 11) + rm.locals ≤ R.locals) (hst : st0 = As.reverse ++ st) (hcat : (st.map fun v => v.category).sum ≤ 8) (d : decode cc pc = .ok (.invokestatic index, 3)) (hcs : cells + rm.cells ≤ R.cells ∧ slots + rm.slots ≤ R.slots) (hw : w = pre ++ (w0 ++ post)) (hw2 : w2 = pre ++ (w1 ++ post)) (kx : ∀ k9, o = .inl k9 → xvx p l e R s m args below meth c D A nL Q w2 (cells + rm.cells) (slots + rm.slots) pc lv st (xe_nm k9)) (k : ∀ v, o = .inr v → xv p l e R s m args below meth c D A nL Q w2 (cells + rm.cells) (slots + rm.slots) (pc + 3) lv (.ref (ad v) :: st)) : xv p l e R s m args below meth c D A nL Q w cells slots pc lv st0 := by
  intro H locs ls hP hD hS hl
  subst hw; subst hw2
  have hF := wf_free hP hD hS C.2.2.1
  refine xx_callr (vx_runS (As := As) (rest := st) C.1 (M H.size) ⟨callB_of (index := index) (own := own) n C.1.2.2.2.2 (gi_wt (ws := wz y bytes maxL ret) (fun x hx => by
      rcases List.mem_cons.mp hx with rfl | h
      · exact f.1.2.2
      · exact h)) rfl rfl rfl (C.1.2.2.2.2 _ (List.mem_cons_of_mem _ f.1.2.1)) (C.1.2.2.2.2 _ (List.mem_cons_of_mem _ hk9)) f.1.1 hR, C.1.2.2.2.2 _ (List.mem_cons_of_mem _ f.2)⟩ ⟨xP_blind, xq_pre C hP hD hS⟩ rfl hn hl.1 hst (lv_room hcat) d hcs) hS (fun q _ h => hF q h) hF (fun q _ h => hF q h) ?_ ?_
  · intro E ce q9 u t H1 locs1 ht hvm hp hb hz hk1 hS1 hce hcv hcl
    obtain ⟨⟨k9, ho, rfl⟩, b1, b2, b3⟩ := hb
    rw [ht] at b1
    obtain ⟨j1, j2⟩ := wj_join hP hD hk1 hF b1 b3
    exact kx k9 ho H1 locs1 ls q9 ce j1 j2 hS1 hl hce hcv hcl
  · intro u a9 t H1 locs1 ht hvm hp hb hz hk1 hS1
    obtain ⟨⟨r9, hp, rfl⟩, b1, b2, b3⟩ := hb
    rw [ht] at b1
    obtain ⟨j1, j2⟩ := wj_join hP hD hk1 hF b1 b3
    exact k r9 hp H1 locs1 ls j1 j2 hS1 hl
theorem xv_callSxr0 (C : xv_C p l s m args meth c D dA sa A cc nL own (cw :: WT)) {o : Nat ⊕ Nat} {ad : Nat → Nat} (M : CXr l D dA sa y (wz y bytes maxL ret) rm As w ad o w2) (f : cfS y bytes maxL ret n) (hk9 : Cond.methodLink own index y ∈ WT) (hn : As.length = n) (hR : rm.frames + 1 ≤ R.frames ∧ 8 + (maxL + 11) + rm.locals ≤ R.locals) (hst : st0 = As.reverse ++ st) (hcat : (st.map fun v => v.category).sum ≤ 8) (d : decode cc pc = .ok (.invokestatic index, 3)) (hcs : cells + rm.cells ≤ R.cells ∧ slots + rm.slots ≤ R.slots) (kx : ∀ k9, o = .inl k9 → xvx p l e R s m args below meth c D A nL Q w2 (cells + rm.cells) (slots + rm.slots) pc lv st (xe_nm k9)) (k : ∀ v, o = .inr v → xv p l e R s m args below meth c D A nL Q w2 (cells + rm.cells) (slots + rm.slots) (pc + 3) lv (.ref (ad v) :: st)) : xv p l e R s m args below meth c D A nL Q w cells slots pc lv st0 :=
  xv_callSxr C M f hk9 hn hR hst hcat d hcs (pre := []) (post := []) (by simp) (by simp) kx k
theorem xv_callNi (C : xv_C p l s m args meth c D dA sa A cc nL own (cw :: WT)) {v : Int32} (M : CTi l D dA sa y (wz y bytes maxL ret) rm As w0 v w1) (f : cfS y bytes maxL ret n) {host : String} (hk9 : (own, index, y, host) ∈ xe_N) (hn : As.length = n) (hR : rm.frames + 1 ≤ R.frames ∧ 8 + (maxL + 11) + rm.locals ≤ R.locals) (hst : st0 = As.reverse ++ st) (hcat : (st.map fun v => v.category).sum ≤ 8) (d : decode cc pc = .ok (.invokestatic index, 3)) (hcs : cells + rm.cells ≤ R.cells ∧ slots + rm.slots ≤ R.slots) (hw : w = pre ++ (w0 ++ post)) (hw2 : w2 = pre ++ (w1 ++ post)) (k : xv p l e R s m args below meth c D A nL Q w2 (cells + rm.cells) (slots + rm.slots) (pc + 3) lv (.int v :: st)) : xv p l e R s m args below meth c D A nL Q w cells slots pc lv st0 := by
  intro H locs ls hP hD hS hl
  subst hw; subst hw2
  have hF := wf_free hP hD hS C.2.2.1
  refine va_calli (va_runSN (As := As) (rest := st) C.1 (M H.size) ⟨va_cnB (host := host) (index := index) n C.1.2.2.2.2 (gi_wt (ws := wz y bytes maxL ret) (fun x hx => by
      rcases List.mem_cons.mp hx with rfl | h
      · exact f.1.2.2
      · exact h)) rfl rfl rfl (C.2.2.2.1.2.2.1 _ hk9) (C.1.2.2.2.2 _ (List.mem_cons_of_mem _ f.1.2.1)) f.1.1 hR, C.1.2.2.2.2 _ (List.mem_cons_of_mem _ f.2), trivial⟩ ⟨xP_blind, xq_pre C hP hD hS⟩ rfl hn hl.1 hst (lv_room hcat) d hcs) hS (fun q _ h => hF q h) hF ?_
  intro r9 u t H1 locs1 ht hvm hp hb hz hk1 hS1
  obtain ⟨b1, b2, b3⟩ := hb
  rw [ht] at b1
  obtain ⟨j1, j2⟩ := wj_join hP hD hk1 hF b1 b3
  have hp : r9 = v := hp
  subst hp
  exact k H1 locs1 ls j1 j2 hS1 hl
theorem xv_callNi0 (C : xv_C p l s m args meth c D dA sa A cc nL own (cw :: WT)) {v : Int32} (M : CTi l D dA sa y (wz y bytes maxL ret) rm As w v w2) (f : cfS y bytes maxL ret n) {host : String} (hk9 : (own, index, y, host) ∈ xe_N) (hn : As.length = n) (hR : rm.frames + 1 ≤ R.frames ∧ 8 + (maxL + 11) + rm.locals ≤ R.locals) (hst : st0 = As.reverse ++ st) (hcat : (st.map fun v => v.category).sum ≤ 8) (d : decode cc pc = .ok (.invokestatic index, 3)) (hcs : cells + rm.cells ≤ R.cells ∧ slots + rm.slots ≤ R.slots) (k : xv p l e R s m args below meth c D A nL Q w2 (cells + rm.cells) (slots + rm.slots) (pc + 3) lv (.int v :: st)) : xv p l e R s m args below meth c D A nL Q w cells slots pc lv st0 :=
  xv_callNi C M f hk9 hn hR hst hcat d hcs (pre := []) (post := []) (by simp) (by simp) k
theorem xv_callNl (C : xv_C p l s m args meth c D dA sa A cc nL own (cw :: WT)) {v : Int64} (M : CTl l D dA sa y (wz y bytes maxL ret) rm As w0 v w1) (f : cfS y bytes maxL ret n) {host : String} (hk9 : (own, index, y, host) ∈ xe_N) (hn : As.length = n) (hR : rm.frames + 1 ≤ R.frames ∧ 8 + (maxL + 11) + rm.locals ≤ R.locals) (hst : st0 = As.reverse ++ st) (hcat : (st.map fun v => v.category).sum ≤ 8) (d : decode cc pc = .ok (.invokestatic index, 3)) (hcs : cells + rm.cells ≤ R.cells ∧ slots + rm.slots ≤ R.slots) (hw : w = pre ++ (w0 ++ post)) (hw2 : w2 = pre ++ (w1 ++ post)) (k : xv p l e R s m args below meth c D A nL Q w2 (cells + rm.cells) (slots + rm.slots) (pc + 3) lv (.long v :: st)) : xv p l e R s m args below meth c D A nL Q w cells slots pc lv st0 := by
  intro H locs ls hP hD hS hl
  subst hw; subst hw2
  have hF := wf_free hP hD hS C.2.2.1
  refine va_calll (va_runSN (As := As) (rest := st) C.1 (M H.size) ⟨va_cnB (host := host) (index := index) n C.1.2.2.2.2 (gi_wt (ws := wz y bytes maxL ret) (fun x hx => by
      rcases List.mem_cons.mp hx with rfl | h
      · exact f.1.2.2
      · exact h)) rfl rfl rfl (C.2.2.2.1.2.2.1 _ hk9) (C.1.2.2.2.2 _ (List.mem_cons_of_mem _ f.1.2.1)) f.1.1 hR, C.1.2.2.2.2 _ (List.mem_cons_of_mem _ f.2), trivial⟩ ⟨xP_blind, xq_pre C hP hD hS⟩ rfl hn hl.1 hst (lv_room hcat) d hcs) hS (fun q _ h => hF q h) hF ?_
  intro r9 u t H1 locs1 ht hvm hp hb hz hk1 hS1
  obtain ⟨b1, b2, b3⟩ := hb
  rw [ht] at b1
  obtain ⟨j1, j2⟩ := wj_join hP hD hk1 hF b1 b3
  have hp : r9 = v := hp
  subst hp
  exact k H1 locs1 ls j1 j2 hS1 hl
theorem xv_callNl0 (C : xv_C p l s m args meth c D dA sa A cc nL own (cw :: WT)) {v : Int64} (M : CTl l D dA sa y (wz y bytes maxL ret) rm As w v w2) (f : cfS y bytes maxL ret n) {host : String} (hk9 : (own, index, y, host) ∈ xe_N) (hn : As.length = n) (hR : rm.frames + 1 ≤ R.frames ∧ 8 + (maxL + 11) + rm.locals ≤ R.locals) (hst : st0 = As.reverse ++ st) (hcat : (st.map fun v => v.category).sum ≤ 8) (d : decode cc pc = .ok (.invokestatic index, 3)) (hcs : cells + rm.cells ≤ R.cells ∧ slots + rm.slots ≤ R.slots) (k : xv p l e R s m args below meth c D A nL Q w2 (cells + rm.cells) (slots + rm.slots) (pc + 3) lv (.long v :: st)) : xv p l e R s m args below meth c D A nL Q w cells slots pc lv st0 :=
  xv_callNl C M f hk9 hn hR hst hcat d hcs (pre := []) (post := []) (by simp) (by simp) k
theorem xv_callNv (C : xv_C p l s m args meth c D dA sa A cc nL own (cw :: WT)) (M : CTv l D dA sa y (wz y bytes maxL ret) rm As w0 w1) (f : cfS y bytes maxL ret n) {host : String} (hk9 : (own, index, y, host) ∈ xe_N) (hn : As.length = n) (hR : rm.frames + 1 ≤ R.frames ∧ 8 + (maxL + 11) + rm.locals ≤ R.locals) (hst : st0 = As.reverse ++ st) (hcat : (st.map fun v => v.category).sum ≤ 8) (d : decode cc pc = .ok (.invokestatic index, 3)) (hcs : cells + rm.cells ≤ R.cells ∧ slots + rm.slots ≤ R.slots) (hw : w = pre ++ (w0 ++ post)) (hw2 : w2 = pre ++ (w1 ++ post)) (k : xv p l e R s m args below meth c D A nL Q w2 (cells + rm.cells) (slots + rm.slots) (pc + 3) lv (st)) : xv p l e R s m args below meth c D A nL Q w cells slots pc lv st0 := by
  intro H locs ls hP hD hS hl
  subst hw; subst hw2
  have hF := wf_free hP hD hS C.2.2.1
  refine va_callv (va_runSN (As := As) (rest := st) C.1 (M H.size) ⟨va_cnB (host := host) (index := index) n C.1.2.2.2.2 (gi_wt (ws := wz y bytes maxL ret) (fun x hx => by
      rcases List.mem_cons.mp hx with rfl | h
      · exact f.1.2.2
      · exact h)) rfl rfl rfl (C.2.2.2.1.2.2.1 _ hk9) (C.1.2.2.2.2 _ (List.mem_cons_of_mem _ f.1.2.1)) f.1.1 hR, C.1.2.2.2.2 _ (List.mem_cons_of_mem _ f.2), trivial⟩ ⟨xP_blind, xq_pre C hP hD hS⟩ rfl hn hl.1 hst (lv_room hcat) d hcs) hS (fun q _ h => hF q h) hF ?_
  intro u t H1 locs1 ht hvm hp hb hz hk1 hS1
  obtain ⟨b1, b2, b3⟩ := hb
  rw [ht] at b1
  obtain ⟨j1, j2⟩ := wj_join hP hD hk1 hF b1 b3
  exact k H1 locs1 ls j1 j2 hS1 hl
theorem xv_callNv0 (C : xv_C p l s m args meth c D dA sa A cc nL own (cw :: WT)) (M : CTv l D dA sa y (wz y bytes maxL ret) rm As w w2) (f : cfS y bytes maxL ret n) {host : String} (hk9 : (own, index, y, host) ∈ xe_N) (hn : As.length = n) (hR : rm.frames + 1 ≤ R.frames ∧ 8 + (maxL + 11) + rm.locals ≤ R.locals) (hst : st0 = As.reverse ++ st) (hcat : (st.map fun v => v.category).sum ≤ 8) (d : decode cc pc = .ok (.invokestatic index, 3)) (hcs : cells + rm.cells ≤ R.cells ∧ slots + rm.slots ≤ R.slots) (k : xv p l e R s m args below meth c D A nL Q w2 (cells + rm.cells) (slots + rm.slots) (pc + 3) lv (st)) : xv p l e R s m args below meth c D A nL Q w cells slots pc lv st0 :=
  xv_callNv C M f hk9 hn hR hst hcat d hcs (pre := []) (post := []) (by simp) (by simp) k
theorem xv_callTi (C : xv_C p l s m args meth c D dA sa A cc nL own (cw :: WT)) {v : Int32} (M : CTi l D dA sa y (wz y bytes maxL ret) rm (.ref b :: As) w0 v w1) (f : cfV y bytes maxL ret n) (hk9 : Cond.methodLink own index y ∈ WT) (hcl9 : y.cls = "java/lang/String") {i9 : Nat} (hi9 : i9 < 9) (hb9 : b = sa "Switchboard$Program" (xe_si i9)) (hn : As.length = n) (hR : rm.frames + 1 ≤ R.frames ∧ 8 + (maxL + 11) + rm.locals ≤ R.locals) (hst : st0 = As.reverse ++ .ref b :: st) (hcat : (st.map fun v => v.category).sum ≤ 8) (d : decode cc pc = .ok (.invokevirtual index, 3)) (hcs : cells + rm.cells ≤ R.cells ∧ slots + rm.slots ≤ R.slots) (hw : w = pre ++ (w0 ++ post)) (hw2 : w2 = pre ++ (w1 ++ post)) (k : xv p l e R s m args below meth c D A nL Q w2 (cells + rm.cells) (slots + rm.slots) (pc + 3) lv (.int v :: st)) : xv p l e R s m args below meth c D A nL Q w cells slots pc lv st0 := by
  intro H locs ls hP hD hS hl
  subst hw; subst hw2
  have hF := wf_free hP hD hS C.2.2.1
  refine va_calli (va_runV (As := As) (rest := st) C.1 (M H.size) (cwV n C.1.2.2.2.2 (gi_wt (ws := wsV own index y.cls y (wz y bytes maxL ret)) (fun x hx => by
      rcases List.mem_append.mp hx with h | h
      · rcases List.mem_cons.mp h with rfl | h
        · exact hk9
        · rcases List.mem_cons.mp h with rfl | h
          · exact f.2.1
          · rcases List.mem_cons.mp h with rfl | h
            · exact f.2.2
            · rcases List.mem_cons.mp h with rfl | h
              · exact f.1.2.1
              · exact absurd h List.not_mem_nil
      · rcases List.mem_cons.mp h with rfl | h
        · exact f.1.2.2
        · exact h)) rfl rfl rfl ⟨rfl, f.1.1⟩ hR) ⟨xP_blind, (by rw [hb9, hcl9]; exact vk_recv (adK := fun i => sa "Switchboard$Program" (xe_si i)) (i := i9) C.2.2.2.1.2.2.2.2.2.2.1 hi9 hS), xq_pre C hP hD hS⟩ rfl hn hl.1 hst (lv_room hcat) d hcs) hS (fun q _ h => hF q h) hF ?_
  intro r9 u t H1 locs1 ht hvm hp hb hz hk1 hS1
  obtain ⟨b1, b2, b3⟩ := hb
  rw [ht] at b1
  obtain ⟨j1, j2⟩ := wj_join hP hD hk1 hF b1 b3
  have hp : r9 = v := hp
  subst hp
  exact k H1 locs1 ls j1 j2 hS1 hl
theorem xv_callTi0 (C : xv_C p l s m args meth c D dA sa A cc nL own (cw :: WT)) {v : Int32} (M : CTi l D dA sa y (wz y bytes maxL ret) rm (.ref b :: As) w v w2) (f : cfV y bytes maxL ret n) (hk9 : Cond.methodLink own index y ∈ WT) (hcl9 : y.cls = "java/lang/String") {i9 : Nat} (hi9 : i9 < 9) (hb9 : b = sa "Switchboard$Program" (xe_si i9)) (hn : As.length = n) (hR : rm.frames + 1 ≤ R.frames ∧ 8 + (maxL + 11) + rm.locals ≤ R.locals) (hst : st0 = As.reverse ++ .ref b :: st) (hcat : (st.map fun v => v.category).sum ≤ 8) (d : decode cc pc = .ok (.invokevirtual index, 3)) (hcs : cells + rm.cells ≤ R.cells ∧ slots + rm.slots ≤ R.slots) (k : xv p l e R s m args below meth c D A nL Q w2 (cells + rm.cells) (slots + rm.slots) (pc + 3) lv (.int v :: st)) : xv p l e R s m args below meth c D A nL Q w cells slots pc lv st0 :=
  xv_callTi C M f hk9 hcl9 hi9 hb9 hn hR hst hcat d hcs (pre := []) (post := []) (by simp) (by simp) k
theorem xv_callTl (C : xv_C p l s m args meth c D dA sa A cc nL own (cw :: WT)) {v : Int64} (M : CTl l D dA sa y (wz y bytes maxL ret) rm (.ref b :: As) w0 v w1) (f : cfV y bytes maxL ret n) (hk9 : Cond.methodLink own index y ∈ WT) (hcl9 : y.cls = "java/lang/String") {i9 : Nat} (hi9 : i9 < 9) (hb9 : b = sa "Switchboard$Program" (xe_si i9)) (hn : As.length = n) (hR : rm.frames + 1 ≤ R.frames ∧ 8 + (maxL + 11) + rm.locals ≤ R.locals) (hst : st0 = As.reverse ++ .ref b :: st) (hcat : (st.map fun v => v.category).sum ≤ 8) (d : decode cc pc = .ok (.invokevirtual index, 3)) (hcs : cells + rm.cells ≤ R.cells ∧ slots + rm.slots ≤ R.slots) (hw : w = pre ++ (w0 ++ post)) (hw2 : w2 = pre ++ (w1 ++ post)) (k : xv p l e R s m args below meth c D A nL Q w2 (cells + rm.cells) (slots + rm.slots) (pc + 3) lv (.long v :: st)) : xv p l e R s m args below meth c D A nL Q w cells slots pc lv st0 := by
  intro H locs ls hP hD hS hl
  subst hw; subst hw2
  have hF := wf_free hP hD hS C.2.2.1
  refine va_calll (va_runV (As := As) (rest := st) C.1 (M H.size) (cwV n C.1.2.2.2.2 (gi_wt (ws := wsV own index y.cls y (wz y bytes maxL ret)) (fun x hx => by
      rcases List.mem_append.mp hx with h | h
      · rcases List.mem_cons.mp h with rfl | h
        · exact hk9
        · rcases List.mem_cons.mp h with rfl | h
          · exact f.2.1
          · rcases List.mem_cons.mp h with rfl | h
            · exact f.2.2
            · rcases List.mem_cons.mp h with rfl | h
              · exact f.1.2.1
              · exact absurd h List.not_mem_nil
      · rcases List.mem_cons.mp h with rfl | h
        · exact f.1.2.2
        · exact h)) rfl rfl rfl ⟨rfl, f.1.1⟩ hR) ⟨xP_blind, (by rw [hb9, hcl9]; exact vk_recv (adK := fun i => sa "Switchboard$Program" (xe_si i)) (i := i9) C.2.2.2.1.2.2.2.2.2.2.1 hi9 hS), xq_pre C hP hD hS⟩ rfl hn hl.1 hst (lv_room hcat) d hcs) hS (fun q _ h => hF q h) hF ?_
  intro r9 u t H1 locs1 ht hvm hp hb hz hk1 hS1
  obtain ⟨b1, b2, b3⟩ := hb
  rw [ht] at b1
  obtain ⟨j1, j2⟩ := wj_join hP hD hk1 hF b1 b3
  have hp : r9 = v := hp
  subst hp
  exact k H1 locs1 ls j1 j2 hS1 hl
theorem xv_callTl0 (C : xv_C p l s m args meth c D dA sa A cc nL own (cw :: WT)) {v : Int64} (M : CTl l D dA sa y (wz y bytes maxL ret) rm (.ref b :: As) w v w2) (f : cfV y bytes maxL ret n) (hk9 : Cond.methodLink own index y ∈ WT) (hcl9 : y.cls = "java/lang/String") {i9 : Nat} (hi9 : i9 < 9) (hb9 : b = sa "Switchboard$Program" (xe_si i9)) (hn : As.length = n) (hR : rm.frames + 1 ≤ R.frames ∧ 8 + (maxL + 11) + rm.locals ≤ R.locals) (hst : st0 = As.reverse ++ .ref b :: st) (hcat : (st.map fun v => v.category).sum ≤ 8) (d : decode cc pc = .ok (.invokevirtual index, 3)) (hcs : cells + rm.cells ≤ R.cells ∧ slots + rm.slots ≤ R.slots) (k : xv p l e R s m args below meth c D A nL Q w2 (cells + rm.cells) (slots + rm.slots) (pc + 3) lv (.long v :: st)) : xv p l e R s m args below meth c D A nL Q w cells slots pc lv st0 :=
  xv_callTl C M f hk9 hcl9 hi9 hb9 hn hR hst hcat d hcs (pre := []) (post := []) (by simp) (by simp) k
theorem xv_callTv (C : xv_C p l s m args meth c D dA sa A cc nL own (cw :: WT)) (M : CTv l D dA sa y (wz y bytes maxL ret) rm (.ref b :: As) w0 w1) (f : cfV y bytes maxL ret n) (hk9 : Cond.methodLink own index y ∈ WT) (hcl9 : y.cls = "java/lang/String") {i9 : Nat} (hi9 : i9 < 9) (hb9 : b = sa "Switchboard$Program" (xe_si i9)) (hn : As.length = n) (hR : rm.frames + 1 ≤ R.frames ∧ 8 + (maxL + 11) + rm.locals ≤ R.locals) (hst : st0 = As.reverse ++ .ref b :: st) (hcat : (st.map fun v => v.category).sum ≤ 8) (d : decode cc pc = .ok (.invokevirtual index, 3)) (hcs : cells + rm.cells ≤ R.cells ∧ slots + rm.slots ≤ R.slots) (hw : w = pre ++ (w0 ++ post)) (hw2 : w2 = pre ++ (w1 ++ post)) (k : xv p l e R s m args below meth c D A nL Q w2 (cells + rm.cells) (slots + rm.slots) (pc + 3) lv (st)) : xv p l e R s m args below meth c D A nL Q w cells slots pc lv st0 := by
  intro H locs ls hP hD hS hl
  subst hw; subst hw2
  have hF := wf_free hP hD hS C.2.2.1
  refine va_callv (va_runV (As := As) (rest := st) C.1 (M H.size) (cwV n C.1.2.2.2.2 (gi_wt (ws := wsV own index y.cls y (wz y bytes maxL ret)) (fun x hx => by
      rcases List.mem_append.mp hx with h | h
      · rcases List.mem_cons.mp h with rfl | h
        · exact hk9
        · rcases List.mem_cons.mp h with rfl | h
          · exact f.2.1
          · rcases List.mem_cons.mp h with rfl | h
            · exact f.2.2
            · rcases List.mem_cons.mp h with rfl | h
              · exact f.1.2.1
              · exact absurd h List.not_mem_nil
      · rcases List.mem_cons.mp h with rfl | h
        · exact f.1.2.2
        · exact h)) rfl rfl rfl ⟨rfl, f.1.1⟩ hR) ⟨xP_blind, (by rw [hb9, hcl9]; exact vk_recv (adK := fun i => sa "Switchboard$Program" (xe_si i)) (i := i9) C.2.2.2.1.2.2.2.2.2.2.1 hi9 hS), xq_pre C hP hD hS⟩ rfl hn hl.1 hst (lv_room hcat) d hcs) hS (fun q _ h => hF q h) hF ?_
  intro u t H1 locs1 ht hvm hp hb hz hk1 hS1
  obtain ⟨b1, b2, b3⟩ := hb
  rw [ht] at b1
  obtain ⟨j1, j2⟩ := wj_join hP hD hk1 hF b1 b3
  exact k H1 locs1 ls j1 j2 hS1 hl
theorem xv_callTv0 (C : xv_C p l s m args meth c D dA sa A cc nL own (cw :: WT)) (M : CTv l D dA sa y (wz y bytes maxL ret) rm (.ref b :: As) w w2) (f : cfV y bytes maxL ret n) (hk9 : Cond.methodLink own index y ∈ WT) (hcl9 : y.cls = "java/lang/String") {i9 : Nat} (hi9 : i9 < 9) (hb9 : b = sa "Switchboard$Program" (xe_si i9)) (hn : As.length = n) (hR : rm.frames + 1 ≤ R.frames ∧ 8 + (maxL + 11) + rm.locals ≤ R.locals) (hst : st0 = As.reverse ++ .ref b :: st) (hcat : (st.map fun v => v.category).sum ≤ 8) (d : decode cc pc = .ok (.invokevirtual index, 3)) (hcs : cells + rm.cells ≤ R.cells ∧ slots + rm.slots ≤ R.slots) (k : xv p l e R s m args below meth c D A nL Q w2 (cells + rm.cells) (slots + rm.slots) (pc + 3) lv (st)) : xv p l e R s m args below meth c D A nL Q w cells slots pc lv st0 :=
  xv_callTv C M f hk9 hcl9 hi9 hb9 hn hR hst hcat d hcs (pre := []) (post := []) (by simp) (by simp) k
end SXD
