theorem wf_1352 : Cond.static ⟨"SwitchboardLaw", "meanCharge", "(LSwitchboard;[D)I"⟩ ∈ WT := wt_of (i := 1352) (by decide +kernel) rfl
theorem fW_meanCharge : cfW ⟨"SwitchboardLaw", "meanCharge", "(LSwitchboard;[D)I"⟩ method_33_code 3 (some .int) [(0, 7, 10, 119)] 2 := ⟨⟨by decide +kernel, by decide +kernel, by decide +kernel⟩, wf_0, wt_of (i := 1353) (by decide +kernel) rfl, wf_1352⟩
theorem wf_1371 : Cond.code ⟨"Switchboard", "meanCharge", "()D"⟩ prog_1_method_53_code 1 (some .double) ∈ WT := wt_of (i := 1371) (by decide +kernel) rfl
theorem wf_1369 : Cond.instanceMethod ⟨"Switchboard", "meanCharge", "()D"⟩ ∈ WT := wt_of (i := 1369) (by decide +kernel) rfl
theorem wf_1370 : Cond.selects "Switchboard" ⟨"Switchboard", "meanCharge", "()D"⟩ ⟨"Switchboard", "meanCharge", "()D"⟩ ∈ WT := wt_of (i := 1370) (by decide +kernel) rfl
theorem fV_X7_meanCharge : cfV yX7_meanCharge cX7_meanCharge 1 (some .double) 0 := ⟨⟨⟨by decide +kernel, by decide +kernel, by decide +kernel⟩, wf_1, wf_1371⟩, wf_1369, wf_1370⟩
theorem wf_1368 : Cond.methodLink "SwitchboardLaw" 115 ⟨"Switchboard", "meanCharge", "()D"⟩ ∈ WT := wt_of (i := 1368) (by decide +kernel) rfl
theorem wf_1354 : Cond.classLink "SwitchboardLaw" 119 "java/lang/ArithmeticException" ∈ WT := wt_of (i := 1354) (by decide +kernel) rfl
theorem wf_1376 : Cond.static ⟨"SwitchboardLaw", "usedShare", "(LSwitchboard;[D)I"⟩ ∈ WT := wt_of (i := 1376) (by decide +kernel) rfl
theorem fW_usedShare : cfW ⟨"SwitchboardLaw", "usedShare", "(LSwitchboard;[D)I"⟩ method_34_code 3 (some .int) [(0, 8, 11, 119)] 2 := ⟨⟨by decide +kernel, by decide +kernel, by decide +kernel⟩, wf_0, wt_of (i := 1377) (by decide +kernel) rfl, wf_1376⟩
theorem wf_1381 : Cond.code ⟨"Switchboard", "usedShare", "()F"⟩ prog_1_method_54_code 1 (some .float) ∈ WT := wt_of (i := 1381) (by decide +kernel) rfl
theorem wf_1379 : Cond.instanceMethod ⟨"Switchboard", "usedShare", "()F"⟩ ∈ WT := wt_of (i := 1379) (by decide +kernel) rfl
theorem wf_1380 : Cond.selects "Switchboard" ⟨"Switchboard", "usedShare", "()F"⟩ ⟨"Switchboard", "usedShare", "()F"⟩ ∈ WT := wt_of (i := 1380) (by decide +kernel) rfl
theorem fV_X7_usedShare : cfV yX7_usedShare cX7_usedShare 1 (some .float) 0 := ⟨⟨⟨by decide +kernel, by decide +kernel, by decide +kernel⟩, wf_1, wf_1381⟩, wf_1379, wf_1380⟩
theorem wf_1378 : Cond.methodLink "SwitchboardLaw" 121 ⟨"Switchboard", "usedShare", "()F"⟩ ∈ WT := wt_of (i := 1378) (by decide +kernel) rfl
/-! the last two wrappers: meanCharge and usedShare -/
section SWD
variable {p : Program} {l : Launch} {e : Env} {R : Room} {s : State} {m : MethodId} {args : Array Value} {below : List Frame} {meth : Method} {c : Code} {Q : State → Prop} {D : va_G} {dA : Nat → ClassId} {sa : String → Nat → Nat} {A : Nat → Prop} {cc : ByteArray} {nL cells slots pc : Nat} {own : String} {w w2 : va_W} {lv lv' : List (Nat × Value)} {st st0 rest : List Value} {cw : Cond}
variable {y : MethodName} {bytes : ByteArray} {maxL n index : Nat} {ret : Option FieldType} {rm : Room} {As : List Value} {b : Nat} {pre post w0 w1 : va_W}
theorem xv_outD (C : xv_C p l s m args meth c D dA sa A cc nL own (cw :: WT)) {ao : Nat} {g : Nat → UInt64} {x : UInt64} (d : decode cc pc = .ok (.dastore, 1)) (k : xv p l e R s m args below meth c D A nL Q (w ++ outD dA ao (vf_upd g 0 x)) cells slots (pc + 1) lv st) : xv p l e R s m args below meth c D A nL Q (w ++ outD dA ao g) cells slots pc lv (.double x :: .int 0 :: .ref ao :: st) := by
  intro H locs ls hP hD hS hl
  refine va_dast C.1.1 C.1.2.1 C.2.1 hP hD hS w.length 5 (f := g) (n := 1) (cA := dA 5) (by unfold outD; simp) rfl (vin_of (by decide)) d (fun H1 locs1 hP1 hD1 hS1 => ?_)
  have e9 : (w ++ outD dA ao g).set w.length (ao, .inl (dA 5, 1, .inr (.inr (.inr (.inl (vf_upd g (0 : Int32).toNatClampNeg x)))))) = w ++ outD dA ao (vf_upd g 0 x) := by unfold outD; simp
  rw [e9] at hP1 hD1
  exact k H1 locs1 ls hP1 hD1 hS1 hl
theorem xv_f2d (C : xv_C p l s m args meth c D dA sa A cc nL own (cw :: WT)) {x : UInt32} (d : decode cc pc = .ok (.f2d, 1)) (hne : vf_n64 (FP.f2d x)) (k : xv p l e R s m args below meth c D A nL Q w cells slots (pc + 1) lv (.double (FP.f2d x) :: st)) : xv p l e R s m args below meth c D A nL Q w cells slots pc lv (.float x :: st) := fun H locs ls hP hD hS hl => lv_f2d C.1.1 C.1.2.1 d hne (k H locs ls hP hD hS hl)
theorem xv_callVxd (C : xv_C p l s m args meth c D dA sa A cc nL own (cw :: WT)) {o : Nat ⊕ UInt64} (M : CXd l D dA sa y (wz y bytes maxL ret) rm (.ref b :: As) w0 o w1) (f : cfV y bytes maxL ret n) (hk9 : Cond.methodLink own index y ∈ WT) (hrc : ∃ (q0 ci : Nat) (fs : List Value) (T : u_T) (N : Nat), w0[q0]? = some (b, .inr (ci, fs)) ∧ vwC[ci]? = some (y.cls, T, N)) (hn : As.length = n) (hR : rm.frames + 1 ≤ R.frames ∧ 8 + (maxL + 11) + rm.locals ≤ R.locals) (hst : st0 = As.reverse ++ .ref b :: st) (hcat : (st.map fun v => v.category).sum ≤ 8) (d : decode cc pc = .ok (.invokevirtual index, 3)) (hcs : cells + rm.cells ≤ R.cells ∧ slots + rm.slots ≤ R.slots) (hw : w = pre ++ (w0 ++ post)) (hw2 : w2 = pre ++ (w1 ++ post)) (kx : ∀ k9, o = .inl k9 → xvx p l e R s m args below meth c D A nL Q w2 (cells + rm.cells) (slots + rm.slots) pc lv st (xe_nm k9)) (k : ∀ v, o = .inr v → xv p l e R s m args below meth c D A nL Q w2 (cells + rm.cells) (slots + rm.slots) (pc + 3) lv (.double v :: st)) : xv p l e R s m args below meth c D A nL Q w cells slots pc lv st0 := by
  intro H locs ls hP hD hS hl
  subst hw; subst hw2
  obtain ⟨q0, ci, fs, T, N, hq0, hvc⟩ := hrc
  have hF := wf_free hP hD hS C.2.2.1
  refine vx_calld (vx_runV (As := As) (rest := st) C.1 (M H.size) (cwV n C.1.2.2.2.2 (gi_wt (ws := wsV own index y.cls y (wz y bytes maxL ret)) (fun x hx => by
      rcases List.mem_append.mp hx with h | h
      · rcases List.mem_cons.mp h with rfl | h
        · exact hk9
        · rcases List.mem_cons.mp h with rfl | h
          · exact f.2.1
          · rcases List.mem_cons.mp h with rfl | h
            · exact f.2.2
            · rcases List.mem_cons.mp h with rfl | h
              · exact f.1.2.1
              · exact absurd h List.not_mem_nil
      · rcases List.mem_cons.mp h with rfl | h
        · exact f.1.2.2
        · exact h)) rfl rfl rfl ⟨rfl, f.1.1⟩ hR) ⟨xP_blind, va_recv C.2.1 (wp_l (wp_r hP)) hvc hq0, xq_pre C hP hD hS⟩ rfl hn hl.1 hst (lv_room hcat) d hcs) hS (fun q _ h => hF q h) hF (fun q _ h => hF q h) ?_ ?_
  · intro E ce q9 u t H1 locs1 ht hvm hp hb hz hk1 hS1 hce hcv hcl
    obtain ⟨⟨k9, ho, rfl⟩, b1, b2, b3⟩ := hb
    rw [ht] at b1
    obtain ⟨j1, j2⟩ := wj_join hP hD hk1 hF b1 b3
    exact kx k9 ho H1 locs1 ls q9 ce j1 j2 hS1 hl hce hcv hcl
  · intro r9 u t H1 locs1 ht hvm hp hb hz hk1 hS1
    have hp : o = .inr r9 := hp
    obtain ⟨b1, b2, b3⟩ := hb
    rw [ht] at b1
    obtain ⟨j1, j2⟩ := wj_join hP hD hk1 hF b1 b3
    exact k r9 hp H1 locs1 ls j1 j2 hS1 hl
theorem xv_callVxf (C : xv_C p l s m args meth c D dA sa A cc nL own (cw :: WT)) {o : Nat ⊕ UInt32} (M : CXf l D dA sa y (wz y bytes maxL ret) rm (.ref b :: As) w0 o w1) (f : cfV y bytes maxL ret n) (hk9 : Cond.methodLink own index y ∈ WT) (hrc : ∃ (q0 ci : Nat) (fs : List Value) (T : u_T) (N : Nat), w0[q0]? = some (b, .inr (ci, fs)) ∧ vwC[ci]? = some (y.cls, T, N)) (hn : As.length = n) (hR : rm.frames + 1 ≤ R.frames ∧ 8 + (maxL + 11) + rm.locals ≤ R.locals) (hst : st0 = As.reverse ++ .ref b :: st) (hcat : (st.map fun v => v.category).sum ≤ 8) (d : decode cc pc = .ok (.invokevirtual index, 3)) (hcs : cells + rm.cells ≤ R.cells ∧ slots + rm.slots ≤ R.slots) (hw : w = pre ++ (w0 ++ post)) (hw2 : w2 = pre ++ (w1 ++ post)) (kx : ∀ k9, o = .inl k9 → xvx p l e R s m args below meth c D A nL Q w2 (cells + rm.cells) (slots + rm.slots) pc lv st (xe_nm k9)) (k : ∀ v, o = .inr v → xv p l e R s m args below meth c D A nL Q w2 (cells + rm.cells) (slots + rm.slots) (pc + 3) lv (.float v :: st)) : xv p l e R s m args below meth c D A nL Q w cells slots pc lv st0 := by
  intro H locs ls hP hD hS hl
  subst hw; subst hw2
  obtain ⟨q0, ci, fs, T, N, hq0, hvc⟩ := hrc
  have hF := wf_free hP hD hS C.2.2.1
  refine vx_callf (vx_runV (As := As) (rest := st) C.1 (M H.size) (cwV n C.1.2.2.2.2 (gi_wt (ws := wsV own index y.cls y (wz y bytes maxL ret)) (fun x hx => by
      rcases List.mem_append.mp hx with h | h
      · rcases List.mem_cons.mp h with rfl | h
        · exact hk9
        · rcases List.mem_cons.mp h with rfl | h
          · exact f.2.1
          · rcases List.mem_cons.mp h with rfl | h
            · exact f.2.2
            · rcases List.mem_cons.mp h with rfl | h
              · exact f.1.2.1
              · exact absurd h List.not_mem_nil
      · rcases List.mem_cons.mp h with rfl | h
        · exact f.1.2.2
        · exact h)) rfl rfl rfl ⟨rfl, f.1.1⟩ hR) ⟨xP_blind, va_recv C.2.1 (wp_l (wp_r hP)) hvc hq0, xq_pre C hP hD hS⟩ rfl hn hl.1 hst (lv_room hcat) d hcs) hS (fun q _ h => hF q h) hF (fun q _ h => hF q h) ?_ ?_
  · intro E ce q9 u t H1 locs1 ht hvm hp hb hz hk1 hS1 hce hcv hcl
    obtain ⟨⟨k9, ho, rfl⟩, b1, b2, b3⟩ := hb
    rw [ht] at b1
    obtain ⟨j1, j2⟩ := wj_join hP hD hk1 hF b1 b3
    exact kx k9 ho H1 locs1 ls q9 ce j1 j2 hS1 hl hce hcv hcl
  · intro r9 u t H1 locs1 ht hvm hp hb hz hk1 hS1
    have hp : o = .inr r9 := hp
    obtain ⟨b1, b2, b3⟩ := hb
    rw [ht] at b1
    obtain ⟨j1, j2⟩ := wj_join hP hD hk1 hF b1 b3
    exact k r9 hp H1 locs1 ls j1 j2 hS1 hl
end SWD
def wrD (dA : Nat → ClassId) (ao : Nat) (w1 : va_W) (g : Nat → UInt64) (o : Nat ⊕ UInt64) (r : Int32) (w : va_W) : Prop := (o = .inl 6 ∧ r = 1 ∧ w = w1 ++ outD dA ao g) ∨ (∃ (v : UInt64) (g1 : Nat → UInt64), o = .inr v ∧ r = 0 ∧ w = w1 ++ outD dA ao g1 ∧ g1 0 = v)
def wrF (dA : Nat → ClassId) (ao : Nat) (w1 : va_W) (g : Nat → UInt64) (o : Nat ⊕ UInt32) (r : Int32) (w : va_W) : Prop := (o = .inl 6 ∧ r = 1 ∧ w = w1 ++ outD dA ao g) ∨ (∃ (v : UInt32) (g1 : Nat → UInt64), o = .inr v ∧ r = 0 ∧ w = w1 ++ outD dA ao g1 ∧ g1 0 = FP.f2d v)
set_option maxRecDepth 100000 in
theorem kW_meanCharge {l : Launch} {D : va_G} {dA : Nat → ClassId} {sa : String → Nat → Nat} {a : Nat → Nat} (hl : l.stackTraces = false) {rm : Room} {ao : Nat} {g : Nat → UInt64} {o : Nat ⊕ UInt64} {w0 w1 : va_W} (M : CXd l D dA sa yX7_meanCharge (wz yX7_meanCharge cX7_meanCharge 1 (some .double)) rm [.ref (a 0)] w0 o w1) (hk : ∀ k, o = .inl k → k = 6) (hrc : rcv w0 (a 0) RX7) : CPi l D dA sa ⟨"SwitchboardLaw", "meanCharge", "(LSwitchboard;[D)I"⟩ (wzW ⟨"SwitchboardLaw", "meanCharge", "(LSwitchboard;[D)I"⟩ method_33_code 3 (some .int) [(0, 7, 10, 119)]) (rmW rm 1) [.ref (a 0), .ref ao] (w0 ++ outD dA ao g) (wrD dA ao w1 g o) := by
  refine xm_wi hl (by decide +kernel) (Nat.le_of_ble_eq_true rfl) rfl ?_
  intro p e s m args below meth c A Q hC htb hR
  show xv p l e (rmW rm 1) s m args below meth c D A 3 Q (w0 ++ outD dA ao g) 0 0 0 [(0, .ref (a 0)), (1, .ref ao)] []
  refine xv_aload_n (pc := 0) hC dL_meanCharge_0 1 rfl rfl ?_
  refine xv_iconst (v := 0) (pc := 1) hC dL_meanCharge_1 (by decide) ?_
  refine xv_aload_n (pc := 2) hC dL_meanCharge_2 0 rfl rfl ?_
  refine xv_callVxd (As := []) (pc := 3) (pre := []) (w0 := w0) (post := outD dA ao g) (w1 := w1) (w2 := w1 ++ outD dA ao g) hC M fV_X7_meanCharge wf_1368 hrc rfl ⟨Nat.le_refl _, Nat.le_refl _⟩ rfl (Nat.le_of_ble_eq_true rfl) dL_meanCharge_3 ⟨by show 0 + rm.cells ≤ rm.cells; omega, by show 0 + rm.slots ≤ rm.slots; omega⟩ rfl rfl (fun k9 hk9 => ?_) (fun v hv => ?_)
  · obtain rfl := hk k9 hk9
    refine xvx_catch (E := "java/lang/ArithmeticException") (hp := 10) hC [] (⟨0, 7, 10, 119⟩ : ExceptionTableEntry) [] (htb.trans rfl) (fun _ h => absurd h List.not_mem_nil) (by decide) rfl (by decide) wf_1354 rfl (fun q9 => ?_)
    refine xv_astore_n (pc := 10) (lv' := [(2, .ref q9), (0, .ref (a 0)), (1, .ref ao)]) hC dL_meanCharge_10 rfl (by decide) rfl ?_
    refine xv_iconst (v := 1) (pc := 11) hC dL_meanCharge_11 (by decide) ?_
    exact hR _ _ _ _ _ _ (Or.inl ⟨hk9, rfl, rfl⟩) (by show 0 + rm.cells ≤ rm.cells; omega) (by show 0 + rm.slots ≤ rm.slots; omega) dL_meanCharge_12
  · skip
    refine xv_outD (pc := 6) hC dL_meanCharge_6 ?_
    refine xv_goto (tgt := 13) (pc := 7) hC dL_meanCharge_7 (by decide) ?_
    refine xv_iconst (v := 0) (pc := 13) hC dL_meanCharge_13 (by decide) ?_
    exact hR _ _ _ _ _ _ (Or.inr ⟨v, _, hv, rfl, rfl, rfl⟩) (by show 0 + rm.cells ≤ rm.cells; omega) (by show 0 + rm.slots ≤ rm.slots; omega) dL_meanCharge_14
set_option maxRecDepth 100000 in
theorem kW_usedShare {l : Launch} {D : va_G} {dA : Nat → ClassId} {sa : String → Nat → Nat} {a : Nat → Nat} (hl : l.stackTraces = false) {rm : Room} {ao : Nat} {g : Nat → UInt64} {o : Nat ⊕ UInt32} {w0 w1 : va_W} (M : CXf l D dA sa yX7_usedShare (wz yX7_usedShare cX7_usedShare 1 (some .float)) rm [.ref (a 0)] w0 o w1) (hk : ∀ k, o = .inl k → k = 6) (hn : ∀ v, o = .inr v → vf_n64 (FP.f2d v)) (hrc : rcv w0 (a 0) RX7) : CPi l D dA sa ⟨"SwitchboardLaw", "usedShare", "(LSwitchboard;[D)I"⟩ (wzW ⟨"SwitchboardLaw", "usedShare", "(LSwitchboard;[D)I"⟩ method_34_code 3 (some .int) [(0, 8, 11, 119)]) (rmW rm 1) [.ref (a 0), .ref ao] (w0 ++ outD dA ao g) (wrF dA ao w1 g o) := by
  refine xm_wi hl (by decide +kernel) (Nat.le_of_ble_eq_true rfl) rfl ?_
  intro p e s m args below meth c A Q hC htb hR
  show xv p l e (rmW rm 1) s m args below meth c D A 3 Q (w0 ++ outD dA ao g) 0 0 0 [(0, .ref (a 0)), (1, .ref ao)] []
  refine xv_aload_n (pc := 0) hC dL_usedShare_0 1 rfl rfl ?_
  refine xv_iconst (v := 0) (pc := 1) hC dL_usedShare_1 (by decide) ?_
  refine xv_aload_n (pc := 2) hC dL_usedShare_2 0 rfl rfl ?_
  refine xv_callVxf (As := []) (pc := 3) (pre := []) (w0 := w0) (post := outD dA ao g) (w1 := w1) (w2 := w1 ++ outD dA ao g) hC M fV_X7_usedShare wf_1378 hrc rfl ⟨Nat.le_refl _, Nat.le_refl _⟩ rfl (Nat.le_of_ble_eq_true rfl) dL_usedShare_3 ⟨by show 0 + rm.cells ≤ rm.cells; omega, by show 0 + rm.slots ≤ rm.slots; omega⟩ rfl rfl (fun k9 hk9 => ?_) (fun v hv => ?_)
  · obtain rfl := hk k9 hk9
    refine xvx_catch (E := "java/lang/ArithmeticException") (hp := 11) hC [] (⟨0, 8, 11, 119⟩ : ExceptionTableEntry) [] (htb.trans rfl) (fun _ h => absurd h List.not_mem_nil) (by decide) rfl (by decide) wf_1354 rfl (fun q9 => ?_)
    refine xv_astore_n (pc := 11) (lv' := [(2, .ref q9), (0, .ref (a 0)), (1, .ref ao)]) hC dL_usedShare_11 rfl (by decide) rfl ?_
    refine xv_iconst (v := 1) (pc := 12) hC dL_usedShare_12 (by decide) ?_
    exact hR _ _ _ _ _ _ (Or.inl ⟨hk9, rfl, rfl⟩) (by show 0 + rm.cells ≤ rm.cells; omega) (by show 0 + rm.slots ≤ rm.slots; omega) dL_usedShare_13
  · refine xv_f2d (pc := 6) hC dL_usedShare_6 (hn v hv) ?_
    refine xv_outD (pc := 7) hC dL_usedShare_7 ?_
    refine xv_goto (tgt := 14) (pc := 8) hC dL_usedShare_8 (by decide) ?_
    refine xv_iconst (v := 0) (pc := 14) hC dL_usedShare_14 (by decide) ?_
    exact hR _ _ _ _ _ _ (Or.inr ⟨v, _, hv, rfl, rfl, rfl⟩) (by show 0 + rm.cells ≤ rm.cells; omega) (by show 0 + rm.slots ≤ rm.slots; omega) dL_usedShare_15
