/-! constructors: calls, Object's, the builder's *)-/
section SCI
variable {p : Program} {l : Launch} {e : Env} {R : Room} {s : State} {m : MethodId} {args : Array Value} {below : List Frame} {meth : Method} {c : Code} {Q : State → Prop} {D : va_G} {dA : Nat → ClassId} {sa : String → Nat → Nat} {A : Nat → Prop} {cc : ByteArray} {nL cells slots pc : Nat} {own : String} {w w2 : va_W} {lv lv' : List (Nat × Value)} {st st0 rest : List Value}
variable {cw : Cond} {y : MethodName} {bytes : ByteArray} {maxL n index : Nat} {rm : Room} {As : List Value} {b : Nat} {pre post w0 w1 : va_W}
def cfI (y : MethodName) (b : ByteArray) (n k : Nat) : Prop := cfA y b n none k ∧ Cond.instanceMethod y ∈ WT ∧ y.name = "<init>"
theorem xv_callIpv (hC : xv_C p l s m args meth c D dA sa A cc nL own (cw :: WT)) {P1 : va_W → Prop} (M : CPv l D dA sa y (wz y bytes maxL none) rm (.ref b :: As) w0 P1) (f : cfI y bytes maxL n) (hk9 : Cond.methodLink own index y ∈ WT) (hn : As.length = n) (hR : rm.frames + 1 ≤ R.frames ∧ 8 + (maxL + 11) + rm.locals ≤ R.locals) (hst : st0 = As.reverse ++ .ref b :: st) (hcat : (st.map fun v => v.category).sum ≤ 8) (d : decode cc pc = .ok (.invokespecial index, 3)) (hcs : cells + rm.cells ≤ R.cells ∧ slots + rm.slots ≤ R.slots) (hw : w = pre ++ (w0 ++ post)) (k : ∀ w1, P1 w1 → xv p l e R s m args below meth c D A nL Q (pre ++ (w1 ++ post)) (cells + rm.cells) (slots + rm.slots) (pc + 3) lv st) : xv p l e R s m args below meth c D A nL Q w cells slots pc lv st0 := by
  intro H locs ls hP hD hS hl
  subst hw
  have hF := wf_free hP hD hS hC.2.2.1
  refine va_callv (va_runI (As := As) (rest := st) hC.1 (M H.size) ⟨callB_of (index := index) (own := own) n hC.1.2.2.2.2 (gi_wt (ws := wz y bytes maxL none) (fun x hx => by
      rcases List.mem_cons.mp hx with rfl | h
      · exact f.1.2.2
      · exact h)) rfl rfl rfl (hC.1.2.2.2.2 _ (List.mem_cons_of_mem _ f.1.2.1)) (hC.1.2.2.2.2 _ (List.mem_cons_of_mem _ hk9)) f.1.1 hR, f.2.2, hC.1.2.2.2.2 _ (List.mem_cons_of_mem _ f.2.1)⟩ ⟨xP_blind, xq_pre hC hP hD hS⟩ rfl hn hl.1 hst (lv_room hcat) d hcs) hS (fun q _ h => hF q h) hF ?_
  intro u t H1 locs1 ht hvm hp hb hz hk1 hS1
  obtain ⟨b1, b2, b3⟩ := hb
  rw [ht] at b1
  obtain ⟨j1, j2⟩ := wj_join hP hD hk1 hF b1 b3
  exact k u hp H1 locs1 ls j1 j2 hS1 hl
end SCI
theorem wf_284 : Cond.code ⟨"java/lang/AbstractStringBuilder", "<init>", "(I)V"⟩ prog_12_method_2_code 2 none ∈ WT := wt_of (i := 284) (by decide +kernel) rfl
theorem wf_283 : Cond.instanceMethod ⟨"java/lang/AbstractStringBuilder", "<init>", "(I)V"⟩ ∈ WT := wt_of (i := 283) (by decide +kernel) rfl
theorem fI_ini : cfI ⟨"java/lang/AbstractStringBuilder", "<init>", "(I)V"⟩ prog_12_method_2_code 2 1 := ⟨⟨⟨by decide +kernel, by decide +kernel, by decide +kernel⟩, wf_9, wf_284⟩, wf_283, by decide +kernel⟩
theorem wf_281 : Cond.code ⟨"java/lang/StringBuilder", "<init>", "()V"⟩ prog_28_method_1_code 1 none ∈ WT := wt_of (i := 281) (by decide +kernel) rfl
theorem wf_280 : Cond.instanceMethod ⟨"java/lang/StringBuilder", "<init>", "()V"⟩ ∈ WT := wt_of (i := 280) (by decide +kernel) rfl
theorem fI_bin : cfI ⟨"java/lang/StringBuilder", "<init>", "()V"⟩ prog_28_method_1_code 1 0 := ⟨⟨⟨by decide +kernel, by decide +kernel, by decide +kernel⟩, wf_10, wf_281⟩, wf_280, by decide +kernel⟩
theorem wf_285 : Cond.methodLink "java/lang/AbstractStringBuilder" 3 ⟨"java/lang/Object", "<init>", "()V"⟩ ∈ WT := wt_of (i := 285) (by decide +kernel) rfl
theorem wf_282 : Cond.methodLink "java/lang/StringBuilder" 1 ⟨"java/lang/AbstractStringBuilder", "<init>", "(I)V"⟩ ∈ WT := wt_of (i := 282) (by decide +kernel) rfl
theorem wf_oi : Cond.instanceMethod objectInit ∈ WT := wt_of (i := 39) (by decide +kernel) rfl
theorem wf_oc : Cond.code objectInit object_method_1_code 1 none ∈ WT := wt_of (i := 40) (by decide +kernel) rfl
section SOI
variable {p : Program} {l : Launch} {e : Env} {R : Room} {s : State} {m : MethodId} {args : Array Value} {below : List Frame} {meth : Method} {c : Code} {Q : State → Prop} {D : va_G} {dA : Nat → ClassId} {sa : String → Nat → Nat} {A : Nat → Prop} {cc : ByteArray} {nL cells slots pc : Nat} {own : String} {w : va_W} {lv : List (Nat × Value)} {st : List Value} {cw : Cond}
theorem xv_oini (C : xv_C p l s m args meth c D dA sa A cc nL own (cw :: WT)) {index b : Nat} (d : decode cc pc = .ok (.invokespecial index, 3)) (hlk : Cond.methodLink own index objectInit ∈ WT) (hf : 1 ≤ R.frames) (ho : (st.map fun v => v.category).sum + 12 ≤ R.locals) (k : xv p l e R s m args below meth c D A nL Q w cells slots (pc + 3) lv st) : xv p l e R s m args below meth c D A nL Q w cells slots pc lv (.ref b :: st) := by
  intro H locs ls hP hD hS hl
  have hts : ∀ x ∈ WT, x.before args s = true := fun x hx => C.1.2.2.2.2 x (List.mem_cons_of_mem _ hx)
  refine W.objInit C.1.1 C.1.2.1 C.1.2.2.2.1 (hts _ hlk) (hts _ wf_oi) (hts _ wf_oc) rfl (by rw [C.1.2.2.1]; exact hl.1) rfl d hf (by simpa using ho) ?_
  refine W.eq (g2 := F0 m (pc + 3) ls st) rfl ?_
  exact k H locs ls hP hD hS hl
end SOI
abbrev rmK1 : Room := ({ frames := 1, cells := 1, slots := 16, locals := 30 } : Room)
abbrev rmK2 : Room := ({ frames := 2, cells := 1, slots := 16, locals := 60 } : Room)
set_option maxRecDepth 100000 in
theorem kS_ini {l : Launch} {D : va_G} {dA : Nat → ClassId} {sa : String → Nat → Nat} (hl : l.stackTraces = false) {b : Nat} : CPv l D dA sa ⟨"java/lang/AbstractStringBuilder", "<init>", "(I)V"⟩ (wz ⟨"java/lang/AbstractStringBuilder", "<init>", "(I)V"⟩ prog_12_method_2_code 2 none) rmK1 [.ref b, .int 16] [(b, .inr (9, [.null, .int 0, .int 0, .int 0]))] (fun w1 => ∃ v : Nat, w1 = sbW dA b v 16 (fun _ => 0) 0 0) := by
  refine xm_pv hl (by decide +kernel) (Nat.le_of_ble_eq_true rfl) rfl ?_
  intro p e s m args below meth c A Q hC hR
  show xv p l e rmK1 s m args below meth c D A 2 Q [(b, .inr (9, [.null, .int 0, .int 0, .int 0]))] 0 0 0 [(0, .ref b), (1, .int 16)] []
  refine xv_aload_n (pc := 0) hC dS_ini_0 0 rfl rfl ?_
  refine xv_oini (pc := 1) hC dS_ini_1 wf_285 (Nat.le_of_ble_eq_true rfl) (Nat.le_of_ble_eq_true rfl) ?_
  refine xv_gcs (pc := 4) hC dS_ini_4 wf_286 ?_
  refine xv_if_eq (tgt := 25) (pc := 7) hC dS_ini_7 (by decide) (fun c9 => absurd c9 (show ¬ (1 : Int32) = 0 by decide)) (fun _ => ?_)
  refine xv_aload_n (pc := 10) hC dS_ini_10 0 rfl rfl ?_
  refine xv_iload_n (pc := 11) hC dS_ini_11 1 rfl rfl ?_
  refine xv_newab (pc := 12) (N := 16) hC dS_ini_12 (by decide) (by decide) (by decide) (Nat.le_of_ble_eq_true rfl) (Nat.le_of_ble_eq_true rfl) (fun v => ?_)
  refine xv_sp (pc := 14) (q0 := 0) (fs := [.null, .int 0, .int 0, .int 0]) (vl := .ref v) (ty := .array .byte) (w2 := sbW dA b v 16 (fun _ => 0) 0 0) hC dS_ini_14 rfl 0 (by decide) wf_295 rfl (by decide +kernel) rfl rfl (Nat.le_of_ble_eq_true rfl) rfl ?_
  refine xv_aload_n (pc := 17) hC dS_ini_17 0 rfl rfl ?_
  refine xv_iconst (v := 0) (pc := 18) hC dS_ini_18 (by decide) ?_
  refine xv_sp (pc := 19) (q0 := 0) (fs := [.ref v, .int 0, .int 0, .int (nI 0)]) (vl := .int 0) (ty := .byte) (w2 := sbW dA b v 16 (fun _ => 0) 0 0) hC dS_ini_19 rfl 1 (by decide) wf_296 rfl (by decide +kernel) rfl rfl (Nat.le_of_ble_eq_true rfl) rfl ?_
  refine xv_goto (tgt := 38) (pc := 22) hC dS_ini_22 (by decide) ?_
  exact hR _ _ _ _ _ ⟨v, rfl⟩ (Nat.le_of_ble_eq_true rfl) (Nat.le_of_ble_eq_true rfl) dS_ini_38
set_option maxRecDepth 100000 in
theorem kS_bin {l : Launch} {D : va_G} {dA : Nat → ClassId} {sa : String → Nat → Nat} (hl : l.stackTraces = false) {b : Nat} : CPv l D dA sa ⟨"java/lang/StringBuilder", "<init>", "()V"⟩ (wz ⟨"java/lang/StringBuilder", "<init>", "()V"⟩ prog_28_method_1_code 1 none) rmK2 [.ref b] [(b, .inr (9, [.null, .int 0, .int 0, .int 0]))] (fun w1 => ∃ v : Nat, w1 = sbW dA b v 16 (fun _ => 0) 0 0) := by
  refine xm_pv hl (by decide +kernel) (Nat.le_of_ble_eq_true rfl) rfl ?_
  intro p e s m args below meth c A Q hC hR
  show xv p l e rmK2 s m args below meth c D A 1 Q [(b, .inr (9, [.null, .int 0, .int 0, .int 0]))] 0 0 0 [(0, .ref b)] []
  refine xv_aload_n (pc := 0) hC dS_bin_0 0 rfl rfl ?_
  refine xv_bipush (v := 16) (pc := 1) hC dS_bin_1 (by decide) ?_
  refine xv_callIpv (As := [.int 16]) (pc := 3) (pre := []) (post := []) (w0 := [(b, .inr (9, [.null, .int 0, .int 0, .int 0]))]) hC (kS_ini hl) fI_ini wf_282 rfl ⟨(Nat.le_of_ble_eq_true rfl), (Nat.le_of_ble_eq_true rfl)⟩ rfl (Nat.le_of_ble_eq_true rfl) dS_bin_3 ⟨(Nat.le_of_ble_eq_true rfl), (Nat.le_of_ble_eq_true rfl)⟩ (by simp) (fun w1 h9 => ?_)
  rw [List.append_nil, List.nil_append]
  exact hR _ _ _ _ _ h9 (Nat.le_of_ble_eq_true rfl) (Nat.le_of_ble_eq_true rfl) dS_bin_6
