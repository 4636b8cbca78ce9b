theorem wf_46 : Cond.methodLink "Switchboard$State" 3 ⟨"java/lang/Object", "<init>", "()V"⟩ ∈ WT := wt_of (i := 46) (by decide +kernel) rfl
theorem wf_47 : Cond.classLink "Switchboard$State" 9 "Switchboard$Network" ∈ WT := wt_of (i := 47) (by decide +kernel) rfl
theorem wf_48 : Cond.instantiable "Switchboard$Network" 7 ∈ WT := wt_of (i := 48) (by decide +kernel) rfl
theorem wf_51 : Cond.code ⟨"Switchboard$Network", "<init>", "()V"⟩ prog_5_method_1_code 1 none ∈ WT := wt_of (i := 51) (by decide +kernel) rfl
theorem wf_50 : Cond.instanceMethod ⟨"Switchboard$Network", "<init>", "()V"⟩ ∈ WT := wt_of (i := 50) (by decide +kernel) rfl
theorem fI_X3_init : cfI yX3_init cX3_init 1 0 := ⟨⟨⟨by decide +kernel, by decide +kernel, by decide +kernel⟩, wf_3, wf_51⟩, wf_50, by decide +kernel⟩
theorem wf_89 : Cond.classLink "Switchboard$State" 28 "Switchboard$Call" ∈ WT := wt_of (i := 89) (by decide +kernel) rfl
theorem wf_91 : Cond.instantiable "Switchboard$Call" 6 ∈ WT := wt_of (i := 91) (by decide +kernel) rfl
theorem wf_94 : Cond.code ⟨"Switchboard$Call", "<init>", "()V"⟩ prog_3_method_1_code 1 none ∈ WT := wt_of (i := 94) (by decide +kernel) rfl
theorem wf_93 : Cond.instanceMethod ⟨"Switchboard$Call", "<init>", "()V"⟩ ∈ WT := wt_of (i := 93) (by decide +kernel) rfl
theorem fI_X1_init : cfI yX1_init cX1_init 1 0 := ⟨⟨⟨by decide +kernel, by decide +kernel, by decide +kernel⟩, wf_4, wf_94⟩, wf_93, by decide +kernel⟩
/-! the State's constructor; a world in another order; an array of references named anew *)-/
section SPM
variable {p : Program} {l : Launch} {e : Env} {R : Room} {s : State} {m : MethodId} {args : Array Value} {below : List Frame} {meth : Method} {c : Code} {Q : State → Prop} {D : va_G} {dA : Nat → ClassId} {sa : String → Nat → Nat} {A : Nat → Prop} {cc : ByteArray} {nL cells slots pc : Nat} {own : String} {w w2 : va_W} {lv : List (Nat × Value)} {st : List Value}
theorem vd_nd (h : va_D A w) : (w.map Prod.fst).Nodup := by
  rw [List.nodup_iff_pairwise_ne, List.pairwise_map, List.pairwise_iff_getElem]
  intro i j hi hj hij he
  exact absurd (h.1 i j _ _ (List.getElem?_eq_getElem hi) (List.getElem?_eq_getElem hj) he) (by omega)
theorem nd_vd (h : (w.map Prod.fst).Nodup) (h2 : ∀ q ∈ w, A q.1) : va_D A w := by
  refine ⟨fun i j p q hp hq he => ?_, fun k q hq => h2 q (List.mem_of_getElem? hq)⟩
  have hi : i < (w.map Prod.fst).length := by
    rw [List.length_map]
    exact (List.getElem?_eq_some_iff.mp hp).1
  refine (List.getElem?_inj hi h).mp ?_
  rw [List.getElem?_map, List.getElem?_map, hp, hq]
  exact congrArg some he
theorem xv_pm (h : List.Perm w w2) (k : xv p l e R s m args below meth c D A nL Q w2 cells slots pc lv st) : xv p l e R s m args below meth c D A nL Q w cells slots pc lv st := by
  intro H locs ls hP hD hS hl
  refine k H locs ls (fun i q hq => ?_) (nd_vd ((h.map Prod.fst).nodup (vd_nd hD)) (fun q hq => ?_)) hS hl
  · obtain ⟨j, hj⟩ := List.mem_iff_getElem?.mp (h.mem_iff.mpr (List.mem_of_getElem? hq))
    exact hP j q hj
  · obtain ⟨j, hj⟩ := List.mem_iff_getElem?.mp (h.mem_iff.mpr hq)
    exact hD.2 j q hj
theorem vq_ext {cA : ClassId} {n : Nat} {f g : Nat → Option Nat} (h : ∀ j, j < n → f j = g j) : vp_cell cA (n, .inr (.inr (.inr (.inr f)))) = vp_cell cA (n, .inr (.inr (.inr (.inr g)))) := by
  rw [vp_cell_q, vp_cell_q]
  unfold arrV
  have e1 : (fun j : Fin n => va_rf (f j.val)) = fun j : Fin n => va_rf (g j.val) := funext fun j => by rw [h j.1 j.2]
  rw [e1]
theorem xv_setf {q0 n ak : Nat} {cA : ClassId} {f g : Nat → Option Nat} (ha : w[q0]? = some (ak, .inl (cA, n, .inr (.inr (.inr (.inr f)))))) (h : ∀ j, j < n → f j = g j) (h2 : w.set q0 (ak, .inl (cA, n, .inr (.inr (.inr (.inr g))))) = w2) (k : xv p l e R s m args below meth c D A nL Q w2 cells slots pc lv st) : xv p l e R s m args below meth c D A nL Q w cells slots pc lv st := by
  subst h2
  intro H locs ls hP hD hS hl
  have hq0 : q0 < w.length := (List.getElem?_eq_some_iff.mp ha).1
  refine k H locs ls (fun i q hq => ?_) (nd_vd ?_ (fun q hq => ?_)) hS hl
  · by_cases hi : i = q0
    · subst hi
      rw [List.getElem?_set_self hq0] at hq
      have e1 := Option.some.inj hq
      subst e1
      have h9 := hP i _ ha
      show H[ak]? = some _
      have h8 : H[ak]? = some (vp_cell cA (n, .inr (.inr (.inr (.inr f))))) := h9
      rw [h8, vq_ext h]
    · rw [List.getElem?_set_ne (fun q => hi q.symm)] at hq
      exact hP i q hq
  · have e1 : (w.set q0 (ak, .inl (cA, n, .inr (.inr (.inr (.inr g)))))).map Prod.fst = w.map Prod.fst := by
      apply List.ext_getElem?
      intro i
      rw [List.getElem?_map, List.getElem?_map]
      by_cases hi : i = q0
      · subst hi
        rw [List.getElem?_set_self hq0, ha]
        rfl
      · rw [List.getElem?_set_ne (fun q => hi q.symm)]
    rw [e1]
    exact vd_nd hD
  · obtain ⟨j, hj⟩ := List.mem_iff_getElem?.mp hq
    by_cases hi : j = q0
    · subst hi
      rw [List.getElem?_set_self hq0] at hj
      have e1 := Option.some.inj hj
      subst e1
      have h9 := hD.2 j _ ha
      exact h9
    · rw [List.getElem?_set_ne (fun q => hi q.symm)] at hj
      exact hD.2 j q hj
end SPM
/-- a fresh State's cells, at the addresses a 0 .. a 19 -/
def stW (dA : Nat → ClassId) (a : Nat → Nat) : va_W := (List.range 20).map (fun j => (a j, cellC dA (fun k => a (k - 19)) (19 + j) (fun _ => 0) 0))
abbrev rmCX6 : Room := ({ frames := 3, cells := 19, slots := 171, locals := 60 } : Room)
set_option maxHeartbeats 8000000 in
set_option maxRecDepth 100000 in
theorem kC_X6 {l : Launch} {D : va_G} {dA : Nat → ClassId} {sa : String → Nat → Nat} (hl : l.stackTraces = false) {b : Nat} : CPv l D dA sa yX6_init (wz yX6_init cX6_init 2 none) rmCX6 [.ref b] [(b, .inr (6, [.null, .int 0, .null, .null, .null, .int 0, .null, .long 0, .int 0]))] (fun w1 => ∃ a : Nat → Nat, a 0 = b ∧ w1 = stW dA a) := by
  refine xm_pk hl (by decide +kernel) (Nat.le_of_ble_eq_true rfl) rfl ?_
  intro p e s m args below meth c A Q hC hN hR
  show xv p l e rmCX6 s m args below meth c D A 2 Q [(b, .inr (6, [.null, .int 0, .null, .null, .null, .int 0, .null, .long 0, .int 0]))] 0 0 0 [(0, .ref b)] []
  refine xv_aload_n (pc := 0) hC dX6_init_0 0 rfl rfl ?_
  refine xv_oini (pc := 1) hC dX6_init_1 wf_46 (Nat.le_of_ble_eq_true rfl) (Nat.le_of_ble_eq_true rfl) ?_
  refine xv_aload_n (pc := 4) hC dX6_init_4 0 rfl rfl ?_
  refine xv_new (pc := 5) (ci := 3) (fs := [.int 0, .int 0, .null, .null, .null, .null, .int 0]) hC dX6_init_5 in_X3 tyX3_ok wf_47 wf_48 wf_3 rfl (fun j hj => by rcases (show j = 0 ∨ j = 1 ∨ j = 2 ∨ j = 3 ∨ j = 4 ∨ j = 5 ∨ j = 6 by omega) with rfl | rfl | rfl | rfl | rfl | rfl | rfl <;> rfl) (Nat.le_of_ble_eq_true rfl) (Nat.le_of_ble_eq_true rfl) (fun n => ?_)
  refine xv_dup (pc := 8) hC dX6_init_8 rfl ?_
  refine xv_callINpv (As := []) (pc := 9) (pre := [(b, .inr (6, [.null, .int 0, .null, .null, .null, .int 0, .null, .long 0, .int 0]))]) (post := []) (w0 := [(n, .inr (3, [.int 0, .int 0, .null, .null, .null, .null, .int 0]))]) hC (kC_X3 hl) fI_X3_init (List.mem_of_getElem? (i := 0) rfl) rfl ⟨(Nat.le_of_ble_eq_true rfl), (Nat.le_of_ble_eq_true rfl)⟩ rfl (Nat.le_of_ble_eq_true rfl) dX6_init_9 ⟨(Nat.le_of_ble_eq_true rfl), (Nat.le_of_ble_eq_true rfl)⟩ rfl ?_
  rintro w1 ⟨q0, q1, q2, q3, rfl⟩
  refine xv_pf (pc := 12) (q0 := 0) (ci := 6) (fs := [.null, .int 0, .null, .null, .null, .int 0, .null, .long 0, .int 0]) (v := .ref n) (ty := .object "Switchboard$Network") (w2 := [(b, .inr (6, [.ref n, .int 0, .null, .null, .null, .int 0, .null, .long 0, .int 0])), (n, .inr (3, [.int 0, .int 0, .ref q0, .ref q1, .ref q2, .ref q3, .int 0])), (q0, .inl (dA 0, 16, .inl (fun _ => 0))), (q1, .inl (dA 0, 16, .inl (fun _ => 0))), (q2, .inl (dA 0, 16, .inl (fun _ => 0))), (q3, .inl (dA 0, 16, .inl (fun _ => 0)))]) hC hN dX6_init_12 in_X6 tyX6_ok nmX6 rfl rfl 0 (by decide) wf_126 rfl rfl (by decide +kernel) rfl rfl (Nat.le_of_ble_eq_true rfl) rfl ?_
  refine xv_aload_n (pc := 15) hC dX6_init_15 0 rfl rfl ?_
  refine xv_bipush (v := 10) (pc := 16) hC dX6_init_16 (by decide) ?_
  refine xv_newai (pc := 18) (N := 10) hC dX6_init_18 (by decide) (by decide) (by decide) (Nat.le_of_ble_eq_true rfl) (Nat.le_of_ble_eq_true rfl) (fun h => ?_)
  refine xv_pf (pc := 20) (q0 := 0) (ci := 6) (fs := [.ref n, .int 0, .null, .null, .null, .int 0, .null, .long 0, .int 0]) (v := .ref h) (ty := .array .int) (w2 := [(b, .inr (6, [.ref n, .int 0, .ref h, .null, .null, .int 0, .null, .long 0, .int 0])), (n, .inr (3, [.int 0, .int 0, .ref q0, .ref q1, .ref q2, .ref q3, .int 0])), (q0, .inl (dA 0, 16, .inl (fun _ => 0))), (q1, .inl (dA 0, 16, .inl (fun _ => 0))), (q2, .inl (dA 0, 16, .inl (fun _ => 0))), (q3, .inl (dA 0, 16, .inl (fun _ => 0))), (h, .inl (dA 0, 10, .inl (fun _ => 0)))]) hC hN dX6_init_20 in_X6 tyX6_ok nmX6 rfl rfl 2 (by decide) wf_130 rfl rfl (by decide +kernel) rfl rfl (Nat.le_of_ble_eq_true rfl) rfl ?_
  refine xv_aload_n (pc := 23) hC dX6_init_23 0 rfl rfl ?_
  refine xv_bipush (v := 10) (pc := 24) hC dX6_init_24 (by decide) ?_
  refine xv_newai (pc := 26) (N := 10) hC dX6_init_26 (by decide) (by decide) (by decide) (Nat.le_of_ble_eq_true rfl) (Nat.le_of_ble_eq_true rfl) (fun t => ?_)
  refine xv_pf (pc := 28) (q0 := 0) (ci := 6) (fs := [.ref n, .int 0, .ref h, .null, .null, .int 0, .null, .long 0, .int 0]) (v := .ref t) (ty := .array .int) (w2 := [(b, .inr (6, [.ref n, .int 0, .ref h, .ref t, .null, .int 0, .null, .long 0, .int 0])), (n, .inr (3, [.int 0, .int 0, .ref q0, .ref q1, .ref q2, .ref q3, .int 0])), (q0, .inl (dA 0, 16, .inl (fun _ => 0))), (q1, .inl (dA 0, 16, .inl (fun _ => 0))), (q2, .inl (dA 0, 16, .inl (fun _ => 0))), (q3, .inl (dA 0, 16, .inl (fun _ => 0))), (h, .inl (dA 0, 10, .inl (fun _ => 0))), (t, .inl (dA 0, 10, .inl (fun _ => 0)))]) hC hN dX6_init_28 in_X6 tyX6_ok nmX6 rfl rfl 3 (by decide) wf_131 rfl rfl (by decide +kernel) rfl rfl (Nat.le_of_ble_eq_true rfl) rfl ?_
  refine xv_aload_n (pc := 31) hC dX6_init_31 0 rfl rfl ?_
  refine xv_bipush (v := 10) (pc := 32) hC dX6_init_32 (by decide) ?_
  refine xv_newai (pc := 34) (N := 10) hC dX6_init_34 (by decide) (by decide) (by decide) (Nat.le_of_ble_eq_true rfl) (Nat.le_of_ble_eq_true rfl) (fun bi => ?_)
  refine xv_pf (pc := 36) (q0 := 0) (ci := 6) (fs := [.ref n, .int 0, .ref h, .ref t, .null, .int 0, .null, .long 0, .int 0]) (v := .ref bi) (ty := .array .int) (w2 := [(b, .inr (6, [.ref n, .int 0, .ref h, .ref t, .ref bi, .int 0, .null, .long 0, .int 0])), (n, .inr (3, [.int 0, .int 0, .ref q0, .ref q1, .ref q2, .ref q3, .int 0])), (q0, .inl (dA 0, 16, .inl (fun _ => 0))), (q1, .inl (dA 0, 16, .inl (fun _ => 0))), (q2, .inl (dA 0, 16, .inl (fun _ => 0))), (q3, .inl (dA 0, 16, .inl (fun _ => 0))), (h, .inl (dA 0, 10, .inl (fun _ => 0))), (t, .inl (dA 0, 10, .inl (fun _ => 0))), (bi, .inl (dA 0, 10, .inl (fun _ => 0)))]) hC hN dX6_init_36 in_X6 tyX6_ok nmX6 rfl rfl 4 (by decide) wf_133 rfl rfl (by decide +kernel) rfl rfl (Nat.le_of_ble_eq_true rfl) rfl ?_
  refine xv_aload_n (pc := 39) hC dX6_init_39 0 rfl rfl ?_
  refine xv_iconst (v := 5) (pc := 40) hC dX6_init_40 (by decide) ?_
  refine xv_newq (pc := 41) (t0 := 2) (cB := dA 2) (N := 5) hC rfl (ao_call hC) dX6_init_41 wf_89 (by decide) (by decide) (by decide) (Nat.le_of_ble_eq_true rfl) (Nat.le_of_ble_eq_true rfl) (fun ca => ?_)
  refine xv_pf (pc := 44) (q0 := 0) (ci := 6) (fs := [.ref n, .int 0, .ref h, .ref t, .ref bi, .int 0, .null, .long 0, .int 0]) (v := .ref ca) (ty := .array (.object "Switchboard$Call")) (w2 := [(b, .inr (6, [.ref n, .int 0, .ref h, .ref t, .ref bi, .int 0, .ref ca, .long 0, .int 0])), (n, .inr (3, [.int 0, .int 0, .ref q0, .ref q1, .ref q2, .ref q3, .int 0])), (q0, .inl (dA 0, 16, .inl (fun _ => 0))), (q1, .inl (dA 0, 16, .inl (fun _ => 0))), (q2, .inl (dA 0, 16, .inl (fun _ => 0))), (q3, .inl (dA 0, 16, .inl (fun _ => 0))), (h, .inl (dA 0, 10, .inl (fun _ => 0))), (t, .inl (dA 0, 10, .inl (fun _ => 0))), (bi, .inl (dA 0, 10, .inl (fun _ => 0))), (ca, .inl (dA 2, 5, .inr (.inr (.inr (.inr (fun _ => none))))))]) hC hN dX6_init_44 in_X6 tyX6_ok nmX6 rfl rfl 6 (by decide) wf_137 rfl rfl (by decide +kernel) rfl rfl (Nat.le_of_ble_eq_true rfl) rfl ?_
  refine xv_iconst (v := 0) (pc := 47) hC dX6_init_47 (by decide) ?_
  refine xv_istore_n (pc := 48) (lv' := [(1, .int 0), (0, .ref b)]) hC dX6_init_48 rfl (by decide) rfl ?_
  refine xv_iload_n (pc := 49) hC dX6_init_49 0 rfl rfl ?_
  refine xv_iconst (v := 5) (pc := 50) hC dX6_init_50 (by decide) ?_
  refine xv_icmp_ge (tgt := 73) (pc := 51) hC dX6_init_51 (by decide) (fun c9 => absurd c9 (by decide)) (fun _ => ?_)
  refine xv_aload_n (pc := 54) hC dX6_init_54 1 rfl rfl ?_
  refine xv_get (pc := 55) (q0 := 0) (ci := 6) (fs := [.ref n, .int 0, .ref h, .ref t, .ref bi, .int 0, .ref ca, .long 0, .int 0]) (v := .ref ca) (ref := "") hC dX6_init_55 (fun x h => List.mem_cons_of_mem _ (in_X6 x h)) rfl rfl 6 (by decide) (List.mem_cons_of_mem _ wf_137) rfl ?_
  refine xv_iload_n (pc := 58) hC dX6_init_58 0 rfl rfl ?_
  refine xv_new (pc := 59) (ci := 1) (fs := [.int 0, .int 0, .int 0, .int 0, .int 0, .null]) hC dX6_init_59 in_X1 tyX1_ok wf_89 wf_91 wf_4 rfl (fun j hj => by rcases (show j = 0 ∨ j = 1 ∨ j = 2 ∨ j = 3 ∨ j = 4 ∨ j = 5 by omega) with rfl | rfl | rfl | rfl | rfl | rfl <;> rfl) (Nat.le_of_ble_eq_true rfl) (Nat.le_of_ble_eq_true rfl) (fun c0 => ?_)
  refine xv_dup (pc := 62) hC dX6_init_62 rfl ?_
  refine xv_callINpv (As := []) (pc := 63) (pre := [(b, .inr (6, [.ref n, .int 0, .ref h, .ref t, .ref bi, .int 0, .ref ca, .long 0, .int 0])), (n, .inr (3, [.int 0, .int 0, .ref q0, .ref q1, .ref q2, .ref q3, .int 0])), (q0, .inl (dA 0, 16, .inl (fun _ => 0))), (q1, .inl (dA 0, 16, .inl (fun _ => 0))), (q2, .inl (dA 0, 16, .inl (fun _ => 0))), (q3, .inl (dA 0, 16, .inl (fun _ => 0))), (h, .inl (dA 0, 10, .inl (fun _ => 0))), (t, .inl (dA 0, 10, .inl (fun _ => 0))), (bi, .inl (dA 0, 10, .inl (fun _ => 0))), (ca, .inl (dA 2, 5, .inr (.inr (.inr (.inr (fun _ => none))))))]) (post := []) (w0 := [(c0, .inr (1, [.int 0, .int 0, .int 0, .int 0, .int 0, .null]))]) hC (kC_X1 hl) fI_X1_init (List.mem_of_getElem? (i := 1) rfl) rfl ⟨(Nat.le_of_ble_eq_true rfl), (Nat.le_of_ble_eq_true rfl)⟩ rfl (Nat.le_of_ble_eq_true rfl) dX6_init_63 ⟨(Nat.le_of_ble_eq_true rfl), (Nat.le_of_ble_eq_true rfl)⟩ rfl ?_
  rintro w1 ⟨r0, rfl⟩
  refine xv_astq (pc := 66) (q0 := 9) (t0 := 2) (qk := 10) (ci := 1) (w2 := [(b, .inr (6, [.ref n, .int 0, .ref h, .ref t, .ref bi, .int 0, .ref ca, .long 0, .int 0])), (n, .inr (3, [.int 0, .int 0, .ref q0, .ref q1, .ref q2, .ref q3, .int 0])), (q0, .inl (dA 0, 16, .inl (fun _ => 0))), (q1, .inl (dA 0, 16, .inl (fun _ => 0))), (q2, .inl (dA 0, 16, .inl (fun _ => 0))), (q3, .inl (dA 0, 16, .inl (fun _ => 0))), (h, .inl (dA 0, 10, .inl (fun _ => 0))), (t, .inl (dA 0, 10, .inl (fun _ => 0))), (bi, .inl (dA 0, 10, .inl (fun _ => 0))), (ca, .inl (dA 2, 5, .inr (.inr (.inr (.inr (va_up (fun _ => none) 0 (some c0))))))), (c0, .inr (1, [.int 0, .int 0, .int 0, .int 0, .int 0, .ref r0])), (r0, .inl (dA 0, 7, .inl (fun _ => 0)))]) hC dX6_init_66 rfl rfl rfl rfl (by decide) rfl ?_
  refine xv_iinc (pc := 67) (v := 1) (lv' := [(1, .int 1), (0, .ref b)]) hC dX6_init_67 0 rfl (by decide) (by decide) rfl ?_
  refine xv_goto (tgt := 49) (pc := 70) hC dX6_init_70 (by decide) ?_
  refine xv_iload_n (pc := 49) hC dX6_init_49 0 rfl rfl ?_
  refine xv_iconst (v := 5) (pc := 50) hC dX6_init_50 (by decide) ?_
  refine xv_icmp_ge (tgt := 73) (pc := 51) hC dX6_init_51 (by decide) (fun c9 => absurd c9 (by decide)) (fun _ => ?_)
  refine xv_aload_n (pc := 54) hC dX6_init_54 1 rfl rfl ?_
  refine xv_get (pc := 55) (q0 := 0) (ci := 6) (fs := [.ref n, .int 0, .ref h, .ref t, .ref bi, .int 0, .ref ca, .long 0, .int 0]) (v := .ref ca) (ref := "") hC dX6_init_55 (fun x h => List.mem_cons_of_mem _ (in_X6 x h)) rfl rfl 6 (by decide) (List.mem_cons_of_mem _ wf_137) rfl ?_
  refine xv_iload_n (pc := 58) hC dX6_init_58 0 rfl rfl ?_
  refine xv_new (pc := 59) (ci := 1) (fs := [.int 0, .int 0, .int 0, .int 0, .int 0, .null]) hC dX6_init_59 in_X1 tyX1_ok wf_89 wf_91 wf_4 rfl (fun j hj => by rcases (show j = 0 ∨ j = 1 ∨ j = 2 ∨ j = 3 ∨ j = 4 ∨ j = 5 by omega) with rfl | rfl | rfl | rfl | rfl | rfl <;> rfl) (Nat.le_of_ble_eq_true rfl) (Nat.le_of_ble_eq_true rfl) (fun c1 => ?_)
  refine xv_dup (pc := 62) hC dX6_init_62 rfl ?_
  refine xv_callINpv (As := []) (pc := 63) (pre := [(b, .inr (6, [.ref n, .int 0, .ref h, .ref t, .ref bi, .int 0, .ref ca, .long 0, .int 0])), (n, .inr (3, [.int 0, .int 0, .ref q0, .ref q1, .ref q2, .ref q3, .int 0])), (q0, .inl (dA 0, 16, .inl (fun _ => 0))), (q1, .inl (dA 0, 16, .inl (fun _ => 0))), (q2, .inl (dA 0, 16, .inl (fun _ => 0))), (q3, .inl (dA 0, 16, .inl (fun _ => 0))), (h, .inl (dA 0, 10, .inl (fun _ => 0))), (t, .inl (dA 0, 10, .inl (fun _ => 0))), (bi, .inl (dA 0, 10, .inl (fun _ => 0))), (ca, .inl (dA 2, 5, .inr (.inr (.inr (.inr (va_up (fun _ => none) 0 (some c0))))))), (c0, .inr (1, [.int 0, .int 0, .int 0, .int 0, .int 0, .ref r0])), (r0, .inl (dA 0, 7, .inl (fun _ => 0)))]) (post := []) (w0 := [(c1, .inr (1, [.int 0, .int 0, .int 0, .int 0, .int 0, .null]))]) hC (kC_X1 hl) fI_X1_init (List.mem_of_getElem? (i := 1) rfl) rfl ⟨(Nat.le_of_ble_eq_true rfl), (Nat.le_of_ble_eq_true rfl)⟩ rfl (Nat.le_of_ble_eq_true rfl) dX6_init_63 ⟨(Nat.le_of_ble_eq_true rfl), (Nat.le_of_ble_eq_true rfl)⟩ rfl ?_
  rintro w1 ⟨r1, rfl⟩
  refine xv_astq (pc := 66) (q0 := 9) (t0 := 2) (qk := 12) (ci := 1) (w2 := [(b, .inr (6, [.ref n, .int 0, .ref h, .ref t, .ref bi, .int 0, .ref ca, .long 0, .int 0])), (n, .inr (3, [.int 0, .int 0, .ref q0, .ref q1, .ref q2, .ref q3, .int 0])), (q0, .inl (dA 0, 16, .inl (fun _ => 0))), (q1, .inl (dA 0, 16, .inl (fun _ => 0))), (q2, .inl (dA 0, 16, .inl (fun _ => 0))), (q3, .inl (dA 0, 16, .inl (fun _ => 0))), (h, .inl (dA 0, 10, .inl (fun _ => 0))), (t, .inl (dA 0, 10, .inl (fun _ => 0))), (bi, .inl (dA 0, 10, .inl (fun _ => 0))), (ca, .inl (dA 2, 5, .inr (.inr (.inr (.inr (va_up (va_up (fun _ => none) 0 (some c0)) 1 (some c1))))))), (c0, .inr (1, [.int 0, .int 0, .int 0, .int 0, .int 0, .ref r0])), (r0, .inl (dA 0, 7, .inl (fun _ => 0))), (c1, .inr (1, [.int 0, .int 0, .int 0, .int 0, .int 0, .ref r1])), (r1, .inl (dA 0, 7, .inl (fun _ => 0)))]) hC dX6_init_66 rfl rfl rfl rfl (by decide) rfl ?_
  refine xv_iinc (pc := 67) (v := 2) (lv' := [(1, .int 2), (0, .ref b)]) hC dX6_init_67 0 rfl (by decide) (by decide) rfl ?_
  refine xv_goto (tgt := 49) (pc := 70) hC dX6_init_70 (by decide) ?_
  refine xv_iload_n (pc := 49) hC dX6_init_49 0 rfl rfl ?_
  refine xv_iconst (v := 5) (pc := 50) hC dX6_init_50 (by decide) ?_
  refine xv_icmp_ge (tgt := 73) (pc := 51) hC dX6_init_51 (by decide) (fun c9 => absurd c9 (by decide)) (fun _ => ?_)
  refine xv_aload_n (pc := 54) hC dX6_init_54 1 rfl rfl ?_
  refine xv_get (pc := 55) (q0 := 0) (ci := 6) (fs := [.ref n, .int 0, .ref h, .ref t, .ref bi, .int 0, .ref ca, .long 0, .int 0]) (v := .ref ca) (ref := "") hC dX6_init_55 (fun x h => List.mem_cons_of_mem _ (in_X6 x h)) rfl rfl 6 (by decide) (List.mem_cons_of_mem _ wf_137) rfl ?_
  refine xv_iload_n (pc := 58) hC dX6_init_58 0 rfl rfl ?_
  refine xv_new (pc := 59) (ci := 1) (fs := [.int 0, .int 0, .int 0, .int 0, .int 0, .null]) hC dX6_init_59 in_X1 tyX1_ok wf_89 wf_91 wf_4 rfl (fun j hj => by rcases (show j = 0 ∨ j = 1 ∨ j = 2 ∨ j = 3 ∨ j = 4 ∨ j = 5 by omega) with rfl | rfl | rfl | rfl | rfl | rfl <;> rfl) (Nat.le_of_ble_eq_true rfl) (Nat.le_of_ble_eq_true rfl) (fun c2 => ?_)
  refine xv_dup (pc := 62) hC dX6_init_62 rfl ?_
  refine xv_callINpv (As := []) (pc := 63) (pre := [(b, .inr (6, [.ref n, .int 0, .ref h, .ref t, .ref bi, .int 0, .ref ca, .long 0, .int 0])), (n, .inr (3, [.int 0, .int 0, .ref q0, .ref q1, .ref q2, .ref q3, .int 0])), (q0, .inl (dA 0, 16, .inl (fun _ => 0))), (q1, .inl (dA 0, 16, .inl (fun _ => 0))), (q2, .inl (dA 0, 16, .inl (fun _ => 0))), (q3, .inl (dA 0, 16, .inl (fun _ => 0))), (h, .inl (dA 0, 10, .inl (fun _ => 0))), (t, .inl (dA 0, 10, .inl (fun _ => 0))), (bi, .inl (dA 0, 10, .inl (fun _ => 0))), (ca, .inl (dA 2, 5, .inr (.inr (.inr (.inr (va_up (va_up (fun _ => none) 0 (some c0)) 1 (some c1))))))), (c0, .inr (1, [.int 0, .int 0, .int 0, .int 0, .int 0, .ref r0])), (r0, .inl (dA 0, 7, .inl (fun _ => 0))), (c1, .inr (1, [.int 0, .int 0, .int 0, .int 0, .int 0, .ref r1])), (r1, .inl (dA 0, 7, .inl (fun _ => 0)))]) (post := []) (w0 := [(c2, .inr (1, [.int 0, .int 0, .int 0, .int 0, .int 0, .null]))]) hC (kC_X1 hl) fI_X1_init (List.mem_of_getElem? (i := 1) rfl) rfl ⟨(Nat.le_of_ble_eq_true rfl), (Nat.le_of_ble_eq_true rfl)⟩ rfl (Nat.le_of_ble_eq_true rfl) dX6_init_63 ⟨(Nat.le_of_ble_eq_true rfl), (Nat.le_of_ble_eq_true rfl)⟩ rfl ?_
  rintro w1 ⟨r2, rfl⟩
  refine xv_astq (pc := 66) (q0 := 9) (t0 := 2) (qk := 14) (ci := 1) (w2 := [(b, .inr (6, [.ref n, .int 0, .ref h, .ref t, .ref bi, .int 0, .ref ca, .long 0, .int 0])), (n, .inr (3, [.int 0, .int 0, .ref q0, .ref q1, .ref q2, .ref q3, .int 0])), (q0, .inl (dA 0, 16, .inl (fun _ => 0))), (q1, .inl (dA 0, 16, .inl (fun _ => 0))), (q2, .inl (dA 0, 16, .inl (fun _ => 0))), (q3, .inl (dA 0, 16, .inl (fun _ => 0))), (h, .inl (dA 0, 10, .inl (fun _ => 0))), (t, .inl (dA 0, 10, .inl (fun _ => 0))), (bi, .inl (dA 0, 10, .inl (fun _ => 0))), (ca, .inl (dA 2, 5, .inr (.inr (.inr (.inr (va_up (va_up (va_up (fun _ => none) 0 (some c0)) 1 (some c1)) 2 (some c2))))))), (c0, .inr (1, [.int 0, .int 0, .int 0, .int 0, .int 0, .ref r0])), (r0, .inl (dA 0, 7, .inl (fun _ => 0))), (c1, .inr (1, [.int 0, .int 0, .int 0, .int 0, .int 0, .ref r1])), (r1, .inl (dA 0, 7, .inl (fun _ => 0))), (c2, .inr (1, [.int 0, .int 0, .int 0, .int 0, .int 0, .ref r2])), (r2, .inl (dA 0, 7, .inl (fun _ => 0)))]) hC dX6_init_66 rfl rfl rfl rfl (by decide) rfl ?_
  refine xv_iinc (pc := 67) (v := 3) (lv' := [(1, .int 3), (0, .ref b)]) hC dX6_init_67 0 rfl (by decide) (by decide) rfl ?_
  refine xv_goto (tgt := 49) (pc := 70) hC dX6_init_70 (by decide) ?_
  refine xv_iload_n (pc := 49) hC dX6_init_49 0 rfl rfl ?_
  refine xv_iconst (v := 5) (pc := 50) hC dX6_init_50 (by decide) ?_
  refine xv_icmp_ge (tgt := 73) (pc := 51) hC dX6_init_51 (by decide) (fun c9 => absurd c9 (by decide)) (fun _ => ?_)
  refine xv_aload_n (pc := 54) hC dX6_init_54 1 rfl rfl ?_
  refine xv_get (pc := 55) (q0 := 0) (ci := 6) (fs := [.ref n, .int 0, .ref h, .ref t, .ref bi, .int 0, .ref ca, .long 0, .int 0]) (v := .ref ca) (ref := "") hC dX6_init_55 (fun x h => List.mem_cons_of_mem _ (in_X6 x h)) rfl rfl 6 (by decide) (List.mem_cons_of_mem _ wf_137) rfl ?_
  refine xv_iload_n (pc := 58) hC dX6_init_58 0 rfl rfl ?_
  refine xv_new (pc := 59) (ci := 1) (fs := [.int 0, .int 0, .int 0, .int 0, .int 0, .null]) hC dX6_init_59 in_X1 tyX1_ok wf_89 wf_91 wf_4 rfl (fun j hj => by rcases (show j = 0 ∨ j = 1 ∨ j = 2 ∨ j = 3 ∨ j = 4 ∨ j = 5 by omega) with rfl | rfl | rfl | rfl | rfl | rfl <;> rfl) (Nat.le_of_ble_eq_true rfl) (Nat.le_of_ble_eq_true rfl) (fun c3 => ?_)
  refine xv_dup (pc := 62) hC dX6_init_62 rfl ?_
  refine xv_callINpv (As := []) (pc := 63) (pre := [(b, .inr (6, [.ref n, .int 0, .ref h, .ref t, .ref bi, .int 0, .ref ca, .long 0, .int 0])), (n, .inr (3, [.int 0, .int 0, .ref q0, .ref q1, .ref q2, .ref q3, .int 0])), (q0, .inl (dA 0, 16, .inl (fun _ => 0))), (q1, .inl (dA 0, 16, .inl (fun _ => 0))), (q2, .inl (dA 0, 16, .inl (fun _ => 0))), (q3, .inl (dA 0, 16, .inl (fun _ => 0))), (h, .inl (dA 0, 10, .inl (fun _ => 0))), (t, .inl (dA 0, 10, .inl (fun _ => 0))), (bi, .inl (dA 0, 10, .inl (fun _ => 0))), (ca, .inl (dA 2, 5, .inr (.inr (.inr (.inr (va_up (va_up (va_up (fun _ => none) 0 (some c0)) 1 (some c1)) 2 (some c2))))))), (c0, .inr (1, [.int 0, .int 0, .int 0, .int 0, .int 0, .ref r0])), (r0, .inl (dA 0, 7, .inl (fun _ => 0))), (c1, .inr (1, [.int 0, .int 0, .int 0, .int 0, .int 0, .ref r1])), (r1, .inl (dA 0, 7, .inl (fun _ => 0))), (c2, .inr (1, [.int 0, .int 0, .int 0, .int 0, .int 0, .ref r2])), (r2, .inl (dA 0, 7, .inl (fun _ => 0)))]) (post := []) (w0 := [(c3, .inr (1, [.int 0, .int 0, .int 0, .int 0, .int 0, .null]))]) hC (kC_X1 hl) fI_X1_init (List.mem_of_getElem? (i := 1) rfl) rfl ⟨(Nat.le_of_ble_eq_true rfl), (Nat.le_of_ble_eq_true rfl)⟩ rfl (Nat.le_of_ble_eq_true rfl) dX6_init_63 ⟨(Nat.le_of_ble_eq_true rfl), (Nat.le_of_ble_eq_true rfl)⟩ rfl ?_
  rintro w1 ⟨r3, rfl⟩
  refine xv_astq (pc := 66) (q0 := 9) (t0 := 2) (qk := 16) (ci := 1) (w2 := [(b, .inr (6, [.ref n, .int 0, .ref h, .ref t, .ref bi, .int 0, .ref ca, .long 0, .int 0])), (n, .inr (3, [.int 0, .int 0, .ref q0, .ref q1, .ref q2, .ref q3, .int 0])), (q0, .inl (dA 0, 16, .inl (fun _ => 0))), (q1, .inl (dA 0, 16, .inl (fun _ => 0))), (q2, .inl (dA 0, 16, .inl (fun _ => 0))), (q3, .inl (dA 0, 16, .inl (fun _ => 0))), (h, .inl (dA 0, 10, .inl (fun _ => 0))), (t, .inl (dA 0, 10, .inl (fun _ => 0))), (bi, .inl (dA 0, 10, .inl (fun _ => 0))), (ca, .inl (dA 2, 5, .inr (.inr (.inr (.inr (va_up (va_up (va_up (va_up (fun _ => none) 0 (some c0)) 1 (some c1)) 2 (some c2)) 3 (some c3))))))), (c0, .inr (1, [.int 0, .int 0, .int 0, .int 0, .int 0, .ref r0])), (r0, .inl (dA 0, 7, .inl (fun _ => 0))), (c1, .inr (1, [.int 0, .int 0, .int 0, .int 0, .int 0, .ref r1])), (r1, .inl (dA 0, 7, .inl (fun _ => 0))), (c2, .inr (1, [.int 0, .int 0, .int 0, .int 0, .int 0, .ref r2])), (r2, .inl (dA 0, 7, .inl (fun _ => 0))), (c3, .inr (1, [.int 0, .int 0, .int 0, .int 0, .int 0, .ref r3])), (r3, .inl (dA 0, 7, .inl (fun _ => 0)))]) hC dX6_init_66 rfl rfl rfl rfl (by decide) rfl ?_
  refine xv_iinc (pc := 67) (v := 4) (lv' := [(1, .int 4), (0, .ref b)]) hC dX6_init_67 0 rfl (by decide) (by decide) rfl ?_
  refine xv_goto (tgt := 49) (pc := 70) hC dX6_init_70 (by decide) ?_
  refine xv_iload_n (pc := 49) hC dX6_init_49 0 rfl rfl ?_
  refine xv_iconst (v := 5) (pc := 50) hC dX6_init_50 (by decide) ?_
  refine xv_icmp_ge (tgt := 73) (pc := 51) hC dX6_init_51 (by decide) (fun c9 => absurd c9 (by decide)) (fun _ => ?_)
  refine xv_aload_n (pc := 54) hC dX6_init_54 1 rfl rfl ?_
  refine xv_get (pc := 55) (q0 := 0) (ci := 6) (fs := [.ref n, .int 0, .ref h, .ref t, .ref bi, .int 0, .ref ca, .long 0, .int 0]) (v := .ref ca) (ref := "") hC dX6_init_55 (fun x h => List.mem_cons_of_mem _ (in_X6 x h)) rfl rfl 6 (by decide) (List.mem_cons_of_mem _ wf_137) rfl ?_
  refine xv_iload_n (pc := 58) hC dX6_init_58 0 rfl rfl ?_
  refine xv_new (pc := 59) (ci := 1) (fs := [.int 0, .int 0, .int 0, .int 0, .int 0, .null]) hC dX6_init_59 in_X1 tyX1_ok wf_89 wf_91 wf_4 rfl (fun j hj => by rcases (show j = 0 ∨ j = 1 ∨ j = 2 ∨ j = 3 ∨ j = 4 ∨ j = 5 by omega) with rfl | rfl | rfl | rfl | rfl | rfl <;> rfl) (Nat.le_of_ble_eq_true rfl) (Nat.le_of_ble_eq_true rfl) (fun c4 => ?_)
  refine xv_dup (pc := 62) hC dX6_init_62 rfl ?_
  refine xv_callINpv (As := []) (pc := 63) (pre := [(b, .inr (6, [.ref n, .int 0, .ref h, .ref t, .ref bi, .int 0, .ref ca, .long 0, .int 0])), (n, .inr (3, [.int 0, .int 0, .ref q0, .ref q1, .ref q2, .ref q3, .int 0])), (q0, .inl (dA 0, 16, .inl (fun _ => 0))), (q1, .inl (dA 0, 16, .inl (fun _ => 0))), (q2, .inl (dA 0, 16, .inl (fun _ => 0))), (q3, .inl (dA 0, 16, .inl (fun _ => 0))), (h, .inl (dA 0, 10, .inl (fun _ => 0))), (t, .inl (dA 0, 10, .inl (fun _ => 0))), (bi, .inl (dA 0, 10, .inl (fun _ => 0))), (ca, .inl (dA 2, 5, .inr (.inr (.inr (.inr (va_up (va_up (va_up (va_up (fun _ => none) 0 (some c0)) 1 (some c1)) 2 (some c2)) 3 (some c3))))))), (c0, .inr (1, [.int 0, .int 0, .int 0, .int 0, .int 0, .ref r0])), (r0, .inl (dA 0, 7, .inl (fun _ => 0))), (c1, .inr (1, [.int 0, .int 0, .int 0, .int 0, .int 0, .ref r1])), (r1, .inl (dA 0, 7, .inl (fun _ => 0))), (c2, .inr (1, [.int 0, .int 0, .int 0, .int 0, .int 0, .ref r2])), (r2, .inl (dA 0, 7, .inl (fun _ => 0))), (c3, .inr (1, [.int 0, .int 0, .int 0, .int 0, .int 0, .ref r3])), (r3, .inl (dA 0, 7, .inl (fun _ => 0)))]) (post := []) (w0 := [(c4, .inr (1, [.int 0, .int 0, .int 0, .int 0, .int 0, .null]))]) hC (kC_X1 hl) fI_X1_init (List.mem_of_getElem? (i := 1) rfl) rfl ⟨(Nat.le_of_ble_eq_true rfl), (Nat.le_of_ble_eq_true rfl)⟩ rfl (Nat.le_of_ble_eq_true rfl) dX6_init_63 ⟨(Nat.le_of_ble_eq_true rfl), (Nat.le_of_ble_eq_true rfl)⟩ rfl ?_
  rintro w1 ⟨r4, rfl⟩
  refine xv_astq (pc := 66) (q0 := 9) (t0 := 2) (qk := 18) (ci := 1) (w2 := [(b, .inr (6, [.ref n, .int 0, .ref h, .ref t, .ref bi, .int 0, .ref ca, .long 0, .int 0])), (n, .inr (3, [.int 0, .int 0, .ref q0, .ref q1, .ref q2, .ref q3, .int 0])), (q0, .inl (dA 0, 16, .inl (fun _ => 0))), (q1, .inl (dA 0, 16, .inl (fun _ => 0))), (q2, .inl (dA 0, 16, .inl (fun _ => 0))), (q3, .inl (dA 0, 16, .inl (fun _ => 0))), (h, .inl (dA 0, 10, .inl (fun _ => 0))), (t, .inl (dA 0, 10, .inl (fun _ => 0))), (bi, .inl (dA 0, 10, .inl (fun _ => 0))), (ca, .inl (dA 2, 5, .inr (.inr (.inr (.inr (va_up (va_up (va_up (va_up (va_up (fun _ => none) 0 (some c0)) 1 (some c1)) 2 (some c2)) 3 (some c3)) 4 (some c4))))))), (c0, .inr (1, [.int 0, .int 0, .int 0, .int 0, .int 0, .ref r0])), (r0, .inl (dA 0, 7, .inl (fun _ => 0))), (c1, .inr (1, [.int 0, .int 0, .int 0, .int 0, .int 0, .ref r1])), (r1, .inl (dA 0, 7, .inl (fun _ => 0))), (c2, .inr (1, [.int 0, .int 0, .int 0, .int 0, .int 0, .ref r2])), (r2, .inl (dA 0, 7, .inl (fun _ => 0))), (c3, .inr (1, [.int 0, .int 0, .int 0, .int 0, .int 0, .ref r3])), (r3, .inl (dA 0, 7, .inl (fun _ => 0))), (c4, .inr (1, [.int 0, .int 0, .int 0, .int 0, .int 0, .ref r4])), (r4, .inl (dA 0, 7, .inl (fun _ => 0)))]) hC dX6_init_66 rfl rfl rfl rfl (by decide) rfl ?_
  refine xv_iinc (pc := 67) (v := 5) (lv' := [(1, .int 5), (0, .ref b)]) hC dX6_init_67 0 rfl (by decide) (by decide) rfl ?_
  refine xv_goto (tgt := 49) (pc := 70) hC dX6_init_70 (by decide) ?_
  refine xv_iload_n (pc := 49) hC dX6_init_49 0 rfl rfl ?_
  refine xv_iconst (v := 5) (pc := 50) hC dX6_init_50 (by decide) ?_
  refine xv_icmp_ge (tgt := 73) (pc := 51) hC dX6_init_51 (by decide) (fun _ => ?_) (fun c9 => absurd c9 (by decide))
  refine xv_setf (q0 := 9) (g := fun i => some ([b, n, q0, q1, q2, q3, h, t, bi, ca, c0, r0, c1, r1, c2, r2, c3, r3, c4, r4].getD (19 + 9 + 1 + 2 * i - 19) 0)) (w2 := stW dA (fun k => [b, n, q0, q1, q2, q3, h, t, bi, ca, c0, r0, c1, r1, c2, r2, c3, r3, c4, r4].getD k 0)) rfl (fun j hj => by rcases (show j = 0 ∨ j = 1 ∨ j = 2 ∨ j = 3 ∨ j = 4 by omega) with rfl | rfl | rfl | rfl | rfl <;> rfl) rfl ?_
  exact hR _ _ _ _ _ ⟨_, rfl, rfl⟩ (Nat.le_of_ble_eq_true rfl) (Nat.le_of_ble_eq_true rfl) dX6_init_73
