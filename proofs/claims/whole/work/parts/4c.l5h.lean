theorem wf_286 : Cond.fieldLink "java/lang/AbstractStringBuilder" 18 "java/lang/String" "COMPACT_STRINGS" "Z" ∈ WT := wt_of (i := 286) (by decide +kernel) rfl
theorem wf_296 : Cond.fieldLink "java/lang/AbstractStringBuilder" 22 "java/lang/AbstractStringBuilder" "coder" "B" ∈ WT := wt_of (i := 296) (by decide +kernel) rfl
theorem wf_522 : Cond.methodLink "jdk/internal/util/ArraysSupport" 194 ⟨"java/lang/Math", "max", "(II)I"⟩ ∈ WT := wt_of (i := 522) (by decide +kernel) rfl
theorem wf_525 : Cond.constant "jdk/internal/util/ArraysSupport" 200 (2147483639) ∈ WT := wt_of (i := 525) (by decide +kernel) rfl
theorem wf_295 : Cond.fieldLink "java/lang/AbstractStringBuilder" 15 "java/lang/AbstractStringBuilder" "value" "[B" ∈ WT := wt_of (i := 295) (by decide +kernel) rfl
theorem wf_519 : Cond.methodLink "java/lang/AbstractStringBuilder" 114 ⟨"jdk/internal/util/ArraysSupport", "newLength", "(III)I"⟩ ∈ WT := wt_of (i := 519) (by decide +kernel) rfl
theorem wf_529 : Cond.constant "java/lang/AbstractStringBuilder" 39 (2147483647) ∈ WT := wt_of (i := 529) (by decide +kernel) rfl
theorem wf_540 : Cond.methodLink "java/util/Arrays" 304 ⟨"java/lang/Math", "min", "(II)I"⟩ ∈ WT := wt_of (i := 540) (by decide +kernel) rfl
theorem wf_541 : Cond.methodLink "java/util/Arrays" 150 ⟨"java/lang/System", "arraycopy", "(Ljava/lang/Object;ILjava/lang/Object;II)V"⟩ ∈ WT := wt_of (i := 541) (by decide +kernel) rfl
theorem wf_515 : Cond.methodLink "java/lang/AbstractStringBuilder" 104 ⟨"java/lang/AbstractStringBuilder", "newCapacity", "(I)I"⟩ ∈ WT := wt_of (i := 515) (by decide +kernel) rfl
theorem wf_530 : Cond.methodLink "java/lang/AbstractStringBuilder" 108 ⟨"java/util/Arrays", "copyOf", "([BI)[B"⟩ ∈ WT := wt_of (i := 530) (by decide +kernel) rfl
/-! the JDK's walks: isLatin1, newLength, newCapacity, copyOf, ensureCapacityInternal *)-/
section SBQ
variable {p : Program} {l : Launch} {e : Env} {R : Room} {s : State} {m : MethodId} {args : Array Value} {below : List Frame} {meth : Method} {c : Code} {Q : State → Prop} {D : va_G} {dA : Nat → ClassId} {sa : String → Nat → Nat} {A : Nat → Prop} {cc : ByteArray} {nL cells slots pc : Nat} {own : String} {w w2 : va_W} {lv lv' : List (Nat × Value)} {st st0 rest : List Value} {cw : Cond}
theorem xv_sg (C : xv_C p l s m args meth c D dA sa A cc nL own (cw :: WT)) {index q0 b : Nat} {fs : List Value} {vl : Value} (d : decode cc pc = .ok (.getfield index, 3)) (he : w[q0]? = some (b, .inr (9, fs))) (j : Nat) (hj : j < 4) (hw : Cond.fieldLink own index (TJ4 j).1 (TJ4 j).2.1 (TJ4 j).2.2.1 ∈ WT) (hv : fs[j]? = some vl) (k : xv p l e R s m args below meth c D A nL Q w cells slots (pc + 3) lv (vl :: st)) : xv p l e R s m args below meth c D A nL Q w cells slots pc lv (.ref b :: st) :=
  xv_get (q0 := q0) (ci := 9) (fs := fs) C (ref := "") d (fun x h => List.mem_cons_of_mem _ (in_J4 x h)) rfl he j hj (List.mem_cons_of_mem _ hw) hv k
theorem xv_sp (C : xv_C p l s m args meth c D dA sa A cc nL own (cw :: WT)) {index q0 b : Nat} {fs : List Value} {vl : Value} {ty : FieldType} (d : decode cc pc = .ok (.putfield index, 3)) (he : w[q0]? = some (b, .inr (9, fs))) (j : Nat) (hj : j < 4) (hw : Cond.fieldLink own index (TJ4 j).1 (TJ4 j).2.1 (TJ4 j).2.2.1 ∈ WT) (hfin : (TJ4 j).2.2.2 = false) (hd : parseFieldDescriptor (TJ4 j).2.2.1 = some ty) (hn : narrow ty vl = vl) (hfit : fits ty vl = true) (hlen : j < fs.length) (h2 : w.set q0 (b, .inr (9, fs.set j vl)) = w2) (k : xv p l e R s m args below meth c D A nL Q w2 cells slots (pc + 3) lv st) : xv p l e R s m args below meth c D A nL Q w cells slots pc lv (vl :: .ref b :: st) :=
  xv_put (q0 := q0) (ci := 9) (fs := fs) C d (fun x h => List.mem_cons_of_mem _ (in_J4 x h)) tyJ4_ok nmJ4 rfl he j hj (List.mem_cons_of_mem _ hw) hfin hd hn hfit hlen h2 k
/-- a cell may be let go of -/
theorem xv_drop1 {x y : Nat × va_E} {post : va_W} (k : xv p l e R s m args below meth c D A nL Q (x :: post) cells slots pc lv st) : xv p l e R s m args below meth c D A nL Q (x :: y :: post) cells slots pc lv st := by
  intro H locs ls hP hD hS hl
  have hg : ∀ (i : Nat) (q : Nat × va_E), (x :: post)[i]? = some q → (x :: y :: post)[if i = 0 then 0 else i + 1]? = some q := fun i q hi => by
    cases i with
    | zero => exact hi
    | succ i => rw [if_neg (Nat.succ_ne_zero i)]; exact hi
  refine k H locs ls (fun i q hi => hP _ q (hg i q hi)) ⟨fun i j a b h1 h2 h3 => ?_, fun i q hi => hD.2 _ q (hg i q hi)⟩ hS hl
  have := hD.1 _ _ a b (hg i a h1) (hg j b h2) h3
  split at this <;> split at this <;> omega
end SBQ
def okb (f : Nat → Int32) : Prop := ∀ j, ∃ t : Nat, t < 128 ∧ f j = nI t
theorem okb_fits {f : Nat → Int32} (h : okb f) (i : Nat) : fits .byte (.int (f i)) = true := by
  obtain ⟨t, ht, e⟩ := h i
  rw [e]
  exact fits_b t ht
theorem okb_upd {f : Nat → Int32} {i t : Nat} (h : okb f) (ht : t < 128) : okb (upd f i (nI t)) := fun j => by
  unfold upd
  split
  · exact ⟨t, ht, rfl⟩
  · exact h j
theorem okb_cpy {f : Nat → Int32} {n : Nat} (h : okb f) : okb (va_cpy f (fun _ => 0) 0 0 n) := fun j => by
  unfold va_cpy
  split
  · exact h _
  · exact ⟨0, by decide, rfl⟩
theorem okb_fgd {f : Nat → Int32} {a pos : Nat} (h : okb f) : okb (fgd f a pos) := fun j => by
  unfold fgd
  split
  · exact ⟨_, by omega, rfl⟩
  · exact h j
theorem sh0 (x : Int32) : x >>> ((0 : Int32) &&& 31) = x := by
  rw [show (0 : Int32) &&& 31 = 0 by decide]
  exact Int32.shiftRight_zero
theorem sl0 (x : Int32) : x <<< ((0 : Int32) &&& 31) = x := by
  rw [show (0 : Int32) &&& 31 = 0 by decide]
  exact Int32.shiftLeft_zero
theorem imax_nn {a b : Nat} (ha : a < 2 ^ 31) (hb : b < 2 ^ 31) : imax (nI a) (nI b) = nI (max a b) := by
  unfold imax
  by_cases h : a < b
  · rw [if_pos (nI_lt h hb), Nat.max_eq_right (by omega)]
  · rw [if_neg (nI_nlt (by omega) ha), Nat.max_eq_left (by omega)]
theorem imin_nn {a b : Nat} (ha : a < 2 ^ 31) (hb : b < 2 ^ 31) : imin (nI a) (nI b) = nI (min a b) := by
  unfold imin
  by_cases h : b < a
  · rw [if_pos (nI_lt h ha), Nat.min_eq_right (by omega)]
  · rw [if_neg (nI_nlt (by omega) hb), Nat.min_eq_left (by omega)]
set_option maxRecDepth 100000 in
theorem kS_lat {l : Launch} {D : va_G} {dA : Nat → ClassId} {sa : String → Nat → Nat} (hl : l.stackTraces = false) {b v cap n : Nat} {f : Nat → Int32} {ml : Int32} : CTi l D dA sa ⟨"java/lang/AbstractStringBuilder", "isLatin1", "()Z"⟩ (wz ⟨"java/lang/AbstractStringBuilder", "isLatin1", "()Z"⟩ prog_12_method_68_code 1 (some .boolean)) rmJ0 [.ref b] (sbW dA b v cap f n ml) 1 (sbW dA b v cap f n ml) := by
  refine xm_z hl (by decide +kernel) (Nat.le_of_ble_eq_true rfl) rfl ?_
  intro p e s m args below meth c A Q hC hR
  show xv p l e rmJ0 s m args below meth c D A 1 Q (sbW dA b v cap f n ml) 0 0 0 [(0, .ref b)] []
  refine xv_gcs (pc := 0) hC dS_lat_0 wf_286 ?_
  refine xv_if_eq (tgt := 17) (pc := 3) hC dS_lat_3 (by decide) (fun c9 => absurd c9 (show ¬ (1 : Int32) = 0 by decide)) (fun _ => ?_)
  refine xv_aload_n (pc := 6) hC dS_lat_6 0 rfl rfl ?_
  refine xv_sg (pc := 7) (q0 := 0) hC dS_lat_7 rfl 1 (by decide) wf_296 rfl ?_
  refine xv_if_ne (tgt := 17) (pc := 10) hC dS_lat_10 (by decide) (fun c9 => absurd c9 (show ¬ ¬ (0 : Int32) = 0 by decide)) (fun _ => ?_)
  refine xv_iconst (v := 1) (pc := 13) hC dS_lat_13 (by decide) ?_
  refine xv_goto (tgt := 18) (pc := 14) hC dS_lat_14 (by decide) ?_
  exact hR _ _ _ _ (by decide) (Nat.le_of_ble_eq_true rfl) (Nat.le_of_ble_eq_true rfl) dS_lat_18
theorem fm_max : Cond.static Lib.Math.max.name ∈ WT ∧ Cond.initialized "java/lang/Math" ∈ WT ∧ Cond.code Lib.Math.max.name Lib.Math.max.code 2 (some .int) ∈ WT := ⟨wt_of (i := 523) (by decide +kernel) rfl, wt_of (i := 22) (by decide +kernel) rfl, wt_of (i := 524) (by decide +kernel) rfl⟩
abbrev rmS1 : Room := ({ frames := 1, cells := 0, slots := 0, locals := 20 } : Room)
set_option maxRecDepth 100000 in
theorem kS_nle {l : Launch} {D : va_G} {dA : Nat → ClassId} {sa : String → Nat → Nat} (hl : l.stackTraces = false) {w : va_W} {a9 g9 q9 : Nat} (h1 : a9 ≤ 1000) (h2 : g9 ≤ 1000) (h3 : q9 ≤ 1000) (h4 : 0 < q9) : CTi l D dA sa ⟨"jdk/internal/util/ArraysSupport", "newLength", "(III)I"⟩ (wz ⟨"jdk/internal/util/ArraysSupport", "newLength", "(III)I"⟩ prog_39_method_27_code 4 (some .int)) rmS1 [.int (nI a9), .int (nI g9), .int (nI q9)] w (nI (a9 + max g9 q9)) w := by
  refine xm_i hl (by decide +kernel) (Nat.le_of_ble_eq_true rfl) rfl ?_
  intro p e s m args below meth c A Q hC hR
  show xv p l e rmS1 s m args below meth c D A 4 Q w 0 0 0 [(0, .int (nI a9)), (1, .int (nI g9)), (2, .int (nI q9))] []
  refine xv_iload_n (pc := 0) hC dS_nle_0 0 rfl rfl ?_
  refine xv_iload_n (pc := 1) hC dS_nle_1 1 rfl rfl ?_
  refine xv_iload_n (pc := 2) hC dS_nle_2 2 rfl rfl ?_
  refine xv_immax (pc := 3) hC dS_nle_3 wf_522 fm_max (Nat.le_of_ble_eq_true rfl) (Nat.le_of_ble_eq_true rfl) (Nat.le_of_ble_eq_true rfl) (Nat.le_of_ble_eq_true rfl) ?_
  refine xv_iadd (pc := 6) hC dS_nle_6 ?_
  rw [imax_nn (by omega) (by omega), nI_add]
  refine xv_istore_n (pc := 7) (lv' := [(3, .int (nI (a9 + max g9 q9))), (0, .int (nI a9)), (1, .int (nI g9)), (2, .int (nI q9))]) hC dS_nle_7 rfl (by decide) rfl ?_
  refine xv_iconst (v := 0) (pc := 8) hC dS_nle_8 (by decide) ?_
  refine xv_iload_n (pc := 9) hC dS_nle_9 0 rfl rfl ?_
  refine xv_icmp_ge (tgt := 21) (pc := 10) hC dS_nle_10 (by decide) (fun c9 => absurd c9 (nI_nle (show 0 < a9 + max g9 q9 by omega) (by omega))) (fun _ => ?_)
  refine xv_iload_n (pc := 13) hC dS_nle_13 0 rfl rfl ?_
  refine xv_ldci (v := 2147483639) (pc := 14) hC dS_nle_14 wf_525 ?_
  refine xv_icmp_gt (tgt := 21) (pc := 16) hC dS_nle_16 (by decide) (fun c9 => absurd c9 (show ¬ nI 2147483639 < nI (a9 + max g9 q9) from nI_nlt (by omega) (by decide))) (fun _ => ?_)
  refine xv_iload_n (pc := 19) hC dS_nle_19 0 rfl rfl ?_
  exact hR _ _ _ _ (Nat.le_of_ble_eq_true rfl) (Nat.le_of_ble_eq_true rfl) dS_nle_20
abbrev rmS2 : Room := ({ frames := 2, cells := 0, slots := 0, locals := 43 } : Room)
set_option maxRecDepth 100000 in
theorem kS_nca {l : Launch} {D : va_G} {dA : Nat → ClassId} {sa : String → Nat → Nat} (hl : l.stackTraces = false) {b v cap n : Nat} {f : Nat → Int32} {ml : Int32} {q9 : Nat} (h1 : cap ≤ 160) (h2 : cap < q9) (h3 : q9 ≤ 80) : CTi l D dA sa ⟨"java/lang/AbstractStringBuilder", "newCapacity", "(I)I"⟩ (wz ⟨"java/lang/AbstractStringBuilder", "newCapacity", "(I)I"⟩ prog_12_method_10_code 6 (some .int)) rmS2 [.ref b, .int (nI q9)] (sbW dA b v cap f n ml) (nI (cap + max (q9 - cap) (cap + 2))) (sbW dA b v cap f n ml) := by
  refine xm_i hl (by decide +kernel) (Nat.le_of_ble_eq_true rfl) rfl ?_
  intro p e s m args below meth c A Q hC hR
  show xv p l e rmS2 s m args below meth c D A 6 Q (sbW dA b v cap f n ml) 0 0 0 [(0, .ref b), (1, .int (nI q9))] []
  refine xv_aload_n (pc := 0) hC dS_nca_0 0 rfl rfl ?_
  refine xv_sg (pc := 1) (q0 := 0) hC dS_nca_1 rfl 0 (by decide) wf_295 rfl ?_
  refine xv_blen (pc := 4) (q0 := 1) hC dS_nca_4 rfl ?_
  refine xv_istore_n (pc := 5) (lv' := [(2, .int (nI cap)), (0, .ref b), (1, .int (nI q9))]) hC dS_nca_5 rfl (by decide) rfl ?_
  refine xv_iload_n (pc := 6) hC dS_nca_6 2 rfl rfl ?_
  refine xv_aload_n (pc := 7) hC dS_nca_7 1 rfl rfl ?_
  refine xv_sg (pc := 8) (q0 := 0) hC dS_nca_8 rfl 1 (by decide) wf_296 rfl ?_
  refine xv_ishl (pc := 11) hC dS_nca_11 ?_
  rw [sl0]
  refine xv_istore_n (pc := 12) (lv' := [(3, .int (nI q9)), (2, .int (nI cap)), (0, .ref b), (1, .int (nI q9))]) hC dS_nca_12 rfl (by decide) rfl ?_
  refine xv_iload_n (pc := 13) hC dS_nca_13 0 rfl rfl ?_
  refine xv_iload_n (pc := 14) hC dS_nca_14 1 rfl rfl ?_
  refine xv_isub (pc := 15) hC dS_nca_15 ?_
  rw [sb_nn (by omega)]
  refine xv_istore (pc := 16) (lv' := [(4, .int (nI (q9 - cap))), (3, .int (nI q9)), (2, .int (nI cap)), (0, .ref b), (1, .int (nI q9))]) hC dS_nca_16 (by decide) rfl ?_
  refine xv_iload_n (pc := 18) hC dS_nca_18 2 rfl rfl ?_
  refine xv_iload (pc := 19) hC dS_nca_19 0 rfl ?_
  refine xv_iload_n (pc := 21) hC dS_nca_21 2 rfl rfl ?_
  refine xv_iconst (v := 2) (pc := 22) hC dS_nca_22 (by decide) ?_
  refine xv_aload_n (pc := 23) hC dS_nca_23 3 rfl rfl ?_
  refine xv_sg (pc := 24) (q0 := 0) hC dS_nca_24 rfl 1 (by decide) wf_296 rfl ?_
  refine xv_ishl (pc := 27) hC dS_nca_27 ?_
  rw [sl0]
  refine xv_iadd (pc := 28) hC dS_nca_28 ?_
  rw [show nI cap + (2 : Int32) = nI (cap + 2) from nI_add cap 2]
  refine xv_callSi0 (As := [.int (nI cap), .int (nI (q9 - cap)), .int (nI (cap + 2))]) (pc := 29) hC (kS_nle hl (by omega) (by omega) (by omega) (by omega)) fS_J8_newLength_cabcc wf_519 rfl ⟨(Nat.le_of_ble_eq_true rfl), (Nat.le_of_ble_eq_true rfl)⟩ rfl (Nat.le_of_ble_eq_true rfl) dS_nca_29 ⟨(Nat.le_of_ble_eq_true rfl), (Nat.le_of_ble_eq_true rfl)⟩ ?_
  refine xv_istore (pc := 32) (lv' := [(5, .int (nI (cap + max (q9 - cap) (cap + 2)))), (4, .int (nI (q9 - cap))), (3, .int (nI q9)), (2, .int (nI cap)), (0, .ref b), (1, .int (nI q9))]) hC dS_nca_32 (by decide) rfl ?_
  refine xv_iload (pc := 34) hC dS_nca_34 0 rfl ?_
  refine xv_ldci (v := 2147483647) (pc := 36) hC dS_nca_36 wf_529 ?_
  refine xv_icmp_ne (tgt := 51) (pc := 38) hC dS_nca_38 (by decide) (fun _ => ?_) (fun c9 => absurd c9 (show ¬ nI (cap + max (q9 - cap) (cap + 2)) = nI 2147483647 by rw [eq_nn (by omega) (by decide)]; omega))
  refine xv_iload (pc := 51) hC dS_nca_51 0 rfl ?_
  refine xv_aload_n (pc := 53) hC dS_nca_53 4 rfl rfl ?_
  refine xv_sg (pc := 54) (q0 := 0) hC dS_nca_54 rfl 1 (by decide) wf_296 rfl ?_
  refine xv_ishr (pc := 57) hC dS_nca_57 ?_
  rw [sh0]
  exact hR _ _ _ _ (Nat.le_of_ble_eq_true rfl) (Nat.le_of_ble_eq_true rfl) dS_nca_58
abbrev rmS3 : Room := ({ frames := 1, cells := 1, slots := 160, locals := 60 } : Room)
set_option maxRecDepth 100000 in
theorem kS_cop {l : Launch} {D : va_G} {dA : Nat → ClassId} {sa : String → Nat → Nat} (hl : l.stackTraces = false) {v cap q9 : Nat} {f : Nat → Int32} (h1 : cap < q9) (h2 : q9 ≤ 160) (hf : okb f) : CPr l D dA sa ⟨"java/util/Arrays", "copyOf", "([BI)[B"⟩ (wz ⟨"java/util/Arrays", "copyOf", "([BI)[B"⟩ prog_37_method_121_code 3 (some (.array .byte))) rmS3 [.ref v, .int (nI q9)] [(v, .inl (dA 6, cap, .inl f))] (fun w a => ∃ g : Nat → Int32, w = [(v, .inl (dA 6, cap, .inl f)), (a, .inl (dA 6, q9, .inl g))] ∧ okb g ∧ ∀ j, j < cap → g j = f j) := by
  refine xm_pr hl (by decide +kernel) (Nat.le_of_ble_eq_true rfl) rfl (Or.inr ⟨_, rfl⟩) ?_
  intro p e s m args below meth c A Q hC hR
  show xv p l e rmS3 s m args below meth c D A 3 Q [(v, .inl (dA 6, cap, .inl f))] 0 0 0 [(0, .ref v), (1, .int (nI q9))] []
  refine xv_iload_n (pc := 0) hC dS_cop_0 1 rfl rfl ?_
  refine xv_aload_n (pc := 1) hC dS_cop_1 0 rfl rfl ?_
  refine xv_blen (pc := 2) (q0 := 0) hC dS_cop_2 rfl ?_
  refine xv_icmp_ne (tgt := 14) (pc := 3) hC dS_cop_3 (by decide) (fun _ => ?_) (fun c9 => absurd c9 (show ¬ nI q9 = nI cap by rw [eq_nn (by omega) (by omega)]; omega))
  refine xv_iload_n (pc := 14) hC dS_cop_14 1 rfl rfl ?_
  refine xv_newab (pc := 15) (N := q9) hC dS_cop_15 (nI_pos (by omega)) (cl_n (by omega)) (by omega) (Nat.le_of_ble_eq_true rfl) (by show 0 + q9 ≤ 160; omega) (fun a => ?_)
  refine xv_astore_n (pc := 17) (lv' := [(2, .ref a), (0, .ref v), (1, .int (nI q9))]) hC dS_cop_17 rfl (by decide) rfl ?_
  refine xv_aload_n (pc := 18) hC dS_cop_18 1 rfl rfl ?_
  refine xv_iconst (v := 0) (pc := 19) hC dS_cop_19 (by decide) ?_
  refine xv_aload_n (pc := 20) hC dS_cop_20 0 rfl rfl ?_
  refine xv_iconst (v := 0) (pc := 21) hC dS_cop_21 (by decide) ?_
  refine xv_aload_n (pc := 22) hC dS_cop_22 1 rfl rfl ?_
  refine xv_blen (pc := 23) (q0 := 0) hC dS_cop_23 rfl ?_
  refine xv_iload_n (pc := 24) hC dS_cop_24 2 rfl rfl ?_
  refine xv_immin (pc := 25) hC dS_cop_25 wf_540 fm_min (Nat.le_of_ble_eq_true rfl) (Nat.le_of_ble_eq_true rfl) (Nat.le_of_ble_eq_true rfl) (by show 0 + q9 ≤ 160; omega) ?_
  rw [imin_nn (by omega) (by omega), Nat.min_eq_left (by omega)]
  refine xv_copyb (pc := 28) (q0 := 0) (q1 := 1) (n0 := cap) (n1 := q9) (f := f) (g := fun _ => 0) (w2 := [(v, .inl (dA 6, cap, .inl f)), (a, .inl (dA 6, q9, .inl (va_cpy f (fun _ => 0) 0 0 cap)))]) hC dS_cop_28 rfl rfl wf_541 fm_arraycopy (by unfold cpo; rw [cl_n (by omega)]; simp [nI_pos (show cap < 2 ^ 31 by omega)]; omega) (okb_fits hf) (Nat.le_of_ble_eq_true rfl) (Nat.le_of_ble_eq_true rfl) (by rw [cl_n (by omega)]; rfl) ?_
  refine xv_aload_n (pc := 31) hC dS_cop_31 0 rfl rfl ?_
  exact hR _ _ _ _ _ _ ⟨_, rfl, okb_cpy hf, fun j hj => by unfold va_cpy; rw [if_pos (by omega)]; congr 1; omega⟩ (Nat.le_of_ble_eq_true rfl) (by show 0 + q9 ≤ 160; omega) dS_cop_32
abbrev rmS4 : Room := ({ frames := 3, cells := 1, slots := 160, locals := 90 } : Room)
def ensP (dA : Nat → ClassId) (b cap n q9 : Nat) (f : Nat → Int32) (ml : Int32) (w : va_W) : Prop := ∃ (v1 cap1 : Nat) (f1 : Nat → Int32), w = sbW dA b v1 cap1 f1 n ml ∧ q9 ≤ cap1 ∧ cap ≤ cap1 ∧ cap1 ≤ 160 ∧ okb f1 ∧ ∀ j, j < cap → f1 j = f j
set_option maxRecDepth 100000 in
theorem kS_ens {l : Launch} {D : va_G} {dA : Nat → ClassId} {sa : String → Nat → Nat} (hl : l.stackTraces = false) {b v cap n : Nat} {f : Nat → Int32} {ml : Int32} {q9 : Nat} (h1 : cap ≤ 160) (h3 : q9 ≤ 80) (hf : okb f) : CPv l D dA sa ⟨"java/lang/AbstractStringBuilder", "ensureCapacityInternal", "(I)V"⟩ (wz ⟨"java/lang/AbstractStringBuilder", "ensureCapacityInternal", "(I)V"⟩ prog_12_method_9_code 3 none) rmS4 [.ref b, .int (nI q9)] (sbW dA b v cap f n ml) (ensP dA b cap n q9 f ml) := by
  refine xm_pv hl (by decide +kernel) (Nat.le_of_ble_eq_true rfl) rfl ?_
  intro p e s m args below meth c A Q hC hR
  show xv p l e rmS4 s m args below meth c D A 3 Q (sbW dA b v cap f n ml) 0 0 0 [(0, .ref b), (1, .int (nI q9))] []
  refine xv_aload_n (pc := 0) hC dS_ens_0 0 rfl rfl ?_
  refine xv_sg (pc := 1) (q0 := 0) hC dS_ens_1 rfl 0 (by decide) wf_295 rfl ?_
  refine xv_blen (pc := 4) (q0 := 1) hC dS_ens_4 rfl ?_
  refine xv_aload_n (pc := 5) hC dS_ens_5 0 rfl rfl ?_
  refine xv_sg (pc := 6) (q0 := 0) hC dS_ens_6 rfl 1 (by decide) wf_296 rfl ?_
  refine xv_ishr (pc := 9) hC dS_ens_9 ?_
  rw [sh0]
  refine xv_istore_n (pc := 10) (lv' := [(2, .int (nI cap)), (0, .ref b), (1, .int (nI q9))]) hC dS_ens_10 rfl (by decide) rfl ?_
  refine xv_iload_n (pc := 11) hC dS_ens_11 2 rfl rfl ?_
  refine xv_iload_n (pc := 12) hC dS_ens_12 0 rfl rfl ?_
  refine xv_isub (pc := 13) hC dS_ens_13 ?_
  by_cases hq : q9 ≤ cap
  · refine xv_if_le (tgt := 38) (pc := 14) hC dS_ens_14 (by decide) (fun _ => ?_) (fun c9 => absurd (show nI q9 - nI cap ≤ 0 by rw [Int32.le_iff_toInt_le, Int32.toInt_sub, nI_toInt (by omega), nI_toInt (by omega), Int.bmod_def]; show _ ≤ (0 : Int); split <;> omega) c9)
    exact hR _ _ _ _ _ ⟨v, cap, f, rfl, hq, Nat.le_refl _, h1, hf, fun _ _ => rfl⟩ (Nat.le_of_ble_eq_true rfl) (Nat.le_of_ble_eq_true rfl) dS_ens_38
  · rw [sb_nn (by omega)]
    refine xv_if_le (tgt := 38) (pc := 14) hC dS_ens_14 (by decide) (fun c9 => absurd c9 (nI_nle (show 0 < q9 - cap by omega) (by omega))) (fun _ => ?_)
    refine xv_aload_n (pc := 17) hC dS_ens_17 1 rfl rfl ?_
    refine xv_aload_n (pc := 18) hC dS_ens_18 1 rfl rfl ?_
    refine xv_sg (pc := 19) (q0 := 0) hC dS_ens_19 rfl 0 (by decide) wf_295 rfl ?_
    refine xv_aload_n (pc := 22) hC dS_ens_22 1 rfl rfl ?_
    refine xv_iload_n (pc := 23) hC dS_ens_23 2 rfl rfl ?_
    refine xv_callUi (As := [.int (nI q9)]) (pc := 24) (pre := []) (post := []) (w0 := (sbW dA b v cap f n ml)) (w2 := (sbW dA b v cap f n ml)) (C := RJ4) hC (kS_nca hl h1 (by omega) h3) fQ_nca wf_515 ⟨0, 9, _, _, _, rfl, rfl⟩ rfl ⟨(Nat.le_of_ble_eq_true rfl), (Nat.le_of_ble_eq_true rfl)⟩ rfl (Nat.le_of_ble_eq_true rfl) dS_ens_24 ⟨(Nat.le_of_ble_eq_true rfl), (Nat.le_of_ble_eq_true rfl)⟩ (by simp) (by simp) ?_
    refine xv_aload_n (pc := 27) hC dS_ens_27 1 rfl rfl ?_
    refine xv_sg (pc := 28) (q0 := 0) hC dS_ens_28 rfl 1 (by decide) wf_296 rfl ?_
    refine xv_ishl (pc := 31) hC dS_ens_31 ?_
    rw [sl0]
    refine xv_callSpr (As := [.ref v, .int (nI (cap + max (q9 - cap) (cap + 2)))]) (pc := 32) (pre := [(b, .inr (9, [.ref v, .int 0, .int ml, .int (nI n)]))]) (post := []) (w0 := [(v, .inl (dA 6, cap, .inl f))]) hC (kS_cop hl (by omega) (by omega) hf) fS_J7_copyOf_9075b wf_530 rfl ⟨(Nat.le_of_ble_eq_true rfl), (Nat.le_of_ble_eq_true rfl)⟩ rfl (Nat.le_of_ble_eq_true rfl) dS_ens_32 ⟨(Nat.le_of_ble_eq_true rfl), (Nat.le_of_ble_eq_true rfl)⟩ rfl (fun w1 a h9 => ?_)
    obtain ⟨g, rfl, hg1, hg2⟩ := h9
    refine xv_sp (pc := 35) (q0 := 0) (fs := [.ref v, .int 0, .int ml, .int (nI n)]) (vl := .ref a) (ty := .array .byte) (w2 := [(b, .inr (9, [.ref a, .int 0, .int ml, .int (nI n)])), (v, .inl (dA 6, cap, .inl f)), (a, .inl (dA 6, cap + max (q9 - cap) (cap + 2), .inl g))]) hC dS_ens_35 rfl 0 (by decide) wf_295 rfl (by decide +kernel) rfl rfl (Nat.le_of_ble_eq_true rfl) rfl ?_
    refine xv_drop1 ?_
    exact hR _ _ _ _ _ ⟨a, cap + max (q9 - cap) (cap + 2), g, rfl, by omega, by omega, by omega, hg1, hg2⟩ (Nat.le_of_ble_eq_true rfl) (Nat.le_of_ble_eq_true rfl) dS_ens_38
