theorem wf_168 : Cond.classLink "Switchboard$History" 9 "Switchboard$State" ∈ WT := wt_of (i := 168) (by decide +kernel) rfl
theorem wf_42 : Cond.instantiable "Switchboard$State" 9 ∈ WT := wt_of (i := 42) (by decide +kernel) rfl
theorem wf_45 : Cond.code ⟨"Switchboard$State", "<init>", "()V"⟩ prog_8_method_1_code 2 none ∈ WT := wt_of (i := 45) (by decide +kernel) rfl
theorem wf_44 : Cond.instanceMethod ⟨"Switchboard$State", "<init>", "()V"⟩ ∈ WT := wt_of (i := 44) (by decide +kernel) rfl
theorem fI_X6_init : cfI yX6_init cX6_init 2 0 := ⟨⟨⟨by decide +kernel, by decide +kernel, by decide +kernel⟩, wf_2, wf_45⟩, wf_44, by decide +kernel⟩
theorem wf_170 : Cond.methodLink "Switchboard$History" 17 ⟨"Switchboard$State", "<init>", "()V"⟩ ∈ WT := wt_of (i := 170) (by decide +kernel) rfl
theorem wf_167 : Cond.methodLink "Switchboard$History" 3 ⟨"java/lang/Object", "<init>", "()V"⟩ ∈ WT := wt_of (i := 167) (by decide +kernel) rfl
/-! History's constructor *)-/
def hisT (dA : Nat → ClassId) (as : Nat → Nat → Nat) : Nat → va_W
  | 0 => []
  | n + 1 => hisT dA as n ++ stW dA (as n)
section SHI
variable {p : Program} {l : Launch} {e : Env} {R : Room} {s : State} {m : MethodId} {args : Array Value} {below : List Frame} {meth : Method} {c : Code} {Q : State → Prop} {D : va_G} {dA : Nat → ClassId} {sa : String → Nat → Nat} {A : Nat → Prop} {cells slots : Nat} {cw : Cond} {W : va_W} {b ar n : Nat} {f : Nat → Option Nat} {i j : Int32}
theorem his_step (hl : l.stackTraces = false) (hC : xv_C p l s m args meth c D dA sa A cX2_init 2 "Switchboard$History" (cw :: WT)) (h8 : ¬ (8 : Int32) ≤ i) (hi : vin i 8 = true) (hn : i.toNatClampNeg = n) (hj : i + Int32.ofInt 1 = j) (hcs : cells + 1 + 19 ≤ R.cells) (hss : slots + 9 + 171 ≤ R.slots) (hf : 4 ≤ R.frames) (hlo : 8 + (2 + 11) + 60 ≤ R.locals)
    (k : ∀ a : Nat → Nat, xv p l e R s m args below meth c D A 2 Q ((b, .inr (2, [.int 0, .int 0, .ref ar])) :: (ar, .inl (dA 3, 8, .inr (.inr (.inr (.inr (va_up f n (some (a 0)))))))) :: (W ++ stW dA a)) (cells + 1 + 19) (slots + 9 + 171) 15 [(1, .int j), (0, .ref b)] []) :
    xv p l e R s m args below meth c D A 2 Q ((b, .inr (2, [.int 0, .int 0, .ref ar])) :: (ar, .inl (dA 3, 8, .inr (.inr (.inr (.inr f))))) :: W) cells slots 15 [(1, .int i), (0, .ref b)] [] := by
  subst hn
  refine xv_iload_n (pc := 15) hC dX2_init_15 0 rfl rfl ?_
  refine xv_bipush (v := 8) (pc := 16) hC dX2_init_16 (by decide) ?_
  refine xv_icmp_ge (tgt := 40) (pc := 18) hC dX2_init_18 (by decide) (fun c9 => absurd c9 h8) (fun _ => ?_)
  refine xv_aload_n (pc := 21) hC dX2_init_21 1 rfl rfl ?_
  refine xv_get (pc := 22) (q0 := 0) (ci := 2) (fs := [.int 0, .int 0, .ref ar]) (v := .ref ar) (ref := "") hC dX2_init_22 (fun x h => List.mem_cons_of_mem _ (in_X2 x h)) rfl rfl 2 (by decide) (List.mem_cons_of_mem _ wf_174) rfl ?_
  refine xv_iload_n (pc := 25) hC dX2_init_25 0 rfl rfl ?_
  refine xv_new (pc := 26) (ci := 6) (fs := [.null, .int 0, .null, .null, .null, .int 0, .null, .long 0, .int 0]) hC dX2_init_26 in_X6 tyX6_ok wf_168 wf_42 wf_2 rfl (fun j hj => by rcases (show j = 0 ∨ j = 1 ∨ j = 2 ∨ j = 3 ∨ j = 4 ∨ j = 5 ∨ j = 6 ∨ j = 7 ∨ j = 8 by omega) with rfl | rfl | rfl | rfl | rfl | rfl | rfl | rfl | rfl <;> rfl) (Nat.le_trans (by omega) hcs) (Nat.le_trans (by omega) hss) (fun q => ?_)
  refine xv_dup (pc := 29) hC dX2_init_29 rfl ?_
  refine xv_callIpv (As := []) (pc := 30) (pre := (b, .inr (2, [.int 0, .int 0, .ref ar])) :: (ar, .inl (dA 3, 8, .inr (.inr (.inr (.inr f))))) :: W) (post := []) (w0 := [(q, .inr (6, [.null, .int 0, .null, .null, .null, .int 0, .null, .long 0, .int 0]))]) hC (kC_X6 hl) fI_X6_init wf_170 rfl ⟨hf, hlo⟩ rfl (Nat.le_of_ble_eq_true rfl) dX2_init_30 ⟨hcs, hss⟩ rfl ?_
  rintro w1 ⟨a, ha, rfl⟩
  subst ha
  rw [List.append_nil]
  refine xv_astq (pc := 33) (q0 := 1) (t0 := 3) (qk := W.length + 2) (ci := 6) (w2 := (b, .inr (2, [.int 0, .int 0, .ref ar])) :: (ar, .inl (dA 3, 8, .inr (.inr (.inr (.inr (va_up f i.toNatClampNeg (some (a 0)))))))) :: (W ++ stW dA a)) hC dX2_init_33 rfl rfl (by
    show (W ++ stW dA a)[W.length]? = _
    rw [List.getElem?_append_right (Nat.le_refl _), Nat.sub_self]
    rfl) rfl hi rfl ?_
  refine xv_iinc (pc := 34) (v := j) (lv' := [(1, .int j), (0, .ref b)]) hC dX2_init_34 0 rfl hj (by decide) rfl ?_
  refine xv_goto (tgt := 15) (pc := 37) hC dX2_init_37 (by decide) ?_
  exact k a
end SHI
abbrev rmCX2 : Room := ({ frames := 4, cells := 161, slots := 1448, locals := 90 } : Room)
set_option maxHeartbeats 4000000 in
set_option maxRecDepth 100000 in
theorem kC_X2 {l : Launch} {D : va_G} {dA : Nat → ClassId} {sa : String → Nat → Nat} (hl : l.stackTraces = false) {b : Nat} : CPv l D dA sa yX2_init (wz yX2_init cX2_init 2 none) rmCX2 [.ref b] [(b, .inr (2, [.int 0, .int 0, .null]))] (fun w1 => ∃ (ar : Nat) (as : Nat → Nat → Nat) (f : Nat → Option Nat), (∀ i, i < 8 → f i = some (as i 0)) ∧ w1 = (b, .inr (2, [.int 0, .int 0, .ref ar])) :: (ar, .inl (dA 3, 8, .inr (.inr (.inr (.inr f))))) :: hisT dA as 8) := by
  refine xm_pk hl (by decide +kernel) (Nat.le_of_ble_eq_true rfl) rfl ?_
  intro p e s m args below meth c A Q hC hN hR
  show xv p l e rmCX2 s m args below meth c D A 2 Q [(b, .inr (2, [.int 0, .int 0, .null]))] 0 0 0 [(0, .ref b)] []
  refine xv_aload_n (pc := 0) hC dX2_init_0 0 rfl rfl ?_
  refine xv_oini (pc := 1) hC dX2_init_1 wf_167 (Nat.le_of_ble_eq_true rfl) (Nat.le_of_ble_eq_true rfl) ?_
  refine xv_aload_n (pc := 4) hC dX2_init_4 0 rfl rfl ?_
  refine xv_bipush (v := 8) (pc := 5) hC dX2_init_5 (by decide) ?_
  refine xv_newq (pc := 7) (t0 := 3) (cB := dA 3) (N := 8) hC rfl (ao_state hC) dX2_init_7 wf_168 (by decide) (by decide) (by decide) (Nat.le_of_ble_eq_true rfl) (Nat.le_of_ble_eq_true rfl) (fun ar => ?_)
  refine xv_pf (pc := 10) (q0 := 0) (ci := 2) (fs := [.int 0, .int 0, .null]) (v := .ref ar) (ty := .array (.object "Switchboard$State")) (w2 := (b, .inr (2, [.int 0, .int 0, .ref ar])) :: (ar, .inl (dA 3, 8, .inr (.inr (.inr (.inr (fun _ => none)))))) :: []) hC hN dX2_init_10 in_X2 tyX2_ok nmX2 rfl rfl 2 (by decide) wf_174 rfl rfl (by decide +kernel) rfl rfl (Nat.le_of_ble_eq_true rfl) rfl ?_
  refine xv_iconst (v := 0) (pc := 13) hC dX2_init_13 (by decide) ?_
  refine xv_istore_n (pc := 14) (lv' := [(1, .int 0), (0, .ref b)]) hC dX2_init_14 rfl (by decide) rfl ?_
  refine his_step (i := 0) (j := 1) (n := 0) hl hC (by decide) (by decide) (by decide) (by decide) (Nat.le_of_ble_eq_true rfl) (Nat.le_of_ble_eq_true rfl) (Nat.le_of_ble_eq_true rfl) (Nat.le_of_ble_eq_true rfl) (fun a0 => ?_)
  refine his_step (i := 1) (j := 2) (n := 1) hl hC (by decide) (by decide) (by decide) (by decide) (Nat.le_of_ble_eq_true rfl) (Nat.le_of_ble_eq_true rfl) (Nat.le_of_ble_eq_true rfl) (Nat.le_of_ble_eq_true rfl) (fun a1 => ?_)
  refine his_step (i := 2) (j := 3) (n := 2) hl hC (by decide) (by decide) (by decide) (by decide) (Nat.le_of_ble_eq_true rfl) (Nat.le_of_ble_eq_true rfl) (Nat.le_of_ble_eq_true rfl) (Nat.le_of_ble_eq_true rfl) (fun a2 => ?_)
  refine his_step (i := 3) (j := 4) (n := 3) hl hC (by decide) (by decide) (by decide) (by decide) (Nat.le_of_ble_eq_true rfl) (Nat.le_of_ble_eq_true rfl) (Nat.le_of_ble_eq_true rfl) (Nat.le_of_ble_eq_true rfl) (fun a3 => ?_)
  refine his_step (i := 4) (j := 5) (n := 4) hl hC (by decide) (by decide) (by decide) (by decide) (Nat.le_of_ble_eq_true rfl) (Nat.le_of_ble_eq_true rfl) (Nat.le_of_ble_eq_true rfl) (Nat.le_of_ble_eq_true rfl) (fun a4 => ?_)
  refine his_step (i := 5) (j := 6) (n := 5) hl hC (by decide) (by decide) (by decide) (by decide) (Nat.le_of_ble_eq_true rfl) (Nat.le_of_ble_eq_true rfl) (Nat.le_of_ble_eq_true rfl) (Nat.le_of_ble_eq_true rfl) (fun a5 => ?_)
  refine his_step (i := 6) (j := 7) (n := 6) hl hC (by decide) (by decide) (by decide) (by decide) (Nat.le_of_ble_eq_true rfl) (Nat.le_of_ble_eq_true rfl) (Nat.le_of_ble_eq_true rfl) (Nat.le_of_ble_eq_true rfl) (fun a6 => ?_)
  refine his_step (i := 7) (j := 8) (n := 7) hl hC (by decide) (by decide) (by decide) (by decide) (Nat.le_of_ble_eq_true rfl) (Nat.le_of_ble_eq_true rfl) (Nat.le_of_ble_eq_true rfl) (Nat.le_of_ble_eq_true rfl) (fun a7 => ?_)
  refine xv_iload_n (pc := 15) hC dX2_init_15 0 rfl rfl ?_
  refine xv_bipush (v := 8) (pc := 16) hC dX2_init_16 (by decide) ?_
  refine xv_icmp_ge (tgt := 40) (pc := 18) hC dX2_init_18 (by decide) (fun _ => ?_) (fun c9 => absurd (show (8 : Int32) ≤ 8 by decide) c9)
  exact hR _ _ _ _ _ ⟨ar, fun i => [a0, a1, a2, a3, a4, a5, a6, a7].getD i a0, _, (fun j hj => by rcases (show j = 0 ∨ j = 1 ∨ j = 2 ∨ j = 3 ∨ j = 4 ∨ j = 5 ∨ j = 6 ∨ j = 7 by omega) with rfl | rfl | rfl | rfl | rfl | rfl | rfl | rfl <;> rfl), rfl⟩ (Nat.le_of_ble_eq_true rfl) (Nat.le_of_ble_eq_true rfl) dX2_init_40
/-! worlds that hold the same: arrays of references may differ beyond their length *)-/
def eqv (x y : Nat × va_E) : Prop := x.1 = y.1 ∧ (x.2 = y.2 ∨ ∃ (cA : ClassId) (n : Nat) (f g : Nat → Option Nat), x.2 = .inl (cA, n, .inr (.inr (.inr (.inr f)))) ∧ y.2 = .inl (cA, n, .inr (.inr (.inr (.inr g)))) ∧ ∀ j, j < n → f j = g j)
def weq (w w2 : va_W) : Prop := w.length = w2.length ∧ ∀ (k : Nat) (x y : Nat × va_E), w[k]? = some x → w2[k]? = some y → eqv x y
theorem eqv_rfl (x : Nat × va_E) : eqv x x := ⟨rfl, Or.inl rfl⟩
theorem weq_rfl (w : va_W) : weq w w := ⟨rfl, fun k x y h1 h2 => by
  have e1 : x = y := Option.some.inj (h1.symm.trans h2)
  rw [e1]
  exact eqv_rfl y⟩
theorem weq_cons {x y : Nat × va_E} {w w2 : va_W} (h1 : eqv x y) (h : weq w w2) : weq (x :: w) (y :: w2) := by
  refine ⟨congrArg (· + 1) h.1, fun k => ?_⟩
  cases k with
  | zero =>
    intro x1 y1 e1 e2
    have f1 : x = x1 := Option.some.inj e1
    have f2 : y = y1 := Option.some.inj e2
    rw [← f1, ← f2]
    exact h1
  | succ k => exact fun x1 y1 e1 e2 => h.2 k x1 y1 e1 e2
theorem weq_app {w w2 v v2 : va_W} (h1 : weq w w2) (h2 : weq v v2) : weq (w ++ v) (w2 ++ v2) := by
  induction w generalizing w2 with
  | nil =>
    cases w2 with
    | nil => exact h2
    | cons y t => exact absurd h1.1 (by simp)
  | cons x t ih =>
    cases w2 with
    | nil => exact absurd h1.1 (by simp)
    | cons y t2 => exact weq_cons (h1.2 0 x y rfl rfl) (ih ⟨Nat.succ.inj h1.1, fun k x1 y1 e1 e2 => h1.2 (k + 1) x1 y1 e1 e2⟩)
theorem weq_map {n : Nat} {f g : Nat → Nat × va_E} (h : ∀ j, j < n → eqv (f j) (g j)) : weq ((List.range n).map f) ((List.range n).map g) := by
  refine ⟨by simp, fun k x y e1 e2 => ?_⟩
  rw [List.getElem?_map] at e1 e2
  by_cases hk : k < n
  · rw [List.getElem?_range hk] at e1 e2
    have f1 : f k = x := Option.some.inj e1
    have f2 : g k = y := Option.some.inj e2
    rw [← f1, ← f2]
    exact h k hk
  · rw [List.getElem?_eq_none (by simpa using hk)] at e1
    cases e1
theorem xv_weq {p : Program} {l : Launch} {e : Env} {R : Room} {s : State} {m : MethodId} {args : Array Value} {below : List Frame} {meth : Method} {c : Code} {Q : State → Prop} {D : va_G} {A : Nat → Prop} {nL cells slots pc : Nat} {w w2 : va_W} {lv : List (Nat × Value)} {st : List Value} (h : weq w w2) (k : xv p l e R s m args below meth c D A nL Q w2 cells slots pc lv st) : xv p l e R s m args below meth c D A nL Q w cells slots pc lv st := by
  intro H locs ls hP hD hS hl
  have hg : ∀ (i : Nat) (y : Nat × va_E), w2[i]? = some y → ∃ x, w[i]? = some x ∧ eqv x y := fun i y hy => by
    have hi : i < w.length := by
      rw [h.1]
      exact (List.getElem?_eq_some_iff.mp hy).1
    exact ⟨w[i], List.getElem?_eq_getElem hi, h.2 i _ _ (List.getElem?_eq_getElem hi) hy⟩
  refine k H locs ls (fun i q hq => ?_) ⟨fun i j q r hq hr he => ?_, fun i q hq => ?_⟩ hS hl
  · obtain ⟨x, hx, e1, e2⟩ := hg i q hq
    have h9 := hP i x hx
    obtain ⟨xa, xe⟩ := x
    obtain ⟨qa, qe⟩ := q
    simp only at e1 e2
    subst e1
    rcases e2 with e2 | ⟨cA, n, f, g, e2, e3, e4⟩
    · subst e2
      exact h9
    · subst e2
      subst e3
      have h8 : H[xa]? = some (vp_cell cA (n, .inr (.inr (.inr (.inr f))))) := h9
      show H[xa]? = some (vp_cell cA (n, .inr (.inr (.inr (.inr g)))))
      rw [h8, vq_ext e4]
  · obtain ⟨x, hx, e1, -⟩ := hg i q hq
    obtain ⟨y, hy, e2, -⟩ := hg j r hr
    exact hD.1 i j x y hx hy (e1.trans (he.trans e2.symm))
  · obtain ⟨x, hx, e1, -⟩ := hg i q hq
    rw [← e1]
    exact hD.2 i x hx
def limC (q : Nat) : Nat := if q = 13 ∨ q = 16 then 9 else if q = 14 then 4 else if q = 17 then 1 else 0
theorem cell_eqv {dA : Nat → ClassId} {a a' : Nat → Nat} {k k' : Nat} {z : Nat → Int32} {l : Int64} (h0 : a k = a' k') (hs : shC k = shC k') (hr : shC k ∈ [11, 12, 13, 14, 15, 16, 17]) (h : ∀ d, d ≤ limC (shC k) → a (k + d) = a' (k' + d)) : eqv (a k, cellC dA a k z l) (a' k', cellC dA a' k' z l) := by
  refine ⟨h0, ?_⟩
  unfold cellC
  simp only
  rw [← hs]
  generalize shC k = q at *
  simp only [List.mem_cons, List.not_mem_nil, or_false] at hr
  rcases hr with rfl | rfl | rfl | rfl | rfl | rfl | rfl
  · exact Or.inl rfl
  · exact Or.inl rfl
  · refine Or.inl ?_
    show (Sum.inr (6, fsX6 a k z l) : va_E) = Sum.inr (6, fsX6 a' k' z l)
    unfold fsX6
    rw [h 1 (by decide), h 6 (by decide), h 7 (by decide), h 8 (by decide), h 9 (by decide)]
  · refine Or.inl ?_
    show (Sum.inr (3, fsX3 a k z l) : va_E) = Sum.inr (3, fsX3 a' k' z l)
    unfold fsX3
    rw [h 1 (by decide), h 2 (by decide), h 3 (by decide), h 4 (by decide)]
  · exact Or.inl rfl
  · refine Or.inr ⟨dA 2, 5, _, _, rfl, rfl, fun j hj => ?_⟩
    show some (a (k + 1 + 2 * j)) = some (a' (k' + 1 + 2 * j))
    rw [Nat.add_assoc k 1, Nat.add_assoc k' 1, h (1 + 2 * j) (by show 1 + 2 * j ≤ 9; omega)]
  · refine Or.inl ?_
    show (Sum.inr (1, fsX1 a k z l) : va_E) = Sum.inr (1, fsX1 a' k' z l)
    unfold fsX1
    rw [h 1 (by decide)]
def cG (dA : Nat → ClassId) (a : Nat → Nat) (Z : ZZ) (k : Nat) : Nat × va_E := (a k, cellC dA a k (Z.1 k) (Z.2 k))
theorem st_weq {dA : Nat → ClassId} {a a1 : Nat → Nat} {Z : ZZ} {i : Nat} (hi : i < 11) (hz : ∀ k, 0 < k → Z.1 k = fun _ => 0) (hz2 : ∀ k, Z.2 k = 0) (h : ∀ j, j < 20 → a1 j = a (19 + 20 * i + j)) : weq (stW dA a1) ((List.range 20).map (fun j => cG dA a Z (19 + 20 * i + j))) := by
  refine weq_map (fun j hj => ?_)
  unfold cG
  rw [hz _ (by omega), hz2]
  have hs : shC (19 + j) = shC (19 + 20 * i + j) := (by decide +kernel : ∀ i, i < 11 → ∀ j, j < 20 → shC (19 + j) = shC (19 + 20 * i + j)) i hi j hj
  have e0 : (a1 j, cellC dA (fun k => a1 (k - 19)) (19 + j) (fun _ => 0) 0) = ((fun k => a1 (k - 19)) (19 + j), cellC dA (fun k => a1 (k - 19)) (19 + j) (fun _ => 0) 0) := by
    show _ = (a1 (19 + j - 19), _)
    rw [show 19 + j - 19 = j by omega]
  rw [e0]
  refine cell_eqv (a := fun k => a1 (k - 19)) (k := 19 + j) ?_ hs ((by decide +kernel : ∀ j, j < 20 → shC (19 + j) ∈ [11, 12, 13, 14, 15, 16, 17]) j hj) (fun d hd => ?_)
  · show a1 (19 + j - 19) = _
    rw [show 19 + j - 19 = j by omega]
    exact h j hj
  · have h9 := (by decide +kernel : ∀ j, j < 20 → j + limC (shC (19 + j)) < 20) j hj
    show a1 (19 + j + d - 19) = _
    rw [show 19 + j + d - 19 = j + d by omega, Nat.add_assoc (19 + 20 * i)]
    exact h (j + d) (by omega)
theorem his_weq {dA : Nat → ClassId} {a : Nat → Nat} {as : Nat → Nat → Nat} {Z : ZZ} (hz : ∀ k, 0 < k → Z.1 k = fun _ => 0) (hz2 : ∀ k, Z.2 k = 0) (h : ∀ i, i < 8 → ∀ j, j < 20 → as i j = a (79 + 20 * i + j)) : ∀ n, n ≤ 8 → weq (hisT dA as n) ((List.range (20 * n)).map (fun j => cG dA a Z (79 + j)))
  | 0, _ => weq_rfl []
  | n + 1, hn => by
    rw [show 20 * (n + 1) = 20 * n + 20 by omega, List.range_add, List.map_append, List.map_map]
    refine weq_app (his_weq hz hz2 h n (by omega)) ?_
    have e1 : ((fun j => cG dA a Z (79 + j)) ∘ fun x => 20 * n + x) = fun j => cG dA a Z (19 + 20 * (n + 3) + j) := by
      funext j
      show cG dA a Z (79 + (20 * n + j)) = _
      rw [show 79 + (20 * n + j) = 19 + 20 * (n + 3) + j by omega]
    rw [e1]
    exact st_weq (by omega) hz hz2 (fun j hj => by rw [h n (by omega) j hj, show 79 + 20 * n + j = 19 + 20 * (n + 3) + j by omega])
