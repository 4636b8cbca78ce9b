def shC (k : Nat) : Nat := if k < 19 then [1, 2, 3, 4, 5, 5, 6, 7, 8, 9, 9, 9, 9, 10, 11, 5, 12, 5, 5].getD k 0 else if k < 239 then [13, 14, 12, 12, 12, 12, 15, 15, 15, 16, 17, 11, 17, 11, 17, 11, 17, 11, 17, 11].getD ((k - 19) % 20) 0 else 0
def shR (k : Nat) : Nat := [1, 2, 2, 2, 3, 4, 5, 5, 5, 6, 7, 8, 9].getD k 0
def elC (q : Nat) (i : Int32) : Nat := q + 1 + 2 * i.toNatClampNeg
def elH (_ : Nat) (i : Int32) : Nat := 79 + 20 * i.toNatClampNeg
abbrev fsX7 (a : Nat → Nat) (k : Nat) (z : Nat → Int32) (l : Int64) : List Value := [.ref (a 19), .ref (a 39), .ref (a 59), .ref (a 1), .ref (a 3), .ref (a 7), .ref (a 13), .ref (a 300), .int (z 8), .int (z 9), .int (z 10)]
abbrev fsX2 (a : Nat → Nat) (k : Nat) (z : Nat → Int32) (l : Int64) : List Value := [.int (z 0), .int (z 1), .ref (a 2)]
abbrev fsX0 (a : Nat → Nat) (k : Nat) (z : Nat → Int32) (l : Int64) : List Value := [.int (z 0), .ref (a 4), .ref (a 5), .ref (a 6)]
abbrev fsX4 (a : Nat → Nat) (k : Nat) (z : Nat → Int32) (l : Int64) : List Value := [.ref (a 8), .int (z 1), .int (z 2), .ref (a 9), .ref (a 10), .ref (a 11), .ref (a 12), .int (z 7), .int (z 8)]
abbrev fsX5 (a : Nat → Nat) (k : Nat) (z : Nat → Int32) (l : Int64) : List Value := [.ref (a 14), .int (z 1), .int (z 2), .ref (a 15), .ref (a 16), .ref (a 17), .ref (a 18)]
abbrev fsX6 (a : Nat → Nat) (k : Nat) (z : Nat → Int32) (l : Int64) : List Value := [.ref (a (k + 1)), .int (z 1), .ref (a (k + 6)), .ref (a (k + 7)), .ref (a (k + 8)), .int (z 5), .ref (a (k + 9)), .long l, .int (z 8)]
abbrev fsX3 (a : Nat → Nat) (k : Nat) (z : Nat → Int32) (l : Int64) : List Value := [.int (z 0), .int (z 1), .ref (a (k + 1)), .ref (a (k + 2)), .ref (a (k + 3)), .ref (a (k + 4)), .int (z 6)]
abbrev fsX1 (a : Nat → Nat) (k : Nat) (z : Nat → Int32) (l : Int64) : List Value := [.int (z 0), .int (z 1), .int (z 2), .int (z 3), .int (z 4), .ref (a (k + 1))]
abbrev fsX8 (a : Nat → Nat) (k : Nat) (z : Nat → Int32) (l : Int64) : List Value := [.ref (a 1), .ref (a 2), .ref (a 3), .ref (a 4), .ref (a 5), .ref (a 6), .ref (a 7), .ref (a 8), .int (z 8), .int (z 9), .int (z 10), .int (z 11), .int (z 12), .int (z 13), .int (z 14), .ref (a 9), .int (z 16), .ref (a 10), .ref (a 11), .ref (a 12), .int (z 20), .int (z 21), .int (z 22), .int (z 23), .int (z 24)]
def cellC (dA : Nat → ClassId) (a : Nat → Nat) (k : Nat) (z : Nat → Int32) (l : Int64) : va_E := match shC k with
  | 1 => .inr (7, fsX7 a k z l)
  | 2 => .inr (2, fsX2 a k z l)
  | 4 => .inr (0, fsX0 a k z l)
  | 7 => .inr (4, fsX4 a k z l)
  | 10 => .inr (5, fsX5 a k z l)
  | 13 => .inr (6, fsX6 a k z l)
  | 14 => .inr (3, fsX3 a k z l)
  | 17 => .inr (1, fsX1 a k z l)
  | 5 => .inl (dA 0, 8, .inl z)
  | 6 => .inl (dA 1, 8, .inl z)
  | 8 => .inl (dA 1, 60, .inl z)
  | 9 => .inl (dA 0, 13, .inl z)
  | 11 => .inl (dA 0, 7, .inl z)
  | 12 => .inl (dA 0, 16, .inl z)
  | 15 => .inl (dA 0, 10, .inl z)
  | 3 => .inl (dA 3, 8, .inr (.inr (.inr (.inr (fun i => some (a (79 + 20 * i)))))))
  | 16 => .inl (dA 2, 5, .inr (.inr (.inr (.inr (fun i => some (a (k + 1 + 2 * i)))))))
  | _ => .inr (0, [])
def cellR (dA : Nat → ClassId) (a : Nat → Nat) (k : Nat) (z : Nat → Int32) (l : Int64) : va_E := match shR k with
  | 1 => .inr (8, fsX8 a k z l)
  | 2 => .inl (dA 0, 180, .inl z)
  | 3 => .inl (dA 0, 1440, .inl z)
  | 4 => .inl (dA 0, 24, .inl z)
  | 5 => .inl (dA 0, 8, .inl z)
  | 6 => .inl (dA 0, 80, .inl z)
  | 7 => .inl (dA 0, 60, .inl z)
  | 8 => .inl (dA 0, 32, .inl z)
  | 9 => .inl (dA 0, 96, .inl z)
  | _ => .inr (0, [])
def cwC (dA : Nat → ClassId) (a : Nat → Nat) (Z : ZZ) : va_W := tw (cellC dA a) a 239 Z
def cwR (dA : Nat → ClassId) (a : Nat → Nat) (Z : ZZ) : va_W := tw (cellR dA a) a 13 Z
theorem shC_lt {k c : Nat} (h : shC k = c) (h0 : c ≠ 0) : k < 239 := by
  rcases Nat.lt_or_ge k 239 with q | q
  · exact q
  · exact absurd h (by unfold shC; rw [if_neg (by omega), if_neg (by omega)]; exact fun e => h0 e.symm)
theorem shR_lt {k c : Nat} (h : shR k = c) (h0 : c ≠ 0) : k < 13 := by
  rcases Nat.lt_or_ge k 13 with q | q
  · exact q
  · refine absurd h (fun e => h0 (e.symm.trans ?_))
    unfold shR
    rw [List.getD_eq_getElem?_getD, List.getElem?_eq_none (by simpa using q)]
    rfl
theorem sh_X6_network {k : Nat} (h : shC k = 13) : shC (k + 1) = 14 := (by decide +kernel : ∀ k, k < 239 → shC k = 13 → shC (k + 1) = 14) k (shC_lt h (by decide)) h
theorem sh_X6_homes {k : Nat} (h : shC k = 13) : shC (k + 6) = 15 := (by decide +kernel : ∀ k, k < 239 → shC k = 13 → shC (k + 6) = 15) k (shC_lt h (by decide)) h
theorem sh_X6_tariffs {k : Nat} (h : shC k = 13) : shC (k + 7) = 15 := (by decide +kernel : ∀ k, k < 239 → shC k = 13 → shC (k + 7) = 15) k (shC_lt h (by decide)) h
theorem sh_X6_bills {k : Nat} (h : shC k = 13) : shC (k + 8) = 15 := (by decide +kernel : ∀ k, k < 239 → shC k = 13 → shC (k + 8) = 15) k (shC_lt h (by decide)) h
theorem sh_X6_calls {k : Nat} (h : shC k = 13) : shC (k + 9) = 16 := (by decide +kernel : ∀ k, k < 239 → shC k = 13 → shC (k + 9) = 16) k (shC_lt h (by decide)) h
theorem sh_X3_ones {k : Nat} (h : shC k = 14) : shC (k + 1) = 12 := (by decide +kernel : ∀ k, k < 239 → shC k = 14 → shC (k + 1) = 12) k (shC_lt h (by decide)) h
theorem sh_X3_others {k : Nat} (h : shC k = 14) : shC (k + 2) = 12 := (by decide +kernel : ∀ k, k < 239 → shC k = 14 → shC (k + 2) = 12) k (shC_lt h (by decide)) h
theorem sh_X3_lengths {k : Nat} (h : shC k = 14) : shC (k + 3) = 12 := (by decide +kernel : ∀ k, k < 239 → shC k = 14 → shC (k + 3) = 12) k (shC_lt h (by decide)) h
theorem sh_X3_carried {k : Nat} (h : shC k = 14) : shC (k + 4) = 12 := (by decide +kernel : ∀ k, k < 239 → shC k = 14 → shC (k + 4) = 12) k (shC_lt h (by decide)) h
theorem sh_X1_route {k : Nat} (h : shC k = 17) : shC (k + 1) = 11 := (by decide +kernel : ∀ k, k < 239 → shC k = 17 → shC (k + 1) = 11) k (shC_lt h (by decide)) h
theorem sh_elC {k : Nat} {i : Int32} (h : shC k = 16) (hi : vin i 5 = true) : shC (elC k i) = 17 := (by decide +kernel : ∀ k, k < 239 → shC k = 16 → ∀ j, j < 5 → shC (k + 1 + 2 * j) = 17) k (shC_lt h (by decide)) h _ (by unfold vin at hi; simp at hi; exact hi.2)
theorem sh_elH {k : Nat} {i : Int32} (_ : shC k = 3) (hi : vin i 8 = true) : shC (elH k i) = 13 := (by decide +kernel : ∀ j, j < 8 → shC (79 + 20 * j) = 13) _ (by unfold vin at hi; simp at hi; exact hi.2)
section SXW
variable {p : Program} {l : Launch} {e : Env} {R : Room} {s : State} {m : MethodId} {args : Array Value} {below : List Frame} {meth : Method} {c : Code} {Q : State → Prop} {D : va_G} {dA : Nat → ClassId} {sa : String → Nat → Nat} {A : Nat → Prop} {cc : ByteArray} {nL cells slots pc : Nat} {own : String} {cw : Cond} {lv lv' : List (Nat × Value)} {st : List Value} {a : Nat → Nat} {Z Z2 : ZZ} {t : Nat}
theorem ob_X7 (h : shC t = 1) (z : Nat → Int32) (l9 : Int64) : cellC dA a t z l9 = .inr (7, fsX7 a t z l9) := by unfold cellC; generalize shC t = q at h; subst h; rfl
theorem in_X7 : ∀ x ∈ u_ws RX7 TX7 11, x ∈ WT := fun x h => wt_in ((by decide +kernel : ∀ x ∈ u_ws RX7 TX7 11, x ∈ lw_tbl) x h) ((by decide +kernel : ∀ x ∈ u_ws RX7 TX7 11, goodWord x = true) x h)
theorem xgX7 (C : xv_C p l s m args meth c D dA sa A cc nL own (cw :: WT)) {index : Nat} {v : Value} (d : decode cc pc = .ok (.getfield index, 3)) (h : shC t = 1) (j : Nat) (hj : j < 11) (hw : Cond.fieldLink own index (TX7 j).1 (TX7 j).2.1 (TX7 j).2.2.1 ∈ WT) (hv : (fsX7 a t (Z.1 t) (Z.2 t))[j]? = some v) (k : xv p l e R s m args below meth c D A nL Q (cwC dA a Z) cells slots (pc + 3) lv (v :: st)) : xv p l e R s m args below meth c D A nL Q (cwC dA a Z) cells slots pc lv (.ref (a t) :: st) :=
  xv_get (ref := "") (Cn := RX7) (T := TX7) (N := 11) C d (fun x h9 => List.mem_cons_of_mem _ (in_X7 x h9)) (ci := 7) rfl (tw_at (shC_lt h (by decide)) (ob_X7 h _ _)) j hj (List.mem_cons_of_mem _ hw) hv k
theorem xpX7 (C : xv_C p l s m args meth c D dA sa A cc nL own (cw :: WT)) {index : Nat} {x : Int32} {ty : FieldType} (d : decode cc pc = .ok (.putfield index, 3)) (h : shC t = 1) (j : Nat) (hj : j < 11) (hw : Cond.fieldLink own index (TX7 j).1 (TX7 j).2.1 (TX7 j).2.2.1 ∈ WT) (hfin : (TX7 j).2.2.2 = false) (hd : parseFieldDescriptor (TX7 j).2.2.1 = some ty) (hn : narrow ty (.int x) = .int x) (hfit : fits ty (.int x) = true) (hs : (fsX7 a t (Z.1 t) (Z.2 t)).set j (.int x) = fsX7 a t (upd (Z.1 t) j x) (Z.2 t)) (hZ : Z2 = pI Z t j x) (k : xv p l e R s m args below meth c D A nL Q (cwC dA a Z2) cells slots (pc + 3) lv st) : xv p l e R s m args below meth c D A nL Q (cwC dA a Z) cells slots pc lv (.int x :: .ref (a t) :: st) :=
  xv_put (Cn := RX7) (T := TX7) (N := 11) C d (fun x h9 => List.mem_cons_of_mem _ (in_X7 x h9)) tyX7_ok nmX7 (ci := 7) rfl (tw_at (shC_lt h (by decide)) (ob_X7 h _ _)) j hj (List.mem_cons_of_mem _ hw) hfin hd hn hfit (by exact hj) (by
    rw [hZ]
    exact tw_ext (shC_lt h (by decide)) (by rw [pI_same, ob_X7 h]; exact congrArg (fun f => (Sum.inr (7, f) : va_E)) hs.symm) (pI_oth Z t j x) (fun _ _ => rfl)) k
theorem ob_X2 (h : shC t = 2) (z : Nat → Int32) (l9 : Int64) : cellC dA a t z l9 = .inr (2, fsX2 a t z l9) := by unfold cellC; generalize shC t = q at h; subst h; rfl
theorem in_X2 : ∀ x ∈ u_ws RX2 TX2 3, x ∈ WT := fun x h => wt_in ((by decide +kernel : ∀ x ∈ u_ws RX2 TX2 3, x ∈ lw_tbl) x h) ((by decide +kernel : ∀ x ∈ u_ws RX2 TX2 3, goodWord x = true) x h)
theorem xgX2 (C : xv_C p l s m args meth c D dA sa A cc nL own (cw :: WT)) {index : Nat} {v : Value} (d : decode cc pc = .ok (.getfield index, 3)) (h : shC t = 2) (j : Nat) (hj : j < 3) (hw : Cond.fieldLink own index (TX2 j).1 (TX2 j).2.1 (TX2 j).2.2.1 ∈ WT) (hv : (fsX2 a t (Z.1 t) (Z.2 t))[j]? = some v) (k : xv p l e R s m args below meth c D A nL Q (cwC dA a Z) cells slots (pc + 3) lv (v :: st)) : xv p l e R s m args below meth c D A nL Q (cwC dA a Z) cells slots pc lv (.ref (a t) :: st) :=
  xv_get (ref := "") (Cn := RX2) (T := TX2) (N := 3) C d (fun x h9 => List.mem_cons_of_mem _ (in_X2 x h9)) (ci := 2) rfl (tw_at (shC_lt h (by decide)) (ob_X2 h _ _)) j hj (List.mem_cons_of_mem _ hw) hv k
theorem xpX2 (C : xv_C p l s m args meth c D dA sa A cc nL own (cw :: WT)) {index : Nat} {x : Int32} {ty : FieldType} (d : decode cc pc = .ok (.putfield index, 3)) (h : shC t = 2) (j : Nat) (hj : j < 3) (hw : Cond.fieldLink own index (TX2 j).1 (TX2 j).2.1 (TX2 j).2.2.1 ∈ WT) (hfin : (TX2 j).2.2.2 = false) (hd : parseFieldDescriptor (TX2 j).2.2.1 = some ty) (hn : narrow ty (.int x) = .int x) (hfit : fits ty (.int x) = true) (hs : (fsX2 a t (Z.1 t) (Z.2 t)).set j (.int x) = fsX2 a t (upd (Z.1 t) j x) (Z.2 t)) (hZ : Z2 = pI Z t j x) (k : xv p l e R s m args below meth c D A nL Q (cwC dA a Z2) cells slots (pc + 3) lv st) : xv p l e R s m args below meth c D A nL Q (cwC dA a Z) cells slots pc lv (.int x :: .ref (a t) :: st) :=
  xv_put (Cn := RX2) (T := TX2) (N := 3) C d (fun x h9 => List.mem_cons_of_mem _ (in_X2 x h9)) tyX2_ok nmX2 (ci := 2) rfl (tw_at (shC_lt h (by decide)) (ob_X2 h _ _)) j hj (List.mem_cons_of_mem _ hw) hfin hd hn hfit (by exact hj) (by
    rw [hZ]
    exact tw_ext (shC_lt h (by decide)) (by rw [pI_same, ob_X2 h]; exact congrArg (fun f => (Sum.inr (2, f) : va_E)) hs.symm) (pI_oth Z t j x) (fun _ _ => rfl)) k
theorem ob_X0 (h : shC t = 4) (z : Nat → Int32) (l9 : Int64) : cellC dA a t z l9 = .inr (0, fsX0 a t z l9) := by unfold cellC; generalize shC t = q at h; subst h; rfl
theorem in_X0 : ∀ x ∈ u_ws RX0 TX0 4, x ∈ WT := fun x h => wt_in ((by decide +kernel : ∀ x ∈ u_ws RX0 TX0 4, x ∈ lw_tbl) x h) ((by decide +kernel : ∀ x ∈ u_ws RX0 TX0 4, goodWord x = true) x h)
theorem xgX0 (C : xv_C p l s m args meth c D dA sa A cc nL own (cw :: WT)) {index : Nat} {v : Value} (d : decode cc pc = .ok (.getfield index, 3)) (h : shC t = 4) (j : Nat) (hj : j < 4) (hw : Cond.fieldLink own index (TX0 j).1 (TX0 j).2.1 (TX0 j).2.2.1 ∈ WT) (hv : (fsX0 a t (Z.1 t) (Z.2 t))[j]? = some v) (k : xv p l e R s m args below meth c D A nL Q (cwC dA a Z) cells slots (pc + 3) lv (v :: st)) : xv p l e R s m args below meth c D A nL Q (cwC dA a Z) cells slots pc lv (.ref (a t) :: st) :=
  xv_get (ref := "") (Cn := RX0) (T := TX0) (N := 4) C d (fun x h9 => List.mem_cons_of_mem _ (in_X0 x h9)) (ci := 0) rfl (tw_at (shC_lt h (by decide)) (ob_X0 h _ _)) j hj (List.mem_cons_of_mem _ hw) hv k
theorem xpX0 (C : xv_C p l s m args meth c D dA sa A cc nL own (cw :: WT)) {index : Nat} {x : Int32} {ty : FieldType} (d : decode cc pc = .ok (.putfield index, 3)) (h : shC t = 4) (j : Nat) (hj : j < 4) (hw : Cond.fieldLink own index (TX0 j).1 (TX0 j).2.1 (TX0 j).2.2.1 ∈ WT) (hfin : (TX0 j).2.2.2 = false) (hd : parseFieldDescriptor (TX0 j).2.2.1 = some ty) (hn : narrow ty (.int x) = .int x) (hfit : fits ty (.int x) = true) (hs : (fsX0 a t (Z.1 t) (Z.2 t)).set j (.int x) = fsX0 a t (upd (Z.1 t) j x) (Z.2 t)) (hZ : Z2 = pI Z t j x) (k : xv p l e R s m args below meth c D A nL Q (cwC dA a Z2) cells slots (pc + 3) lv st) : xv p l e R s m args below meth c D A nL Q (cwC dA a Z) cells slots pc lv (.int x :: .ref (a t) :: st) :=
  xv_put (Cn := RX0) (T := TX0) (N := 4) C d (fun x h9 => List.mem_cons_of_mem _ (in_X0 x h9)) tyX0_ok nmX0 (ci := 0) rfl (tw_at (shC_lt h (by decide)) (ob_X0 h _ _)) j hj (List.mem_cons_of_mem _ hw) hfin hd hn hfit (by exact hj) (by
    rw [hZ]
    exact tw_ext (shC_lt h (by decide)) (by rw [pI_same, ob_X0 h]; exact congrArg (fun f => (Sum.inr (0, f) : va_E)) hs.symm) (pI_oth Z t j x) (fun _ _ => rfl)) k
theorem ob_X4 (h : shC t = 7) (z : Nat → Int32) (l9 : Int64) : cellC dA a t z l9 = .inr (4, fsX4 a t z l9) := by unfold cellC; generalize shC t = q at h; subst h; rfl
theorem in_X4 : ∀ x ∈ u_ws RX4 TX4 9, x ∈ WT := fun x h => wt_in ((by decide +kernel : ∀ x ∈ u_ws RX4 TX4 9, x ∈ lw_tbl) x h) ((by decide +kernel : ∀ x ∈ u_ws RX4 TX4 9, goodWord x = true) x h)
theorem xgX4 (C : xv_C p l s m args meth c D dA sa A cc nL own (cw :: WT)) {index : Nat} {v : Value} (d : decode cc pc = .ok (.getfield index, 3)) (h : shC t = 7) (j : Nat) (hj : j < 9) (hw : Cond.fieldLink own index (TX4 j).1 (TX4 j).2.1 (TX4 j).2.2.1 ∈ WT) (hv : (fsX4 a t (Z.1 t) (Z.2 t))[j]? = some v) (k : xv p l e R s m args below meth c D A nL Q (cwC dA a Z) cells slots (pc + 3) lv (v :: st)) : xv p l e R s m args below meth c D A nL Q (cwC dA a Z) cells slots pc lv (.ref (a t) :: st) :=
  xv_get (ref := "") (Cn := RX4) (T := TX4) (N := 9) C d (fun x h9 => List.mem_cons_of_mem _ (in_X4 x h9)) (ci := 4) rfl (tw_at (shC_lt h (by decide)) (ob_X4 h _ _)) j hj (List.mem_cons_of_mem _ hw) hv k
theorem xpX4 (C : xv_C p l s m args meth c D dA sa A cc nL own (cw :: WT)) {index : Nat} {x : Int32} {ty : FieldType} (d : decode cc pc = .ok (.putfield index, 3)) (h : shC t = 7) (j : Nat) (hj : j < 9) (hw : Cond.fieldLink own index (TX4 j).1 (TX4 j).2.1 (TX4 j).2.2.1 ∈ WT) (hfin : (TX4 j).2.2.2 = false) (hd : parseFieldDescriptor (TX4 j).2.2.1 = some ty) (hn : narrow ty (.int x) = .int x) (hfit : fits ty (.int x) = true) (hs : (fsX4 a t (Z.1 t) (Z.2 t)).set j (.int x) = fsX4 a t (upd (Z.1 t) j x) (Z.2 t)) (hZ : Z2 = pI Z t j x) (k : xv p l e R s m args below meth c D A nL Q (cwC dA a Z2) cells slots (pc + 3) lv st) : xv p l e R s m args below meth c D A nL Q (cwC dA a Z) cells slots pc lv (.int x :: .ref (a t) :: st) :=
  xv_put (Cn := RX4) (T := TX4) (N := 9) C d (fun x h9 => List.mem_cons_of_mem _ (in_X4 x h9)) tyX4_ok nmX4 (ci := 4) rfl (tw_at (shC_lt h (by decide)) (ob_X4 h _ _)) j hj (List.mem_cons_of_mem _ hw) hfin hd hn hfit (by exact hj) (by
    rw [hZ]
    exact tw_ext (shC_lt h (by decide)) (by rw [pI_same, ob_X4 h]; exact congrArg (fun f => (Sum.inr (4, f) : va_E)) hs.symm) (pI_oth Z t j x) (fun _ _ => rfl)) k
theorem ob_X5 (h : shC t = 10) (z : Nat → Int32) (l9 : Int64) : cellC dA a t z l9 = .inr (5, fsX5 a t z l9) := by unfold cellC; generalize shC t = q at h; subst h; rfl
theorem in_X5 : ∀ x ∈ u_ws RX5 TX5 7, x ∈ WT := fun x h => wt_in ((by decide +kernel : ∀ x ∈ u_ws RX5 TX5 7, x ∈ lw_tbl) x h) ((by decide +kernel : ∀ x ∈ u_ws RX5 TX5 7, goodWord x = true) x h)
theorem xgX5 (C : xv_C p l s m args meth c D dA sa A cc nL own (cw :: WT)) {index : Nat} {v : Value} (d : decode cc pc = .ok (.getfield index, 3)) (h : shC t = 10) (j : Nat) (hj : j < 7) (hw : Cond.fieldLink own index (TX5 j).1 (TX5 j).2.1 (TX5 j).2.2.1 ∈ WT) (hv : (fsX5 a t (Z.1 t) (Z.2 t))[j]? = some v) (k : xv p l e R s m args below meth c D A nL Q (cwC dA a Z) cells slots (pc + 3) lv (v :: st)) : xv p l e R s m args below meth c D A nL Q (cwC dA a Z) cells slots pc lv (.ref (a t) :: st) :=
  xv_get (ref := "") (Cn := RX5) (T := TX5) (N := 7) C d (fun x h9 => List.mem_cons_of_mem _ (in_X5 x h9)) (ci := 5) rfl (tw_at (shC_lt h (by decide)) (ob_X5 h _ _)) j hj (List.mem_cons_of_mem _ hw) hv k
theorem xpX5 (C : xv_C p l s m args meth c D dA sa A cc nL own (cw :: WT)) {index : Nat} {x : Int32} {ty : FieldType} (d : decode cc pc = .ok (.putfield index, 3)) (h : shC t = 10) (j : Nat) (hj : j < 7) (hw : Cond.fieldLink own index (TX5 j).1 (TX5 j).2.1 (TX5 j).2.2.1 ∈ WT) (hfin : (TX5 j).2.2.2 = false) (hd : parseFieldDescriptor (TX5 j).2.2.1 = some ty) (hn : narrow ty (.int x) = .int x) (hfit : fits ty (.int x) = true) (hs : (fsX5 a t (Z.1 t) (Z.2 t)).set j (.int x) = fsX5 a t (upd (Z.1 t) j x) (Z.2 t)) (hZ : Z2 = pI Z t j x) (k : xv p l e R s m args below meth c D A nL Q (cwC dA a Z2) cells slots (pc + 3) lv st) : xv p l e R s m args below meth c D A nL Q (cwC dA a Z) cells slots pc lv (.int x :: .ref (a t) :: st) :=
  xv_put (Cn := RX5) (T := TX5) (N := 7) C d (fun x h9 => List.mem_cons_of_mem _ (in_X5 x h9)) tyX5_ok nmX5 (ci := 5) rfl (tw_at (shC_lt h (by decide)) (ob_X5 h _ _)) j hj (List.mem_cons_of_mem _ hw) hfin hd hn hfit (by exact hj) (by
    rw [hZ]
    exact tw_ext (shC_lt h (by decide)) (by rw [pI_same, ob_X5 h]; exact congrArg (fun f => (Sum.inr (5, f) : va_E)) hs.symm) (pI_oth Z t j x) (fun _ _ => rfl)) k
theorem ob_X6 (h : shC t = 13) (z : Nat → Int32) (l9 : Int64) : cellC dA a t z l9 = .inr (6, fsX6 a t z l9) := by unfold cellC; generalize shC t = q at h; subst h; rfl
theorem in_X6 : ∀ x ∈ u_ws RX6 TX6 9, x ∈ WT := fun x h => wt_in ((by decide +kernel : ∀ x ∈ u_ws RX6 TX6 9, x ∈ lw_tbl) x h) ((by decide +kernel : ∀ x ∈ u_ws RX6 TX6 9, goodWord x = true) x h)
theorem xgX6 (C : xv_C p l s m args meth c D dA sa A cc nL own (cw :: WT)) {index : Nat} {v : Value} (d : decode cc pc = .ok (.getfield index, 3)) (h : shC t = 13) (j : Nat) (hj : j < 9) (hw : Cond.fieldLink own index (TX6 j).1 (TX6 j).2.1 (TX6 j).2.2.1 ∈ WT) (hv : (fsX6 a t (Z.1 t) (Z.2 t))[j]? = some v) (k : xv p l e R s m args below meth c D A nL Q (cwC dA a Z) cells slots (pc + 3) lv (v :: st)) : xv p l e R s m args below meth c D A nL Q (cwC dA a Z) cells slots pc lv (.ref (a t) :: st) :=
  xv_get (ref := "") (Cn := RX6) (T := TX6) (N := 9) C d (fun x h9 => List.mem_cons_of_mem _ (in_X6 x h9)) (ci := 6) rfl (tw_at (shC_lt h (by decide)) (ob_X6 h _ _)) j hj (List.mem_cons_of_mem _ hw) hv k
theorem xpX6 (C : xv_C p l s m args meth c D dA sa A cc nL own (cw :: WT)) {index : Nat} {x : Int32} {ty : FieldType} (d : decode cc pc = .ok (.putfield index, 3)) (h : shC t = 13) (j : Nat) (hj : j < 9) (hw : Cond.fieldLink own index (TX6 j).1 (TX6 j).2.1 (TX6 j).2.2.1 ∈ WT) (hfin : (TX6 j).2.2.2 = false) (hd : parseFieldDescriptor (TX6 j).2.2.1 = some ty) (hn : narrow ty (.int x) = .int x) (hfit : fits ty (.int x) = true) (hs : (fsX6 a t (Z.1 t) (Z.2 t)).set j (.int x) = fsX6 a t (upd (Z.1 t) j x) (Z.2 t)) (hZ : Z2 = pI Z t j x) (k : xv p l e R s m args below meth c D A nL Q (cwC dA a Z2) cells slots (pc + 3) lv st) : xv p l e R s m args below meth c D A nL Q (cwC dA a Z) cells slots pc lv (.int x :: .ref (a t) :: st) :=
  xv_put (Cn := RX6) (T := TX6) (N := 9) C d (fun x h9 => List.mem_cons_of_mem _ (in_X6 x h9)) tyX6_ok nmX6 (ci := 6) rfl (tw_at (shC_lt h (by decide)) (ob_X6 h _ _)) j hj (List.mem_cons_of_mem _ hw) hfin hd hn hfit (by exact hj) (by
    rw [hZ]
    exact tw_ext (shC_lt h (by decide)) (by rw [pI_same, ob_X6 h]; exact congrArg (fun f => (Sum.inr (6, f) : va_E)) hs.symm) (pI_oth Z t j x) (fun _ _ => rfl)) k
theorem xplX6 (C : xv_C p l s m args meth c D dA sa A cc nL own (cw :: WT)) {index : Nat} {x : Int64} (d : decode cc pc = .ok (.putfield index, 3)) (h : shC t = 13) (j : Nat) (hj : j < 9) (hw : Cond.fieldLink own index (TX6 j).1 (TX6 j).2.1 (TX6 j).2.2.1 ∈ WT) (hfin : (TX6 j).2.2.2 = false) (hd : parseFieldDescriptor (TX6 j).2.2.1 = some .long) (hs : (fsX6 a t (Z.1 t) (Z.2 t)).set j (.long x) = fsX6 a t (Z.1 t) x) (hZ : Z2 = pL Z t x) (k : xv p l e R s m args below meth c D A nL Q (cwC dA a Z2) cells slots (pc + 3) lv st) : xv p l e R s m args below meth c D A nL Q (cwC dA a Z) cells slots pc lv (.long x :: .ref (a t) :: st) :=
  xv_put (Cn := RX6) (T := TX6) (N := 9) C d (fun x h9 => List.mem_cons_of_mem _ (in_X6 x h9)) tyX6_ok nmX6 (ci := 6) rfl (tw_at (shC_lt h (by decide)) (ob_X6 h _ _)) j hj (List.mem_cons_of_mem _ hw) hfin hd rfl rfl (by exact hj) (by
    rw [hZ]
    exact tw_ext (shC_lt h (by decide)) (by rw [pL_same, ob_X6 h]; exact congrArg (fun f => (Sum.inr (6, f) : va_E)) hs.symm) (fun _ _ => rfl) (pL_oth Z t x)) k
theorem ob_X3 (h : shC t = 14) (z : Nat → Int32) (l9 : Int64) : cellC dA a t z l9 = .inr (3, fsX3 a t z l9) := by unfold cellC; generalize shC t = q at h; subst h; rfl
theorem in_X3 : ∀ x ∈ u_ws RX3 TX3 7, x ∈ WT := fun x h => wt_in ((by decide +kernel : ∀ x ∈ u_ws RX3 TX3 7, x ∈ lw_tbl) x h) ((by decide +kernel : ∀ x ∈ u_ws RX3 TX3 7, goodWord x = true) x h)
theorem xgX3 (C : xv_C p l s m args meth c D dA sa A cc nL own (cw :: WT)) {index : Nat} {v : Value} (d : decode cc pc = .ok (.getfield index, 3)) (h : shC t = 14) (j : Nat) (hj : j < 7) (hw : Cond.fieldLink own index (TX3 j).1 (TX3 j).2.1 (TX3 j).2.2.1 ∈ WT) (hv : (fsX3 a t (Z.1 t) (Z.2 t))[j]? = some v) (k : xv p l e R s m args below meth c D A nL Q (cwC dA a Z) cells slots (pc + 3) lv (v :: st)) : xv p l e R s m args below meth c D A nL Q (cwC dA a Z) cells slots pc lv (.ref (a t) :: st) :=
  xv_get (ref := "") (Cn := RX3) (T := TX3) (N := 7) C d (fun x h9 => List.mem_cons_of_mem _ (in_X3 x h9)) (ci := 3) rfl (tw_at (shC_lt h (by decide)) (ob_X3 h _ _)) j hj (List.mem_cons_of_mem _ hw) hv k
theorem xpX3 (C : xv_C p l s m args meth c D dA sa A cc nL own (cw :: WT)) {index : Nat} {x : Int32} {ty : FieldType} (d : decode cc pc = .ok (.putfield index, 3)) (h : shC t = 14) (j : Nat) (hj : j < 7) (hw : Cond.fieldLink own index (TX3 j).1 (TX3 j).2.1 (TX3 j).2.2.1 ∈ WT) (hfin : (TX3 j).2.2.2 = false) (hd : parseFieldDescriptor (TX3 j).2.2.1 = some ty) (hn : narrow ty (.int x) = .int x) (hfit : fits ty (.int x) = true) (hs : (fsX3 a t (Z.1 t) (Z.2 t)).set j (.int x) = fsX3 a t (upd (Z.1 t) j x) (Z.2 t)) (hZ : Z2 = pI Z t j x) (k : xv p l e R s m args below meth c D A nL Q (cwC dA a Z2) cells slots (pc + 3) lv st) : xv p l e R s m args below meth c D A nL Q (cwC dA a Z) cells slots pc lv (.int x :: .ref (a t) :: st) :=
  xv_put (Cn := RX3) (T := TX3) (N := 7) C d (fun x h9 => List.mem_cons_of_mem _ (in_X3 x h9)) tyX3_ok nmX3 (ci := 3) rfl (tw_at (shC_lt h (by decide)) (ob_X3 h _ _)) j hj (List.mem_cons_of_mem _ hw) hfin hd hn hfit (by exact hj) (by
    rw [hZ]
    exact tw_ext (shC_lt h (by decide)) (by rw [pI_same, ob_X3 h]; exact congrArg (fun f => (Sum.inr (3, f) : va_E)) hs.symm) (pI_oth Z t j x) (fun _ _ => rfl)) k
theorem ob_X1 (h : shC t = 17) (z : Nat → Int32) (l9 : Int64) : cellC dA a t z l9 = .inr (1, fsX1 a t z l9) := by unfold cellC; generalize shC t = q at h; subst h; rfl
theorem in_X1 : ∀ x ∈ u_ws RX1 TX1 6, x ∈ WT := fun x h => wt_in ((by decide +kernel : ∀ x ∈ u_ws RX1 TX1 6, x ∈ lw_tbl) x h) ((by decide +kernel : ∀ x ∈ u_ws RX1 TX1 6, goodWord x = true) x h)
theorem xgX1 (C : xv_C p l s m args meth c D dA sa A cc nL own (cw :: WT)) {index : Nat} {v : Value} (d : decode cc pc = .ok (.getfield index, 3)) (h : shC t = 17) (j : Nat) (hj : j < 6) (hw : Cond.fieldLink own index (TX1 j).1 (TX1 j).2.1 (TX1 j).2.2.1 ∈ WT) (hv : (fsX1 a t (Z.1 t) (Z.2 t))[j]? = some v) (k : xv p l e R s m args below meth c D A nL Q (cwC dA a Z) cells slots (pc + 3) lv (v :: st)) : xv p l e R s m args below meth c D A nL Q (cwC dA a Z) cells slots pc lv (.ref (a t) :: st) :=
  xv_get (ref := "") (Cn := RX1) (T := TX1) (N := 6) C d (fun x h9 => List.mem_cons_of_mem _ (in_X1 x h9)) (ci := 1) rfl (tw_at (shC_lt h (by decide)) (ob_X1 h _ _)) j hj (List.mem_cons_of_mem _ hw) hv k
theorem xpX1 (C : xv_C p l s m args meth c D dA sa A cc nL own (cw :: WT)) {index : Nat} {x : Int32} {ty : FieldType} (d : decode cc pc = .ok (.putfield index, 3)) (h : shC t = 17) (j : Nat) (hj : j < 6) (hw : Cond.fieldLink own index (TX1 j).1 (TX1 j).2.1 (TX1 j).2.2.1 ∈ WT) (hfin : (TX1 j).2.2.2 = false) (hd : parseFieldDescriptor (TX1 j).2.2.1 = some ty) (hn : narrow ty (.int x) = .int x) (hfit : fits ty (.int x) = true) (hs : (fsX1 a t (Z.1 t) (Z.2 t)).set j (.int x) = fsX1 a t (upd (Z.1 t) j x) (Z.2 t)) (hZ : Z2 = pI Z t j x) (k : xv p l e R s m args below meth c D A nL Q (cwC dA a Z2) cells slots (pc + 3) lv st) : xv p l e R s m args below meth c D A nL Q (cwC dA a Z) cells slots pc lv (.int x :: .ref (a t) :: st) :=
  xv_put (Cn := RX1) (T := TX1) (N := 6) C d (fun x h9 => List.mem_cons_of_mem _ (in_X1 x h9)) tyX1_ok nmX1 (ci := 1) rfl (tw_at (shC_lt h (by decide)) (ob_X1 h _ _)) j hj (List.mem_cons_of_mem _ hw) hfin hd hn hfit (by exact hj) (by
    rw [hZ]
    exact tw_ext (shC_lt h (by decide)) (by rw [pI_same, ob_X1 h]; exact congrArg (fun f => (Sum.inr (1, f) : va_E)) hs.symm) (pI_oth Z t j x) (fun _ _ => rfl)) k
theorem ar_C5 (h : shC t = 5) (z : Nat → Int32) (l9 : Int64) : cellC dA a t z l9 = .inl (dA 0, 8, .inl z) := by unfold cellC; generalize shC t = q at h; subst h; rfl
theorem xl_C5 (C : xv_C p l s m args meth c D dA sa A cc nL own (cw :: WT)) {i : Int32} (d : decode cc pc = .ok (.iaload, 1)) (h : shC t = 5) (hi : vin i 8 = true) (k : xv p l e R s m args below meth c D A nL Q (cwC dA a Z) cells slots (pc + 1) lv (.int (gI Z t i.toNatClampNeg) :: st)) : xv p l e R s m args below meth c D A nL Q (cwC dA a Z) cells slots pc lv (.int i :: .ref (a t) :: st) :=
  xv_iald C d (tw_at (shC_lt h (by decide)) (ar_C5 h _ _)) hi k
theorem xs_C5 (C : xv_C p l s m args meth c D dA sa A cc nL own (cw :: WT)) {i x : Int32} (d : decode cc pc = .ok (.iastore, 1)) (h : shC t = 5) (hi : vin i 8 = true) (hZ : Z2 = pI Z t i.toNatClampNeg x) (k : xv p l e R s m args below meth c D A nL Q (cwC dA a Z2) cells slots (pc + 1) lv st) : xv p l e R s m args below meth c D A nL Q (cwC dA a Z) cells slots pc lv (.int x :: .int i :: .ref (a t) :: st) :=
  xv_iast C d (tw_at (shC_lt h (by decide)) (ar_C5 h _ _)) hi (by
    rw [hZ]
    exact tw_ext (shC_lt h (by decide)) (by rw [pI_same, ar_C5 h]) (pI_oth Z t _ _) (fun _ _ => rfl)) k
theorem ar_C6 (h : shC t = 6) (z : Nat → Int32) (l9 : Int64) : cellC dA a t z l9 = .inl (dA 1, 8, .inl z) := by unfold cellC; generalize shC t = q at h; subst h; rfl
theorem xl_C6 (C : xv_C p l s m args meth c D dA sa A cc nL own (cw :: WT)) {i : Int32} (d : decode cc pc = .ok (.caload, 1)) (h : shC t = 6) (hi : vin i 8 = true) (k : xv p l e R s m args below meth c D A nL Q (cwC dA a Z) cells slots (pc + 1) lv (.int (gI Z t i.toNatClampNeg) :: st)) : xv p l e R s m args below meth c D A nL Q (cwC dA a Z) cells slots pc lv (.int i :: .ref (a t) :: st) :=
  xv_cald C d (tw_at (shC_lt h (by decide)) (ar_C6 h _ _)) hi k
theorem xs_C6 (C : xv_C p l s m args meth c D dA sa A cc nL own (cw :: WT)) {i x : Int32} (d : decode cc pc = .ok (.castore, 1)) (h : shC t = 6) (hi : vin i 8 = true) (hZ : Z2 = pI Z t i.toNatClampNeg (vp_nar .char x)) (k : xv p l e R s m args below meth c D A nL Q (cwC dA a Z2) cells slots (pc + 1) lv st) : xv p l e R s m args below meth c D A nL Q (cwC dA a Z) cells slots pc lv (.int x :: .int i :: .ref (a t) :: st) :=
  xv_cast C d (tw_at (shC_lt h (by decide)) (ar_C6 h _ _)) hi (by
    rw [hZ]
    exact tw_ext (shC_lt h (by decide)) (by rw [pI_same, ar_C6 h]) (pI_oth Z t _ _) (fun _ _ => rfl)) k
theorem ar_C8 (h : shC t = 8) (z : Nat → Int32) (l9 : Int64) : cellC dA a t z l9 = .inl (dA 1, 60, .inl z) := by unfold cellC; generalize shC t = q at h; subst h; rfl
theorem xl_C8 (C : xv_C p l s m args meth c D dA sa A cc nL own (cw :: WT)) {i : Int32} (d : decode cc pc = .ok (.caload, 1)) (h : shC t = 8) (hi : vin i 60 = true) (k : xv p l e R s m args below meth c D A nL Q (cwC dA a Z) cells slots (pc + 1) lv (.int (gI Z t i.toNatClampNeg) :: st)) : xv p l e R s m args below meth c D A nL Q (cwC dA a Z) cells slots pc lv (.int i :: .ref (a t) :: st) :=
  xv_cald C d (tw_at (shC_lt h (by decide)) (ar_C8 h _ _)) hi k
theorem xs_C8 (C : xv_C p l s m args meth c D dA sa A cc nL own (cw :: WT)) {i x : Int32} (d : decode cc pc = .ok (.castore, 1)) (h : shC t = 8) (hi : vin i 60 = true) (hZ : Z2 = pI Z t i.toNatClampNeg (vp_nar .char x)) (k : xv p l e R s m args below meth c D A nL Q (cwC dA a Z2) cells slots (pc + 1) lv st) : xv p l e R s m args below meth c D A nL Q (cwC dA a Z) cells slots pc lv (.int x :: .int i :: .ref (a t) :: st) :=
  xv_cast C d (tw_at (shC_lt h (by decide)) (ar_C8 h _ _)) hi (by
    rw [hZ]
    exact tw_ext (shC_lt h (by decide)) (by rw [pI_same, ar_C8 h]) (pI_oth Z t _ _) (fun _ _ => rfl)) k
theorem ar_C9 (h : shC t = 9) (z : Nat → Int32) (l9 : Int64) : cellC dA a t z l9 = .inl (dA 0, 13, .inl z) := by unfold cellC; generalize shC t = q at h; subst h; rfl
theorem xl_C9 (C : xv_C p l s m args meth c D dA sa A cc nL own (cw :: WT)) {i : Int32} (d : decode cc pc = .ok (.iaload, 1)) (h : shC t = 9) (hi : vin i 13 = true) (k : xv p l e R s m args below meth c D A nL Q (cwC dA a Z) cells slots (pc + 1) lv (.int (gI Z t i.toNatClampNeg) :: st)) : xv p l e R s m args below meth c D A nL Q (cwC dA a Z) cells slots pc lv (.int i :: .ref (a t) :: st) :=
  xv_iald C d (tw_at (shC_lt h (by decide)) (ar_C9 h _ _)) hi k
theorem xs_C9 (C : xv_C p l s m args meth c D dA sa A cc nL own (cw :: WT)) {i x : Int32} (d : decode cc pc = .ok (.iastore, 1)) (h : shC t = 9) (hi : vin i 13 = true) (hZ : Z2 = pI Z t i.toNatClampNeg x) (k : xv p l e R s m args below meth c D A nL Q (cwC dA a Z2) cells slots (pc + 1) lv st) : xv p l e R s m args below meth c D A nL Q (cwC dA a Z) cells slots pc lv (.int x :: .int i :: .ref (a t) :: st) :=
  xv_iast C d (tw_at (shC_lt h (by decide)) (ar_C9 h _ _)) hi (by
    rw [hZ]
    exact tw_ext (shC_lt h (by decide)) (by rw [pI_same, ar_C9 h]) (pI_oth Z t _ _) (fun _ _ => rfl)) k
theorem ar_C11 (h : shC t = 11) (z : Nat → Int32) (l9 : Int64) : cellC dA a t z l9 = .inl (dA 0, 7, .inl z) := by unfold cellC; generalize shC t = q at h; subst h; rfl
theorem xl_C11 (C : xv_C p l s m args meth c D dA sa A cc nL own (cw :: WT)) {i : Int32} (d : decode cc pc = .ok (.iaload, 1)) (h : shC t = 11) (hi : vin i 7 = true) (k : xv p l e R s m args below meth c D A nL Q (cwC dA a Z) cells slots (pc + 1) lv (.int (gI Z t i.toNatClampNeg) :: st)) : xv p l e R s m args below meth c D A nL Q (cwC dA a Z) cells slots pc lv (.int i :: .ref (a t) :: st) :=
  xv_iald C d (tw_at (shC_lt h (by decide)) (ar_C11 h _ _)) hi k
theorem xs_C11 (C : xv_C p l s m args meth c D dA sa A cc nL own (cw :: WT)) {i x : Int32} (d : decode cc pc = .ok (.iastore, 1)) (h : shC t = 11) (hi : vin i 7 = true) (hZ : Z2 = pI Z t i.toNatClampNeg x) (k : xv p l e R s m args below meth c D A nL Q (cwC dA a Z2) cells slots (pc + 1) lv st) : xv p l e R s m args below meth c D A nL Q (cwC dA a Z) cells slots pc lv (.int x :: .int i :: .ref (a t) :: st) :=
  xv_iast C d (tw_at (shC_lt h (by decide)) (ar_C11 h _ _)) hi (by
    rw [hZ]
    exact tw_ext (shC_lt h (by decide)) (by rw [pI_same, ar_C11 h]) (pI_oth Z t _ _) (fun _ _ => rfl)) k
theorem ar_C12 (h : shC t = 12) (z : Nat → Int32) (l9 : Int64) : cellC dA a t z l9 = .inl (dA 0, 16, .inl z) := by unfold cellC; generalize shC t = q at h; subst h; rfl
theorem xl_C12 (C : xv_C p l s m args meth c D dA sa A cc nL own (cw :: WT)) {i : Int32} (d : decode cc pc = .ok (.iaload, 1)) (h : shC t = 12) (hi : vin i 16 = true) (k : xv p l e R s m args below meth c D A nL Q (cwC dA a Z) cells slots (pc + 1) lv (.int (gI Z t i.toNatClampNeg) :: st)) : xv p l e R s m args below meth c D A nL Q (cwC dA a Z) cells slots pc lv (.int i :: .ref (a t) :: st) :=
  xv_iald C d (tw_at (shC_lt h (by decide)) (ar_C12 h _ _)) hi k
theorem xs_C12 (C : xv_C p l s m args meth c D dA sa A cc nL own (cw :: WT)) {i x : Int32} (d : decode cc pc = .ok (.iastore, 1)) (h : shC t = 12) (hi : vin i 16 = true) (hZ : Z2 = pI Z t i.toNatClampNeg x) (k : xv p l e R s m args below meth c D A nL Q (cwC dA a Z2) cells slots (pc + 1) lv st) : xv p l e R s m args below meth c D A nL Q (cwC dA a Z) cells slots pc lv (.int x :: .int i :: .ref (a t) :: st) :=
  xv_iast C d (tw_at (shC_lt h (by decide)) (ar_C12 h _ _)) hi (by
    rw [hZ]
    exact tw_ext (shC_lt h (by decide)) (by rw [pI_same, ar_C12 h]) (pI_oth Z t _ _) (fun _ _ => rfl)) k
theorem ar_C15 (h : shC t = 15) (z : Nat → Int32) (l9 : Int64) : cellC dA a t z l9 = .inl (dA 0, 10, .inl z) := by unfold cellC; generalize shC t = q at h; subst h; rfl
theorem xl_C15 (C : xv_C p l s m args meth c D dA sa A cc nL own (cw :: WT)) {i : Int32} (d : decode cc pc = .ok (.iaload, 1)) (h : shC t = 15) (hi : vin i 10 = true) (k : xv p l e R s m args below meth c D A nL Q (cwC dA a Z) cells slots (pc + 1) lv (.int (gI Z t i.toNatClampNeg) :: st)) : xv p l e R s m args below meth c D A nL Q (cwC dA a Z) cells slots pc lv (.int i :: .ref (a t) :: st) :=
  xv_iald C d (tw_at (shC_lt h (by decide)) (ar_C15 h _ _)) hi k
theorem xs_C15 (C : xv_C p l s m args meth c D dA sa A cc nL own (cw :: WT)) {i x : Int32} (d : decode cc pc = .ok (.iastore, 1)) (h : shC t = 15) (hi : vin i 10 = true) (hZ : Z2 = pI Z t i.toNatClampNeg x) (k : xv p l e R s m args below meth c D A nL Q (cwC dA a Z2) cells slots (pc + 1) lv st) : xv p l e R s m args below meth c D A nL Q (cwC dA a Z) cells slots pc lv (.int x :: .int i :: .ref (a t) :: st) :=
  xv_iast C d (tw_at (shC_lt h (by decide)) (ar_C15 h _ _)) hi (by
    rw [hZ]
    exact tw_ext (shC_lt h (by decide)) (by rw [pI_same, ar_C15 h]) (pI_oth Z t _ _) (fun _ _ => rfl)) k
theorem ob_X8 (h : shR t = 1) (z : Nat → Int32) (l9 : Int64) : cellR dA a t z l9 = .inr (8, fsX8 a t z l9) := by unfold cellR; generalize shR t = q at h; subst h; rfl
theorem in_X8 : ∀ x ∈ u_ws RX8 TX8 25, x ∈ WT := fun x h => wt_in ((by decide +kernel : ∀ x ∈ u_ws RX8 TX8 25, x ∈ lw_tbl) x h) ((by decide +kernel : ∀ x ∈ u_ws RX8 TX8 25, goodWord x = true) x h)
theorem xgX8 (C : xv_C p l s m args meth c D dA sa A cc nL own (cw :: WT)) {index : Nat} {v : Value} (d : decode cc pc = .ok (.getfield index, 3)) (h : shR t = 1) (j : Nat) (hj : j < 25) (hw : Cond.fieldLink own index (TX8 j).1 (TX8 j).2.1 (TX8 j).2.2.1 ∈ WT) (hv : (fsX8 a t (Z.1 t) (Z.2 t))[j]? = some v) (k : xv p l e R s m args below meth c D A nL Q (cwR dA a Z) cells slots (pc + 3) lv (v :: st)) : xv p l e R s m args below meth c D A nL Q (cwR dA a Z) cells slots pc lv (.ref (a t) :: st) :=
  xv_get (ref := "") (Cn := RX8) (T := TX8) (N := 25) C d (fun x h9 => List.mem_cons_of_mem _ (in_X8 x h9)) (ci := 8) rfl (tw_at (shR_lt h (by decide)) (ob_X8 h _ _)) j hj (List.mem_cons_of_mem _ hw) hv k
theorem xpX8 (C : xv_C p l s m args meth c D dA sa A cc nL own (cw :: WT)) {index : Nat} {x : Int32} {ty : FieldType} (d : decode cc pc = .ok (.putfield index, 3)) (h : shR t = 1) (j : Nat) (hj : j < 25) (hw : Cond.fieldLink own index (TX8 j).1 (TX8 j).2.1 (TX8 j).2.2.1 ∈ WT) (hfin : (TX8 j).2.2.2 = false) (hd : parseFieldDescriptor (TX8 j).2.2.1 = some ty) (hn : narrow ty (.int x) = .int x) (hfit : fits ty (.int x) = true) (hs : (fsX8 a t (Z.1 t) (Z.2 t)).set j (.int x) = fsX8 a t (upd (Z.1 t) j x) (Z.2 t)) (hZ : Z2 = pI Z t j x) (k : xv p l e R s m args below meth c D A nL Q (cwR dA a Z2) cells slots (pc + 3) lv st) : xv p l e R s m args below meth c D A nL Q (cwR dA a Z) cells slots pc lv (.int x :: .ref (a t) :: st) :=
  xv_put (Cn := RX8) (T := TX8) (N := 25) C d (fun x h9 => List.mem_cons_of_mem _ (in_X8 x h9)) tyX8_ok nmX8 (ci := 8) rfl (tw_at (shR_lt h (by decide)) (ob_X8 h _ _)) j hj (List.mem_cons_of_mem _ hw) hfin hd hn hfit (by exact hj) (by
    rw [hZ]
    exact tw_ext (shR_lt h (by decide)) (by rw [pI_same, ob_X8 h]; exact congrArg (fun f => (Sum.inr (8, f) : va_E)) hs.symm) (pI_oth Z t j x) (fun _ _ => rfl)) k
theorem ar_R2 (h : shR t = 2) (z : Nat → Int32) (l9 : Int64) : cellR dA a t z l9 = .inl (dA 0, 180, .inl z) := by unfold cellR; generalize shR t = q at h; subst h; rfl
theorem xl_R2 (C : xv_C p l s m args meth c D dA sa A cc nL own (cw :: WT)) {i : Int32} (d : decode cc pc = .ok (.iaload, 1)) (h : shR t = 2) (hi : vin i 180 = true) (k : xv p l e R s m args below meth c D A nL Q (cwR dA a Z) cells slots (pc + 1) lv (.int (gI Z t i.toNatClampNeg) :: st)) : xv p l e R s m args below meth c D A nL Q (cwR dA a Z) cells slots pc lv (.int i :: .ref (a t) :: st) :=
  xv_iald C d (tw_at (shR_lt h (by decide)) (ar_R2 h _ _)) hi k
theorem xs_R2 (C : xv_C p l s m args meth c D dA sa A cc nL own (cw :: WT)) {i x : Int32} (d : decode cc pc = .ok (.iastore, 1)) (h : shR t = 2) (hi : vin i 180 = true) (hZ : Z2 = pI Z t i.toNatClampNeg x) (k : xv p l e R s m args below meth c D A nL Q (cwR dA a Z2) cells slots (pc + 1) lv st) : xv p l e R s m args below meth c D A nL Q (cwR dA a Z) cells slots pc lv (.int x :: .int i :: .ref (a t) :: st) :=
  xv_iast C d (tw_at (shR_lt h (by decide)) (ar_R2 h _ _)) hi (by
    rw [hZ]
    exact tw_ext (shR_lt h (by decide)) (by rw [pI_same, ar_R2 h]) (pI_oth Z t _ _) (fun _ _ => rfl)) k
theorem ar_R3 (h : shR t = 3) (z : Nat → Int32) (l9 : Int64) : cellR dA a t z l9 = .inl (dA 0, 1440, .inl z) := by unfold cellR; generalize shR t = q at h; subst h; rfl
theorem xl_R3 (C : xv_C p l s m args meth c D dA sa A cc nL own (cw :: WT)) {i : Int32} (d : decode cc pc = .ok (.iaload, 1)) (h : shR t = 3) (hi : vin i 1440 = true) (k : xv p l e R s m args below meth c D A nL Q (cwR dA a Z) cells slots (pc + 1) lv (.int (gI Z t i.toNatClampNeg) :: st)) : xv p l e R s m args below meth c D A nL Q (cwR dA a Z) cells slots pc lv (.int i :: .ref (a t) :: st) :=
  xv_iald C d (tw_at (shR_lt h (by decide)) (ar_R3 h _ _)) hi k
theorem xs_R3 (C : xv_C p l s m args meth c D dA sa A cc nL own (cw :: WT)) {i x : Int32} (d : decode cc pc = .ok (.iastore, 1)) (h : shR t = 3) (hi : vin i 1440 = true) (hZ : Z2 = pI Z t i.toNatClampNeg x) (k : xv p l e R s m args below meth c D A nL Q (cwR dA a Z2) cells slots (pc + 1) lv st) : xv p l e R s m args below meth c D A nL Q (cwR dA a Z) cells slots pc lv (.int x :: .int i :: .ref (a t) :: st) :=
  xv_iast C d (tw_at (shR_lt h (by decide)) (ar_R3 h _ _)) hi (by
    rw [hZ]
    exact tw_ext (shR_lt h (by decide)) (by rw [pI_same, ar_R3 h]) (pI_oth Z t _ _) (fun _ _ => rfl)) k
theorem ar_R4 (h : shR t = 4) (z : Nat → Int32) (l9 : Int64) : cellR dA a t z l9 = .inl (dA 0, 24, .inl z) := by unfold cellR; generalize shR t = q at h; subst h; rfl
theorem xl_R4 (C : xv_C p l s m args meth c D dA sa A cc nL own (cw :: WT)) {i : Int32} (d : decode cc pc = .ok (.iaload, 1)) (h : shR t = 4) (hi : vin i 24 = true) (k : xv p l e R s m args below meth c D A nL Q (cwR dA a Z) cells slots (pc + 1) lv (.int (gI Z t i.toNatClampNeg) :: st)) : xv p l e R s m args below meth c D A nL Q (cwR dA a Z) cells slots pc lv (.int i :: .ref (a t) :: st) :=
  xv_iald C d (tw_at (shR_lt h (by decide)) (ar_R4 h _ _)) hi k
theorem xs_R4 (C : xv_C p l s m args meth c D dA sa A cc nL own (cw :: WT)) {i x : Int32} (d : decode cc pc = .ok (.iastore, 1)) (h : shR t = 4) (hi : vin i 24 = true) (hZ : Z2 = pI Z t i.toNatClampNeg x) (k : xv p l e R s m args below meth c D A nL Q (cwR dA a Z2) cells slots (pc + 1) lv st) : xv p l e R s m args below meth c D A nL Q (cwR dA a Z) cells slots pc lv (.int x :: .int i :: .ref (a t) :: st) :=
  xv_iast C d (tw_at (shR_lt h (by decide)) (ar_R4 h _ _)) hi (by
    rw [hZ]
    exact tw_ext (shR_lt h (by decide)) (by rw [pI_same, ar_R4 h]) (pI_oth Z t _ _) (fun _ _ => rfl)) k
theorem ar_R5 (h : shR t = 5) (z : Nat → Int32) (l9 : Int64) : cellR dA a t z l9 = .inl (dA 0, 8, .inl z) := by unfold cellR; generalize shR t = q at h; subst h; rfl
theorem xl_R5 (C : xv_C p l s m args meth c D dA sa A cc nL own (cw :: WT)) {i : Int32} (d : decode cc pc = .ok (.iaload, 1)) (h : shR t = 5) (hi : vin i 8 = true) (k : xv p l e R s m args below meth c D A nL Q (cwR dA a Z) cells slots (pc + 1) lv (.int (gI Z t i.toNatClampNeg) :: st)) : xv p l e R s m args below meth c D A nL Q (cwR dA a Z) cells slots pc lv (.int i :: .ref (a t) :: st) :=
  xv_iald C d (tw_at (shR_lt h (by decide)) (ar_R5 h _ _)) hi k
theorem xs_R5 (C : xv_C p l s m args meth c D dA sa A cc nL own (cw :: WT)) {i x : Int32} (d : decode cc pc = .ok (.iastore, 1)) (h : shR t = 5) (hi : vin i 8 = true) (hZ : Z2 = pI Z t i.toNatClampNeg x) (k : xv p l e R s m args below meth c D A nL Q (cwR dA a Z2) cells slots (pc + 1) lv st) : xv p l e R s m args below meth c D A nL Q (cwR dA a Z) cells slots pc lv (.int x :: .int i :: .ref (a t) :: st) :=
  xv_iast C d (tw_at (shR_lt h (by decide)) (ar_R5 h _ _)) hi (by
    rw [hZ]
    exact tw_ext (shR_lt h (by decide)) (by rw [pI_same, ar_R5 h]) (pI_oth Z t _ _) (fun _ _ => rfl)) k
theorem ar_R6 (h : shR t = 6) (z : Nat → Int32) (l9 : Int64) : cellR dA a t z l9 = .inl (dA 0, 80, .inl z) := by unfold cellR; generalize shR t = q at h; subst h; rfl
theorem xl_R6 (C : xv_C p l s m args meth c D dA sa A cc nL own (cw :: WT)) {i : Int32} (d : decode cc pc = .ok (.iaload, 1)) (h : shR t = 6) (hi : vin i 80 = true) (k : xv p l e R s m args below meth c D A nL Q (cwR dA a Z) cells slots (pc + 1) lv (.int (gI Z t i.toNatClampNeg) :: st)) : xv p l e R s m args below meth c D A nL Q (cwR dA a Z) cells slots pc lv (.int i :: .ref (a t) :: st) :=
  xv_iald C d (tw_at (shR_lt h (by decide)) (ar_R6 h _ _)) hi k
theorem xs_R6 (C : xv_C p l s m args meth c D dA sa A cc nL own (cw :: WT)) {i x : Int32} (d : decode cc pc = .ok (.iastore, 1)) (h : shR t = 6) (hi : vin i 80 = true) (hZ : Z2 = pI Z t i.toNatClampNeg x) (k : xv p l e R s m args below meth c D A nL Q (cwR dA a Z2) cells slots (pc + 1) lv st) : xv p l e R s m args below meth c D A nL Q (cwR dA a Z) cells slots pc lv (.int x :: .int i :: .ref (a t) :: st) :=
  xv_iast C d (tw_at (shR_lt h (by decide)) (ar_R6 h _ _)) hi (by
    rw [hZ]
    exact tw_ext (shR_lt h (by decide)) (by rw [pI_same, ar_R6 h]) (pI_oth Z t _ _) (fun _ _ => rfl)) k
theorem ar_R7 (h : shR t = 7) (z : Nat → Int32) (l9 : Int64) : cellR dA a t z l9 = .inl (dA 0, 60, .inl z) := by unfold cellR; generalize shR t = q at h; subst h; rfl
theorem xl_R7 (C : xv_C p l s m args meth c D dA sa A cc nL own (cw :: WT)) {i : Int32} (d : decode cc pc = .ok (.iaload, 1)) (h : shR t = 7) (hi : vin i 60 = true) (k : xv p l e R s m args below meth c D A nL Q (cwR dA a Z) cells slots (pc + 1) lv (.int (gI Z t i.toNatClampNeg) :: st)) : xv p l e R s m args below meth c D A nL Q (cwR dA a Z) cells slots pc lv (.int i :: .ref (a t) :: st) :=
  xv_iald C d (tw_at (shR_lt h (by decide)) (ar_R7 h _ _)) hi k
theorem xs_R7 (C : xv_C p l s m args meth c D dA sa A cc nL own (cw :: WT)) {i x : Int32} (d : decode cc pc = .ok (.iastore, 1)) (h : shR t = 7) (hi : vin i 60 = true) (hZ : Z2 = pI Z t i.toNatClampNeg x) (k : xv p l e R s m args below meth c D A nL Q (cwR dA a Z2) cells slots (pc + 1) lv st) : xv p l e R s m args below meth c D A nL Q (cwR dA a Z) cells slots pc lv (.int x :: .int i :: .ref (a t) :: st) :=
  xv_iast C d (tw_at (shR_lt h (by decide)) (ar_R7 h _ _)) hi (by
    rw [hZ]
    exact tw_ext (shR_lt h (by decide)) (by rw [pI_same, ar_R7 h]) (pI_oth Z t _ _) (fun _ _ => rfl)) k
theorem ar_R8 (h : shR t = 8) (z : Nat → Int32) (l9 : Int64) : cellR dA a t z l9 = .inl (dA 0, 32, .inl z) := by unfold cellR; generalize shR t = q at h; subst h; rfl
theorem xl_R8 (C : xv_C p l s m args meth c D dA sa A cc nL own (cw :: WT)) {i : Int32} (d : decode cc pc = .ok (.iaload, 1)) (h : shR t = 8) (hi : vin i 32 = true) (k : xv p l e R s m args below meth c D A nL Q (cwR dA a Z) cells slots (pc + 1) lv (.int (gI Z t i.toNatClampNeg) :: st)) : xv p l e R s m args below meth c D A nL Q (cwR dA a Z) cells slots pc lv (.int i :: .ref (a t) :: st) :=
  xv_iald C d (tw_at (shR_lt h (by decide)) (ar_R8 h _ _)) hi k
theorem xs_R8 (C : xv_C p l s m args meth c D dA sa A cc nL own (cw :: WT)) {i x : Int32} (d : decode cc pc = .ok (.iastore, 1)) (h : shR t = 8) (hi : vin i 32 = true) (hZ : Z2 = pI Z t i.toNatClampNeg x) (k : xv p l e R s m args below meth c D A nL Q (cwR dA a Z2) cells slots (pc + 1) lv st) : xv p l e R s m args below meth c D A nL Q (cwR dA a Z) cells slots pc lv (.int x :: .int i :: .ref (a t) :: st) :=
  xv_iast C d (tw_at (shR_lt h (by decide)) (ar_R8 h _ _)) hi (by
    rw [hZ]
    exact tw_ext (shR_lt h (by decide)) (by rw [pI_same, ar_R8 h]) (pI_oth Z t _ _) (fun _ _ => rfl)) k
theorem ar_R9 (h : shR t = 9) (z : Nat → Int32) (l9 : Int64) : cellR dA a t z l9 = .inl (dA 0, 96, .inl z) := by unfold cellR; generalize shR t = q at h; subst h; rfl
theorem xl_R9 (C : xv_C p l s m args meth c D dA sa A cc nL own (cw :: WT)) {i : Int32} (d : decode cc pc = .ok (.iaload, 1)) (h : shR t = 9) (hi : vin i 96 = true) (k : xv p l e R s m args below meth c D A nL Q (cwR dA a Z) cells slots (pc + 1) lv (.int (gI Z t i.toNatClampNeg) :: st)) : xv p l e R s m args below meth c D A nL Q (cwR dA a Z) cells slots pc lv (.int i :: .ref (a t) :: st) :=
  xv_iald C d (tw_at (shR_lt h (by decide)) (ar_R9 h _ _)) hi k
theorem xs_R9 (C : xv_C p l s m args meth c D dA sa A cc nL own (cw :: WT)) {i x : Int32} (d : decode cc pc = .ok (.iastore, 1)) (h : shR t = 9) (hi : vin i 96 = true) (hZ : Z2 = pI Z t i.toNatClampNeg x) (k : xv p l e R s m args below meth c D A nL Q (cwR dA a Z2) cells slots (pc + 1) lv st) : xv p l e R s m args below meth c D A nL Q (cwR dA a Z) cells slots pc lv (.int x :: .int i :: .ref (a t) :: st) :=
  xv_iast C d (tw_at (shR_lt h (by decide)) (ar_R9 h _ _)) hi (by
    rw [hZ]
    exact tw_ext (shR_lt h (by decide)) (by rw [pI_same, ar_R9 h]) (pI_oth Z t _ _) (fun _ _ => rfl)) k
theorem xa_16 (C : xv_C p l s m args meth c D dA sa A cc nL own (cw :: WT)) {i : Int32} (d : decode cc pc = .ok (.aaload, 1)) (h : shC t = 16) (hi : vin i 5 = true) (k : xv p l e R s m args below meth c D A nL Q (cwC dA a Z) cells slots (pc + 1) lv (.ref (a (elC t i)) :: st)) : xv p l e R s m args below meth c D A nL Q (cwC dA a Z) cells slots pc lv (.int i :: .ref (a t) :: st) :=
  xv_aald C d (t0 := 2) (f := fun i => some (a (t + 1 + 2 * i))) (y := a (elC t i)) rfl (tw_at (k := t) (shC_lt h (by decide)) (by unfold cellC; generalize shC t = q at h; subst h; rfl)) hi rfl k
theorem xa_3 (C : xv_C p l s m args meth c D dA sa A cc nL own (cw :: WT)) {i : Int32} (d : decode cc pc = .ok (.aaload, 1)) (h : shC t = 3) (hi : vin i 8 = true) (k : xv p l e R s m args below meth c D A nL Q (cwC dA a Z) cells slots (pc + 1) lv (.ref (a (elH t i)) :: st)) : xv p l e R s m args below meth c D A nL Q (cwC dA a Z) cells slots pc lv (.int i :: .ref (a t) :: st) :=
  xv_aald C d (t0 := 3) (f := fun i => some (a (79 + 20 * i))) (y := a (elH t i)) rfl (tw_at (k := t) (shC_lt h (by decide)) (by unfold cellC; generalize shC t = q at h; subst h; rfl)) hi rfl k
theorem rc_X7 (h : shC t = 1) : ∃ (q0 ci : Nat) (fs : List Value) (T : u_T) (N : Nat), (cwC dA a Z)[q0]? = some (a t, .inr (ci, fs)) ∧ vwC[ci]? = some (RX7, T, N) := ⟨t, 7, _, TX7, 11, tw_at (shC_lt h (by decide)) (ob_X7 h _ _), rfl⟩
theorem rc_X2 (h : shC t = 2) : ∃ (q0 ci : Nat) (fs : List Value) (T : u_T) (N : Nat), (cwC dA a Z)[q0]? = some (a t, .inr (ci, fs)) ∧ vwC[ci]? = some (RX2, T, N) := ⟨t, 2, _, TX2, 3, tw_at (shC_lt h (by decide)) (ob_X2 h _ _), rfl⟩
theorem rc_X0 (h : shC t = 4) : ∃ (q0 ci : Nat) (fs : List Value) (T : u_T) (N : Nat), (cwC dA a Z)[q0]? = some (a t, .inr (ci, fs)) ∧ vwC[ci]? = some (RX0, T, N) := ⟨t, 0, _, TX0, 4, tw_at (shC_lt h (by decide)) (ob_X0 h _ _), rfl⟩
theorem rc_X4 (h : shC t = 7) : ∃ (q0 ci : Nat) (fs : List Value) (T : u_T) (N : Nat), (cwC dA a Z)[q0]? = some (a t, .inr (ci, fs)) ∧ vwC[ci]? = some (RX4, T, N) := ⟨t, 4, _, TX4, 9, tw_at (shC_lt h (by decide)) (ob_X4 h _ _), rfl⟩
theorem rc_X5 (h : shC t = 10) : ∃ (q0 ci : Nat) (fs : List Value) (T : u_T) (N : Nat), (cwC dA a Z)[q0]? = some (a t, .inr (ci, fs)) ∧ vwC[ci]? = some (RX5, T, N) := ⟨t, 5, _, TX5, 7, tw_at (shC_lt h (by decide)) (ob_X5 h _ _), rfl⟩
theorem rc_X6 (h : shC t = 13) : ∃ (q0 ci : Nat) (fs : List Value) (T : u_T) (N : Nat), (cwC dA a Z)[q0]? = some (a t, .inr (ci, fs)) ∧ vwC[ci]? = some (RX6, T, N) := ⟨t, 6, _, TX6, 9, tw_at (shC_lt h (by decide)) (ob_X6 h _ _), rfl⟩
theorem rc_X3 (h : shC t = 14) : ∃ (q0 ci : Nat) (fs : List Value) (T : u_T) (N : Nat), (cwC dA a Z)[q0]? = some (a t, .inr (ci, fs)) ∧ vwC[ci]? = some (RX3, T, N) := ⟨t, 3, _, TX3, 7, tw_at (shC_lt h (by decide)) (ob_X3 h _ _), rfl⟩
theorem rc_X1 (h : shC t = 17) : ∃ (q0 ci : Nat) (fs : List Value) (T : u_T) (N : Nat), (cwC dA a Z)[q0]? = some (a t, .inr (ci, fs)) ∧ vwC[ci]? = some (RX1, T, N) := ⟨t, 1, _, TX1, 6, tw_at (shC_lt h (by decide)) (ob_X1 h _ _), rfl⟩
theorem rc_X8 (h : shR t = 1) : ∃ (q0 ci : Nat) (fs : List Value) (T : u_T) (N : Nat), (cwR dA a Z)[q0]? = some (a t, .inr (ci, fs)) ∧ vwC[ci]? = some (RX8, T, N) := ⟨t, 8, _, TX8, 25, tw_at (shR_lt h (by decide)) (ob_X8 h _ _), rfl⟩
theorem xv_eqi {W : ZZ → va_W} {x v : Int32} (h1 : x = v) (h2 : Z = Z2) (k : xv p l e R s m args below meth c D A nL Q (W Z2) cells slots pc lv (.int v :: st)) : xv p l e R s m args below meth c D A nL Q (W Z) cells slots pc lv (.int x :: st) := by subst h1; subst h2; exact k
theorem xv_eql {W : ZZ → va_W} {x v : Int64} (h1 : x = v) (h2 : Z = Z2) (k : xv p l e R s m args below meth c D A nL Q (W Z2) cells slots pc lv (.long v :: st)) : xv p l e R s m args below meth c D A nL Q (W Z) cells slots pc lv (.long x :: st) := by subst h1; subst h2; exact k
theorem xv_eqw {W : ZZ → va_W} (h2 : Z = Z2) (k : xv p l e R s m args below meth c D A nL Q (W Z2) cells slots pc lv st) : xv p l e R s m args below meth c D A nL Q (W Z) cells slots pc lv st := by subst h2; exact k
theorem xv_nmi {w : va_W} {x v : Int32} (h1 : v = x) (k : xv p l e R s m args below meth c D A nL Q w cells slots pc lv (.int v :: st)) : xv p l e R s m args below meth c D A nL Q w cells slots pc lv (.int x :: st) := by subst h1; exact k
end SXW
