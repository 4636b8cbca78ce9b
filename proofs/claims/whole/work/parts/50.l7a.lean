/-! the law: its world, its rows *)-/
abbrev xL (p : Program) (l : Launch) (e : Env) (s : State) (m : MethodId) (b : Nat) (below : List Frame) (meth : Method) (c : Code) (D : va_G) (Q : State → Prop) (w : va_W) (cells slots pc : Nat) (lv : List (Nat × Value)) (st : List Value) : Prop := xv p l e room_1 s m #[Value.ref b] below meth c D (fun q => s.heap.size ≤ q) 9 Q w cells slots pc lv st
abbrev lC (p : Program) (l : Launch) (s : State) (m : MethodId) (b : Nat) (meth : Method) (c : Code) (D : va_G) (dA : Nat → ClassId) (sa : String → Nat → Nat) (cw : Cond) : Prop := xv_C p l s m #[Value.ref b] meth c D dA sa (fun q => s.heap.size ≤ q) code 9 "SwitchboardLaw" (cw :: WT)
def wLw (dA : Nat → ClassId) (a a' : Nat → Nat) (ao od : Nat) (Zc : ZZ) (g : Nat → Int64) (Zr : ZZ) (ws : va_W) (gD : Nat → UInt64) : va_W := cwC dA a Zc ++ (outW dA ao g ++ (cwR dA a' Zr ++ (ws ++ outD dA od gD)))
abbrev lvL (b : Nat) (a a' : Nat → Nat) (ao od j : Nat) : List (Nat × Value) := [(5, .int (nI j)), (4, .ref od), (3, .ref ao), (2, .ref (a' 0)), (1, .ref (a 0)), (0, .ref b)]
section LAW
variable {p : Program} {l : Launch} {e : Env} {s : State} {m : MethodId} {below : List Frame} {meth : Method} {c : Code} {Q : State → Prop} {D : va_G} {dA : Nat → ClassId} {sa : String → Nat → Nat} {cells slots pc : Nat} {w w2 : va_W} {lv lv' : List (Nat × Value)} {st st0 : List Value} {cw : Cond} {b L : Nat} {xs : Nat → Int32} {a a' : Nat → Nat} {ao od j : Nat}
variable {Zc Zc' Zr Zr' : ZZ} {g g1 : Nat → Int64} {gD gD1 : Nat → UInt64} {ws ws' : va_W} {q : Nat}
theorem xl_sld (C : lC p l s m b meth c D dA sa cw) (hX : va_X b L xs s s.heap) (hbl : b < s.heap.size) (hL : L ≤ 2048) {i : Int32} {k : Nat} (d : decode code pc = .ok (.iaload, 1)) (hi : i = nI k) (hk : k < L) (kk : xL p l e s m b below meth c D Q w cells slots (pc + 1) lv (.int (xs k) :: st)) : xL p l e s m b below meth c D Q w cells slots pc lv (.int i :: .ref b :: st) := by
  subst hi
  intro H locs ls hP hD hS hl
  refine va_sld C.1.1 C.1.2.1 hX hbl (Nat.not_le.mpr hbl) hS (nI_in hk (by omega)) d ?_
  rw [nI_clamp (by omega)]
  exact kk H locs ls hP hD hS hl
theorem xl_slen (C : lC p l s m b meth c D dA sa cw) (hX : va_X b L xs s s.heap) (hbl : b < s.heap.size) (d : decode code pc = .ok (.arraylength, 1)) (kk : xL p l e s m b below meth c D Q w cells slots (pc + 1) lv (.int (nI L) :: st)) : xL p l e s m b below meth c D Q w cells slots pc lv (.ref b :: st) := fun H locs ls hP hD hS hl => va_slen C.1.1 C.1.2.1 hX hbl (Nat.not_le.mpr hbl) hS d (kk H locs ls hP hD hS hl)
theorem xl_wid {c2 s2 : Nat} (h1 : cells ≤ c2) (h2 : slots ≤ s2) (k : xL p l e s m b below meth c D Q w c2 s2 pc lv st) : xL p l e s m b below meth c D Q w cells slots pc lv st := fun H locs ls hP hD hS hl => W.widen h1 h2 (k H locs ls hP hD hS hl)
theorem xl_arg (C : lC p l s m b meth c D dA sa cw) (hX : va_X b L xs s s.heap) (hbl : b < s.heap.size) (hL : L ≤ 2048) (hj : j + 4 ≤ L) {kc : Int} (k i0 i5 : Nat) (hk : k < 4) (h0 : lv[i0]? = some (0, .ref b)) (h5 : lv[i5]? = some (5, .int (nI j))) (hkc : Int32.ofInt kc = nI k) (d0 : decode code q = .ok (.aload_n 0, 1)) (d1 : decode code (q + 1) = .ok (.iload 5, 2)) (d2 : decode code (q + 3) = .ok (.iconst kc, 1)) (d3 : decode code (q + 4) = .ok (.iadd, 1)) (d4 : decode code (q + 5) = .ok (.iaload, 1)) (kk : xL p l e s m b below meth c D Q w cells slots (q + 6) lv (.int (xs (j + k)) :: st)) : xL p l e s m b below meth c D Q w cells slots q lv st := by
  refine xv_aload_n (pc := q) C d0 i0 rfl h0 ?_
  refine xv_iload (pc := q + 1) C d1 i5 h5 ?_
  refine xv_iconst (v := nI k) (pc := q + 3) C d2 hkc ?_
  refine xv_iadd (pc := q + 4) C d3 ?_
  exact xl_sld (pc := q + 5) C hX hbl hL d4 (nI_add j k) (by omega) kk
/-- what a wrapper's answer says of the class's outcome -/
def wrR (L : List Nat) (cv : Int32 → Int64) (o : Nat ⊕ Int32) (r : Int32) (g1 : Nat → Int64) : Prop := (∃ k, o = .inl k ∧ r = nI (cdL L k)) ∨ (∃ v, o = .inr v ∧ r = 0 ∧ g1 0 = cv v)
theorem res_of {Ls : List Nat} {cv : Int32 → Int64} {rc : Nat ⊕ Int32} {rr r th : Int32} (hw : wrR Ls cv rc r g1) (hL : ∀ k, rc = .inl k → k ∈ Ls) (h : (∃ e, rc = .inl e ∧ th = nI (cdL Ls e)) ∨ (rc = .inr rr ∧ th = nI 0)) (hne : ∀ e ∈ Ls, nI (cdL Ls e) ≠ 0) : th = r ∧ (r = 0 → g1 0 = cv rr) := by
  rcases h with ⟨e, rfl, rfl⟩ | ⟨rfl, rfl⟩
  · rcases hw with ⟨k, h1, rfl⟩ | ⟨v, h1, -⟩
    · cases h1
      exact ⟨rfl, fun h => absurd h (hne e (hL e rfl))⟩
    · cases h1
  · rcases hw with ⟨k, h1, -⟩ | ⟨v, h1, rfl, h3⟩
    · cases h1
    · cases h1
      exact ⟨rfl, fun _ => h3⟩
variable {y : MethodName} {bytes : ByteArray} {maxL n index : Nat} {ret : Option FieldType} {rm : Room} {As : List Value} {hh : List (Nat × Nat × Nat × Nat)}
theorem xl_wr (C : lC p l s m b meth c D dA sa cw) {Ls : List Nat} {cv : Int32 → Int64} {o : Nat ⊕ Int32} (M : CPi l D dA sa y (wzW y bytes maxL ret hh) rm As (cwC dA a Zc ++ outW dA ao g) (wrP dA ao (cwC dA a Zc') Ls cv g o)) (f : cfW y bytes maxL ret hh n) (hk9 : Cond.methodLink "SwitchboardLaw" index y ∈ WT) (hn : As.length = n) (hR : rm.frames + 1 ≤ 2048 ∧ 8 + (maxL + 11) + rm.locals ≤ 94400) (hst : st0 = As.reverse ++ st) (hcat : (st.map fun v => v.category).sum ≤ 8) (d : decode code pc = .ok (.invokestatic index, 3)) (hrm : rm.cells ≤ 40 ∧ rm.slots ≤ 6400) (hc : cells + 40 ≤ 603072) (hq : slots + 6400 ≤ 7190634) (k : ∀ r g1, wrR Ls cv o r g1 → xL p l e s m b below meth c D Q (wLw dA a a' ao od Zc' g1 Zr ws gD) (cells + 40) (slots + 6400) (pc + 3) lv (.int r :: st)) : xL p l e s m b below meth c D Q (wLw dA a a' ao od Zc g Zr ws gD) cells slots pc lv st0 := by
  refine xv_callWpi (As := As) (pc := pc) (pre := []) (w0 := cwC dA a Zc ++ outW dA ao g) (post := cwR dA a' Zr ++ (ws ++ outD dA od gD)) C M f hk9 hn hR hst hcat d ⟨Nat.le_trans (Nat.add_le_add_left hrm.1 cells) hc, Nat.le_trans (Nat.add_le_add_left hrm.2 slots) hq⟩ (by unfold wLw; rw [List.nil_append, List.append_assoc]) (fun w1 v h => ?_)
  refine xl_wid (Nat.add_le_add_left hrm.1 cells) (Nat.add_le_add_left hrm.2 slots) ?_
  rcases h with ⟨k9, h1, rfl, rfl⟩ | ⟨v9, g1, h1, rfl, rfl, h4⟩
  · have e1 : ([] : va_W) ++ ((cwC dA a Zc' ++ outW dA ao g) ++ (cwR dA a' Zr ++ (ws ++ outD dA od gD))) = wLw dA a a' ao od Zc' g Zr ws gD := by unfold wLw; rw [List.nil_append, List.append_assoc]
    rw [e1]
    exact k _ _ (Or.inl ⟨k9, h1, rfl⟩)
  · have e1 : ([] : va_W) ++ ((cwC dA a Zc' ++ outW dA ao g1) ++ (cwR dA a' Zr ++ (ws ++ outD dA od gD))) = wLw dA a a' ao od Zc' g1 Zr ws gD := by unfold wLw; rw [List.nil_append, List.append_assoc]
    rw [e1]
    exact k _ _ (Or.inr ⟨v9, h1, rfl, h4⟩)
theorem xl_rf (C : lC p l s m b meth c D dA sa cw) {v : Int32} (M : CTi l D dA sa y (wz y bytes maxL ret) rm (.ref (a' 0) :: As) (cwR dA a' Zr) v (cwR dA a' Zr')) (hy : y.cls = RX8) (f : cfV y bytes maxL ret n) (hk9 : Cond.methodLink "SwitchboardLaw" index y ∈ WT) (hn : As.length = n) (hR : rm.frames + 1 ≤ 2048 ∧ 8 + (maxL + 11) + rm.locals ≤ 94400) (hst : st0 = As.reverse ++ .ref (a' 0) :: st) (hcat : (st.map fun v => v.category).sum ≤ 8) (d : decode code pc = .ok (.invokevirtual index, 3)) (hrm : rm.cells = 0 ∧ rm.slots = 0) (hc : cells ≤ 603072) (hq : slots ≤ 7190634) (k : xL p l e s m b below meth c D Q (wLw dA a a' ao od Zc g Zr' ws gD) cells slots (pc + 3) lv (.int v :: st)) : xL p l e s m b below meth c D Q (wLw dA a a' ao od Zc g Zr ws gD) cells slots pc lv st0 := by
  refine xv_callVi (As := As) (pc := pc) (pre := cwC dA a Zc ++ outW dA ao g) (w0 := cwR dA a' Zr) (w1 := cwR dA a' Zr') (post := ws ++ outD dA od gD) (w2 := wLw dA a a' ao od Zc g Zr' ws gD) C M f hk9 (by rw [hy]; exact rc_X8 (rfl : shR 0 = 1)) hn hR hst hcat d ⟨by rw [hrm.1]; exact hc, by rw [hrm.2]; exact hq⟩ (by unfold wLw; rw [List.append_assoc]) (by unfold wLw; rw [List.append_assoc]) ?_
  rw [hrm.1, hrm.2]
  exact k
theorem xl_rl (C : lC p l s m b meth c D dA sa cw) {v : Int64} (M : CTl l D dA sa y (wz y bytes maxL ret) rm (.ref (a' 0) :: As) (cwR dA a' Zr) v (cwR dA a' Zr')) (hy : y.cls = RX8) (f : cfV y bytes maxL ret n) (hk9 : Cond.methodLink "SwitchboardLaw" index y ∈ WT) (hn : As.length = n) (hR : rm.frames + 1 ≤ 2048 ∧ 8 + (maxL + 11) + rm.locals ≤ 94400) (hst : st0 = As.reverse ++ .ref (a' 0) :: st) (hcat : (st.map fun v => v.category).sum ≤ 8) (d : decode code pc = .ok (.invokevirtual index, 3)) (hrm : rm.cells = 0 ∧ rm.slots = 0) (hc : cells ≤ 603072) (hq : slots ≤ 7190634) (k : xL p l e s m b below meth c D Q (wLw dA a a' ao od Zc g Zr' ws gD) cells slots (pc + 3) lv (.long v :: st)) : xL p l e s m b below meth c D Q (wLw dA a a' ao od Zc g Zr ws gD) cells slots pc lv st0 := by
  refine xv_callVl (As := As) (pc := pc) (pre := cwC dA a Zc ++ outW dA ao g) (w0 := cwR dA a' Zr) (w1 := cwR dA a' Zr') (post := ws ++ outD dA od gD) (w2 := wLw dA a a' ao od Zc g Zr' ws gD) C M f hk9 (by rw [hy]; exact rc_X8 (rfl : shR 0 = 1)) hn hR hst hcat d ⟨by rw [hrm.1]; exact hc, by rw [hrm.2]; exact hq⟩ (by unfold wLw; rw [List.append_assoc]) (by unfold wLw; rw [List.append_assoc]) ?_
  rw [hrm.1, hrm.2]
  exact k
theorem xl_cl (C : lC p l s m b meth c D dA sa cw) {v : Int32} (M : CTi l D dA sa y (wz y bytes maxL ret) rm (.ref (a 0) :: As) (cwC dA a Zc) v (cwC dA a Zc')) (hy : y.cls = RX7) (f : cfV y bytes maxL ret n) (hk9 : Cond.methodLink "SwitchboardLaw" index y ∈ WT) (hn : As.length = n) (hR : rm.frames + 1 ≤ 2048 ∧ 8 + (maxL + 11) + rm.locals ≤ 94400) (hst : st0 = As.reverse ++ .ref (a 0) :: st) (hcat : (st.map fun v => v.category).sum ≤ 8) (d : decode code pc = .ok (.invokevirtual index, 3)) (hrm : rm.cells ≤ 40 ∧ rm.slots ≤ 6400) (hc : cells + 40 ≤ 603072) (hq : slots + 6400 ≤ 7190634) (k : xL p l e s m b below meth c D Q (wLw dA a a' ao od Zc' g Zr ws gD) (cells + 40) (slots + 6400) (pc + 3) lv (.int v :: st)) : xL p l e s m b below meth c D Q (wLw dA a a' ao od Zc g Zr ws gD) cells slots pc lv st0 := by
  refine xv_callVi (As := As) (pc := pc) (pre := []) (w0 := cwC dA a Zc) (w1 := cwC dA a Zc') (post := outW dA ao g ++ (cwR dA a' Zr ++ (ws ++ outD dA od gD))) (w2 := wLw dA a a' ao od Zc' g Zr ws gD) C M f hk9 (by rw [hy]; exact rc_X7 (rfl : shC 0 = 1)) hn hR hst hcat d ⟨Nat.le_trans (Nat.add_le_add_left hrm.1 cells) hc, Nat.le_trans (Nat.add_le_add_left hrm.2 slots) hq⟩ (by unfold wLw; rw [List.nil_append]) (by unfold wLw; rw [List.nil_append]) ?_
  exact xl_wid (Nat.add_le_add_left hrm.1 cells) (Nat.add_le_add_left hrm.2 slots) k
theorem xl_cll (C : lC p l s m b meth c D dA sa cw) {v : Int64} (M : CTl l D dA sa y (wz y bytes maxL ret) rm (.ref (a 0) :: As) (cwC dA a Zc) v (cwC dA a Zc')) (hy : y.cls = RX7) (f : cfV y bytes maxL ret n) (hk9 : Cond.methodLink "SwitchboardLaw" index y ∈ WT) (hn : As.length = n) (hR : rm.frames + 1 ≤ 2048 ∧ 8 + (maxL + 11) + rm.locals ≤ 94400) (hst : st0 = As.reverse ++ .ref (a 0) :: st) (hcat : (st.map fun v => v.category).sum ≤ 8) (d : decode code pc = .ok (.invokevirtual index, 3)) (hrm : rm.cells ≤ 40 ∧ rm.slots ≤ 6400) (hc : cells + 40 ≤ 603072) (hq : slots + 6400 ≤ 7190634) (k : xL p l e s m b below meth c D Q (wLw dA a a' ao od Zc' g Zr ws gD) (cells + 40) (slots + 6400) (pc + 3) lv (.long v :: st)) : xL p l e s m b below meth c D Q (wLw dA a a' ao od Zc g Zr ws gD) cells slots pc lv st0 := by
  refine xv_callVl (As := As) (pc := pc) (pre := []) (w0 := cwC dA a Zc) (w1 := cwC dA a Zc') (post := outW dA ao g ++ (cwR dA a' Zr ++ (ws ++ outD dA od gD))) (w2 := wLw dA a a' ao od Zc' g Zr ws gD) C M f hk9 (by rw [hy]; exact rc_X7 (rfl : shC 0 = 1)) hn hR hst hcat d ⟨Nat.le_trans (Nat.add_le_add_left hrm.1 cells) hc, Nat.le_trans (Nat.add_le_add_left hrm.2 slots) hq⟩ (by unfold wLw; rw [List.nil_append]) (by unfold wLw; rw [List.nil_append]) ?_
  exact xl_wid (Nat.add_le_add_left hrm.1 cells) (Nat.add_le_add_left hrm.2 slots) k
theorem cwC_len (dA : Nat → ClassId) (a : Nat → Nat) (Z : ZZ) : (cwC dA a Z).length = 239 := by unfold cwC tw; simp
theorem cwR_len (dA : Nat → ClassId) (a : Nat → Nat) (Z : ZZ) : (cwR dA a Z).length = 13 := by unfold cwR tw; simp
theorem at_out : (wLw dA a a' ao od Zc g Zr ws gD)[239]? = some (ao, .inl (dA 4, 1, .inr (.inl g))) := by
  unfold wLw
  rw [List.getElem?_append_right (by rw [cwC_len]; exact Nat.le_refl _), cwC_len]
  rfl
theorem at_outD : (wLw dA a a' ao od Zc g Zr ws gD)[253 + ws.length]? = some (od, .inl (dA 5, 1, .inr (.inr (.inr (.inl gD))))) := by
  unfold wLw
  rw [List.getElem?_append_right (by rw [cwC_len]; omega), cwC_len, List.getElem?_append_right (by show 1 ≤ _; omega), List.getElem?_append_right (by rw [cwR_len]; show 13 ≤ 253 + ws.length - 239 - 1; omega), List.getElem?_append_right (by rw [cwR_len]; show ws.length ≤ 253 + ws.length - 239 - 1 - 13; omega), cwR_len]
  rw [show 253 + ws.length - 239 - (outW dA ao g).length - 13 - ws.length = 0 by show 253 + ws.length - 239 - 1 - 13 - ws.length = 0; omega]
  rfl
theorem xl_out (C : lC p l s m b meth c D dA sa cw) (d : decode code pc = .ok (.laload, 1)) (k : xL p l e s m b below meth c D Q (wLw dA a a' ao od Zc g Zr ws gD) cells slots (pc + 1) lv (.long (g 0) :: st)) : xL p l e s m b below meth c D Q (wLw dA a a' ao od Zc g Zr ws gD) cells slots pc lv (.int 0 :: .ref ao :: st) :=
  fun H locs ls hP hD hS hl => va_lald C.1.1 C.1.2.1 C.2.1 hP 239 4 (n := 1) (f := g) (cA := dA 4) at_out rfl (vin_of (by decide)) d (k H locs ls hP hD hS hl)
theorem xl_outD (C : lC p l s m b meth c D dA sa cw) (d : decode code pc = .ok (.daload, 1)) (k : xL p l e s m b below meth c D Q (wLw dA a a' ao od Zc g Zr ws gD) cells slots (pc + 1) lv (.double (gD 0) :: st)) : xL p l e s m b below meth c D Q (wLw dA a a' ao od Zc g Zr ws gD) cells slots pc lv (.int 0 :: .ref od :: st) :=
  fun H locs ls hP hD hS hl => va_dald C.1.1 C.1.2.1 C.2.1 hP (253 + ws.length) 5 (n := 1) (f := gD) (cA := dA 5) at_outD rfl (vin_of (by decide)) d (k H locs ls hP hD hS hl)
theorem lg_same {x y : Int64} (h : x = y) : lg_cmp x y = 0 := (lg_cmp_eq x y).mpr h
end LAW
