theorem wf_33 : Cond.classLink "SwitchboardLaw" 8 "Switchboard" ∈ WT := wt_of (i := 33) (by decide +kernel) rfl
theorem wf_34 : Cond.instantiable "Switchboard" 11 ∈ WT := wt_of (i := 34) (by decide +kernel) rfl
theorem wf_37 : Cond.code ⟨"Switchboard", "<init>", "()V"⟩ prog_1_method_1_code 1 none ∈ WT := wt_of (i := 37) (by decide +kernel) rfl
theorem wf_36 : Cond.instanceMethod ⟨"Switchboard", "<init>", "()V"⟩ ∈ WT := wt_of (i := 36) (by decide +kernel) rfl
theorem fI_X7_init : cfI yX7_init cX7_init 1 0 := ⟨⟨⟨by decide +kernel, by decide +kernel, by decide +kernel⟩, wf_1, wf_37⟩, wf_36, by decide +kernel⟩
theorem wf_1551 : Cond.code ⟨"SwitchboardModel", "<init>", "()V"⟩ prog_10_method_1_code 1 none ∈ WT := wt_of (i := 1551) (by decide +kernel) rfl
theorem wf_1550 : Cond.instanceMethod ⟨"SwitchboardModel", "<init>", "()V"⟩ ∈ WT := wt_of (i := 1550) (by decide +kernel) rfl
theorem fI_X8_init : cfI yX8_init cX8_init 1 0 := ⟨⟨⟨by decide +kernel, by decide +kernel, by decide +kernel⟩, wf_13, wf_1551⟩, wf_1550, by decide +kernel⟩
theorem wf_35 : Cond.methodLink "SwitchboardLaw" 150 ⟨"Switchboard", "<init>", "()V"⟩ ∈ WT := wt_of (i := 35) (by decide +kernel) rfl
theorem wf_1547 : Cond.classLink "SwitchboardLaw" 151 "SwitchboardModel" ∈ WT := wt_of (i := 1547) (by decide +kernel) rfl
theorem wf_1548 : Cond.instantiable "SwitchboardModel" 25 ∈ WT := wt_of (i := 1548) (by decide +kernel) rfl
theorem wf_1549 : Cond.methodLink "SwitchboardLaw" 153 ⟨"SwitchboardModel", "<init>", "()V"⟩ ∈ WT := wt_of (i := 1549) (by decide +kernel) rfl
/-! THE CLAIM OUT OF ONE WALK OF THE LAW'S BODY. Your part is whole_start (and what it stands on); all else here is the same for every law, but numbers. -/
def R_law : String := "SwitchboardLaw"
def lw_P (b : Addr) (xs : List Int32) (args : Array Value) (s : State) : Prop := args = #[.ref b] ∧ s.IntsAt b xs ∧ xs.length ≤ 2048 ∧ (Jvm.Cond.and given_1 narrow_1).before args s = true
/-- what a walk over the start with the record d0 says of its end, said of the start itself -/
theorem lw_closed {s t : State} {o : Outcome} {d0 : Drawn} {L : List Loc} {k n : Nat} (hd0 : s.drawn.sameBut d0 lw_cs) (hv : ∃ v, o = .returned v) (hW : (s.setDrawn d0).WarmedH t.vm) (hs : (s.setDrawn d0).sameButNew ({ t with vm := s.vm } : State) L k n) : State.butDraws s t lw_cs (fun t1 => Framed s o t1 L k n) := by
  have h2 : t.drawn = d0 := congrArg State.drawn hs.1
  refine ⟨⟨hv, hW, State.sameButNew.setDrawn hs s.drawn⟩, ?_, by decide⟩
  rw [h2]
  exact hd0
def lw_Q (_ : Array Value) (s : State) (o : Outcome) (t : State) : Prop := o = .returned (some (.int 1)) ∧ State.butDraws s t lw_cs (fun t1 => Framed s o t1 [] 603072 7190634)
def lw_Z (below : List Frame) (a : Array Value) (s : State) : State → Prop := fun t => ∃ o, t.status = .running ∧ Ended t below o ∧ lw_Q a s o t
/-- the law's own end, with 1 on the stack, nothing written that was there before, its room as the claim has it; d0: the record of draws at this point (at the entry s.drawn: begin with 'refine W.base ?_' and 'have hd0 := Drawn.sameBut.refl s.drawn lw_cs') -/
theorem lw_ret {p : Program} {l : Launch} {e : Env} {s : State} {m : MethodId} {below : List Frame} {meth : Method} {c : Code} {b : Nat} {d0 : Drawn} (hd0 : s.drawn.sameBut d0 lw_cs) (hx : p.tables.exec = Jvm.exec) (hb : c.code = code) (hr : meth.sig.returnType = ret) (hlocks : meth.locks = false) {pc : Nat} {H : Heap} {ls : Array Slot} (hdg : decode code pc = .ok (.ireturn, 1)) : W p l e room_1 (s.setDrawn d0) m #[Value.ref b] below meth c H [] 603072 7190634 (lw_Z below #[Value.ref b] s) (F0 m pc ls [.int 1]) := by
  intro T hT X
  obtain ⟨fs, hret, hrun, hended, hW, hframe⟩ := X.leave (v := some (.int 1)) (hlocks := hlocks) (fun h => by rw [hr] at h; cases h)
  have hmeth' : T.vm.method? m = some meth := X.method'
  refine ⟨T.setFrames fs, ?_, .returned (some (.int 1)), hrun, hended, rfl, lw_closed hd0 ⟨_, rfl⟩ hW hframe⟩
  jvm_step X.here [X.here.top, hx, hb, hdg, hmeth', hr, ret, narrow_b1]
  (try refine ⟨rfl, ?_⟩); (try refine ⟨rfl, ?_⟩)
  first | (intro acts; rw [hret _ acts rfl rfl rfl]) | rw [hret _ _ rfl rfl rfl]
  exact Steps.refl _
/-- what holds at the law's entry: the machine, the code, the tables' words (any of lw_tbl by 'hts w (by decide +kernel)'), the script of L ints xs at the cell b, what the Statement gives of the start (any of its parts by flat_of_before) -/
def lw_At (p : Program) (s : State) (m : MethodId) (meth : Method) (c : Code) (b L : Nat) (xs : Nat → Int32) : Prop :=
  p.tables.exec = Jvm.exec ∧ c.code = code ∧ meth.sig.returnType = ret ∧ c.maxLocals = 9 ∧ s.vm.findClass R_law = some m.cls ∧ (∀ w ∈ lw_tbl, w.before #[Value.ref b] s = true) ∧ va_X b L xs s s.heap ∧ b < s.heap.size ∧ meth.locks = false ∧ (Jvm.Cond.and given_1 narrow_1).before #[Value.ref b] s = true
/-! the law's loop *)-/
theorem m63 (x : Int32) : ∃ n : Nat, n < 64 ∧ x &&& 63 = nI n := by
  refine ⟨x.toBitVec.toNat % 64, Nat.mod_lt _ (by decide), ?_⟩
  apply Int32.toBitVec_inj.mp
  apply BitVec.eq_of_toNat_eq
  have e1 : (x &&& 63).toBitVec = x.toBitVec &&& (63 : Int32).toBitVec := rfl
  have e2 : (nI (x.toBitVec.toNat % 64)).toBitVec = BitVec.ofNat 32 (x.toBitVec.toNat % 64) := rfl
  have e3 : (63 : Int32).toBitVec.toNat = 63 := by decide
  rw [e1, BitVec.toNat_and, e2, e3, BitVec.toNat_ofNat]
  have e4 := Nat.and_two_pow_sub_one_eq_mod x.toBitVec.toNat 6
  have e5 : (2 : Nat) ^ 6 - 1 = 63 := by decide
  rw [e5] at e4
  have e6 : (2 : Nat) ^ 6 = 64 := by decide
  rw [e4, e6]
  have h1 : x.toBitVec.toNat % 64 < 64 := Nat.mod_lt _ (by decide)
  exact (Nat.mod_eq_of_lt (by omega)).symm
theorem end_in {L j : Nat} (hL : L ≤ 2048) (hj : j + 4 ≤ L) : ¬ nI L - 4 < nI j := by
  rw [show (4 : Int32) = nI 4 from rfl, sb_nn (by omega)]
  exact nI_nlt (by omega) (by omega)
theorem end_out {L j : Nat} (hL : L ≤ 2048) (hj : ¬ j + 4 ≤ L) (hj2 : j < 4000) : nI L - 4 < nI j := by
  by_cases h : 4 ≤ L
  · rw [show (4 : Int32) = nI 4 from rfl, sb_nn h]
    exact nI_lt (by omega) (by omega)
  · have h1 : (nI L - 4).toInt < 0 := by
      rcases (show L = 0 ∨ L = 1 ∨ L = 2 ∨ L = 3 by omega) with rfl | rfl | rfl | rfl <;> decide
    rw [Int32.lt_iff_toInt_lt, nI_toInt (show j < 2 ^ 31 by omega)]
    omega
section LAO
variable {p : Program} {l : Launch} {e : Env} {s : State} {m : MethodId} {below : List Frame} {meth : Method} {c : Code} {Q : State → Prop} {D : va_G} {dA : Nat → ClassId} {sa : String → Nat → Nat} {cells slots pc : Nat} {w w2 : va_W} {lv lv' : List (Nat × Value)} {st st0 : List Value} {cw : Cond} {b L : Nat} {xs : Nat → Int32} {a a' : Nat → Nat} {ao od j : Nat}
variable {Zc Zc' Zr Zr' : ZZ} {g g1 : Nat → Int64} {gD gD1 : Nat → UInt64} {ws ws' : va_W} {q : Nat} {lw : LW} {W : Nat}
abbrev kL (p : Program) (l : Launch) (e : Env) (s : State) (m : MethodId) (b : Nat) (below : List Frame) (meth : Method) (c : Code) (D : va_G) (Q : State → Prop) (dA : Nat → ClassId) (a a' : Nat → Nat) (ao od j W cells slots pc : Nat) : Prop := ∀ (lw' : LW) (W' : Nat) (Zc' Zr' : ZZ) (g' : Nat → Int64) (ws' : va_W) (gD' : Nat → UInt64), W' ≤ W + 13 → G lw' W' Zc' Zr' → sbT dA (a 300) lw' ws' → xL p l e s m b below meth c D Q (wLw dA a a' ao od Zc' g' Zr' ws' gD') (cells + 40) (slots + 6400) pc (lvL b a a' ao od j) []
set_option maxRecDepth 100000 in
set_option maxHeartbeats 4000000 in
theorem law_sel (C : lC p l s m b meth c D dA sa cw) (hl : l.stackTraces = false) (hX : va_X b L xs s s.heap) (hbl : b < s.heap.size) (hj : j + 4 ≤ L) (hL : L ≤ 2048) (hG : G lw W Zc Zr) (hs : sbT dA (a 300) lw ws) (hW : W + 13 ≤ 7000) (hc : cells + 40 ≤ 603072) (hq : slots + 6400 ≤ 7190634) (K : kL p l e s m b below meth c D Q dA a a' ao od j W cells slots 2722) {x : Int32} {n : Nat} (hn : x = nI n) (h64 : n < 64) : xL p l e s m b below meth c D Q (wLw dA a a' ao od Zc g Zr ws gD) cells slots 44 (lvL b a a' ao od j) [.int x] := by
  by_cases h : n < 50
  · match n, h with
    | 0, _ => exact xv_tabIn (tgt := 260) (pc := 44) C dW_44 (nI 0) hn (by decide) (by decide) (rfl : _ = some (216 : Int)) (by decide) (lc_0 C hl hX hbl hj hL hG hs hW hc hq K)
    | 1, _ => exact xv_tabIn (tgt := 304) (pc := 44) C dW_44 (nI 1) hn (by decide) (by decide) (rfl : _ = some (260 : Int)) (by decide) (lc_1 C hl hX hbl hj hL hG hs hW hc hq K)
    | 2, _ => exact xv_tabIn (tgt := 384) (pc := 44) C dW_44 (nI 2) hn (by decide) (by decide) (rfl : _ = some (340 : Int)) (by decide) (lc_2 C hl hX hbl hj hL hG hs hW hc hq K)
    | 3, _ => exact xv_tabIn (tgt := 452) (pc := 44) C dW_44 (nI 3) hn (by decide) (by decide) (rfl : _ = some (408 : Int)) (by decide) (lc_3 C hl hX hbl hj hL hG hs hW hc hq K)
    | 4, _ => exact xv_tabIn (tgt := 515) (pc := 44) C dW_44 (nI 4) hn (by decide) (by decide) (rfl : _ = some (471 : Int)) (by decide) (lc_4 C hl hX hbl hj hL hG hs hW hc hq K)
    | 5, _ => exact xv_tabIn (tgt := 571) (pc := 44) C dW_44 (nI 5) hn (by decide) (by decide) (rfl : _ = some (527 : Int)) (by decide) (lc_5 C hl hX hbl hj hL hG hs hW hc hq K)
    | 6, _ => exact xv_tabIn (tgt := 639) (pc := 44) C dW_44 (nI 6) hn (by decide) (by decide) (rfl : _ = some (595 : Int)) (by decide) (lc_6 C hl hX hbl hj hL hG hs hW hc hq K)
    | 7, _ => exact xv_tabIn (tgt := 695) (pc := 44) C dW_44 (nI 7) hn (by decide) (by decide) (rfl : _ = some (651 : Int)) (by decide) (lc_7 C hl hX hbl hj hL hG hs hW hc hq K)
    | 8, _ => exact xv_tabIn (tgt := 751) (pc := 44) C dW_44 (nI 8) hn (by decide) (by decide) (rfl : _ = some (707 : Int)) (by decide) (lc_8 C hl hX hbl hj hL hG hs hW hc hq K)
    | 9, _ => exact xv_tabIn (tgt := 764) (pc := 44) C dW_44 (nI 9) hn (by decide) (by decide) (rfl : _ = some (720 : Int)) (by decide) (lc_9 C hl hX hbl hj hL hG hs hW hc hq K)
    | 10, _ => exact xv_tabIn (tgt := 777) (pc := 44) C dW_44 (nI 10) hn (by decide) (by decide) (rfl : _ = some (733 : Int)) (by decide) (lc_10 C hl hX hbl hj hL hG hs hW hc hq K)
    | 11, _ => exact xv_tabIn (tgt := 833) (pc := 44) C dW_44 (nI 11) hn (by decide) (by decide) (rfl : _ = some (789 : Int)) (by decide) (lc_11 C hl hX hbl hj hL hG hs hW hc hq K)
    | 12, _ => exact xv_tabIn (tgt := 901) (pc := 44) C dW_44 (nI 12) hn (by decide) (by decide) (rfl : _ = some (857 : Int)) (by decide) (lc_12 C hl hX hbl hj hL hG hs hW hc hq K)
    | 13, _ => exact xv_tabIn (tgt := 964) (pc := 44) C dW_44 (nI 13) hn (by decide) (by decide) (rfl : _ = some (920 : Int)) (by decide) (lc_13 C hl hX hbl hj hL hG hs hW hc hq K)
    | 14, _ => exact xv_tabIn (tgt := 1020) (pc := 44) C dW_44 (nI 14) hn (by decide) (by decide) (rfl : _ = some (976 : Int)) (by decide) (lc_14 C hl hX hbl hj hL hG hs hW hc hq K)
    | 15, _ => exact xv_tabIn (tgt := 1076) (pc := 44) C dW_44 (nI 15) hn (by decide) (by decide) (rfl : _ = some (1032 : Int)) (by decide) (lc_15 C hl hX hbl hj hL hG hs hW hc hq K)
    | 16, _ => exact xv_tabIn (tgt := 1144) (pc := 44) C dW_44 (nI 16) hn (by decide) (by decide) (rfl : _ = some (1100 : Int)) (by decide) (lc_16 C hl hX hbl hj hL hG hs hW hc hq K)
    | 17, _ => exact xv_tabIn (tgt := 1212) (pc := 44) C dW_44 (nI 17) hn (by decide) (by decide) (rfl : _ = some (1168 : Int)) (by decide) (lc_17 C hl hX hbl hj hL hG hs hW hc hq K)
    | 18, _ => exact xv_tabIn (tgt := 1280) (pc := 44) C dW_44 (nI 18) hn (by decide) (by decide) (rfl : _ = some (1236 : Int)) (by decide) (lc_18 C hl hX hbl hj hL hG hs hW hc hq K)
    | 19, _ => exact xv_tabIn (tgt := 1348) (pc := 44) C dW_44 (nI 19) hn (by decide) (by decide) (rfl : _ = some (1304 : Int)) (by decide) (lc_19 C hl hX hbl hj hL hG hs hW hc hq K)
    | 20, _ => exact xv_tabIn (tgt := 1361) (pc := 44) C dW_44 (nI 20) hn (by decide) (by decide) (rfl : _ = some (1317 : Int)) (by decide) (lc_20 C hl hX hbl hj hL hG hs hW hc hq K)
    | 21, _ => exact xv_tabIn (tgt := 1417) (pc := 44) C dW_44 (nI 21) hn (by decide) (by decide) (rfl : _ = some (1373 : Int)) (by decide) (lc_21 C hl hX hbl hj hL hG hs hW hc hq K)
    | 22, _ => exact xv_tabIn (tgt := 1473) (pc := 44) C dW_44 (nI 22) hn (by decide) (by decide) (rfl : _ = some (1429 : Int)) (by decide) (lc_22 C hl hX hbl hj hL hG hs hW hc hq K)
    | 23, _ => exact xv_tabIn (tgt := 1529) (pc := 44) C dW_44 (nI 23) hn (by decide) (by decide) (rfl : _ = some (1485 : Int)) (by decide) (lc_23 C hl hX hbl hj hL hG hs hW hc hq K)
    | 24, _ => exact xv_tabIn (tgt := 1592) (pc := 44) C dW_44 (nI 24) hn (by decide) (by decide) (rfl : _ = some (1548 : Int)) (by decide) (lc_24 C hl hX hbl hj hL hG hs hW hc hq K)
    | 25, _ => exact xv_tabIn (tgt := 1648) (pc := 44) C dW_44 (nI 25) hn (by decide) (by decide) (rfl : _ = some (1604 : Int)) (by decide) (lc_25 C hl hX hbl hj hL hG hs hW hc hq K)
    | 26, _ => exact xv_tabIn (tgt := 1704) (pc := 44) C dW_44 (nI 26) hn (by decide) (by decide) (rfl : _ = some (1660 : Int)) (by decide) (lc_26 C hl hX hbl hj hL hG hs hW hc hq K)
    | 27, _ => exact xv_tabIn (tgt := 1760) (pc := 44) C dW_44 (nI 27) hn (by decide) (by decide) (rfl : _ = some (1716 : Int)) (by decide) (lc_27 C hl hX hbl hj hL hG hs hW hc hq K)
    | 28, _ => exact xv_tabIn (tgt := 1828) (pc := 44) C dW_44 (nI 28) hn (by decide) (by decide) (rfl : _ = some (1784 : Int)) (by decide) (lc_28 C hl hX hbl hj hL hG hs hW hc hq K)
    | 29, _ => exact xv_tabIn (tgt := 1884) (pc := 44) C dW_44 (nI 29) hn (by decide) (by decide) (rfl : _ = some (1840 : Int)) (by decide) (lc_29 C hl hX hbl hj hL hG hs hW hc hq K)
    | 30, _ => exact xv_tabIn (tgt := 1897) (pc := 44) C dW_44 (nI 30) hn (by decide) (by decide) (rfl : _ = some (1853 : Int)) (by decide) (lc_30 C hl hX hbl hj hL hG hs hW hc hq K)
    | 31, _ => exact xv_tabIn (tgt := 1910) (pc := 44) C dW_44 (nI 31) hn (by decide) (by decide) (rfl : _ = some (1866 : Int)) (by decide) (lc_31 C hl hX hbl hj hL hG hs hW hc hq K)
    | 32, _ => exact xv_tabIn (tgt := 1966) (pc := 44) C dW_44 (nI 32) hn (by decide) (by decide) (rfl : _ = some (1922 : Int)) (by decide) (lc_32 C hl hX hbl hj hL hG hs hW hc hq K)
    | 33, _ => exact xv_tabIn (tgt := 2022) (pc := 44) C dW_44 (nI 33) hn (by decide) (by decide) (rfl : _ = some (1978 : Int)) (by decide) (lc_33 C hl hX hbl hj hL hG hs hW hc hq K)
    | 34, _ => exact xv_tabIn (tgt := 2078) (pc := 44) C dW_44 (nI 34) hn (by decide) (by decide) (rfl : _ = some (2034 : Int)) (by decide) (lc_34 C hl hX hbl hj hL hG hs hW hc hq K)
    | 35, _ => exact xv_tabIn (tgt := 2092) (pc := 44) C dW_44 (nI 35) hn (by decide) (by decide) (rfl : _ = some (2048 : Int)) (by decide) (lc_35 C hl hX hbl hj hL hG hs hW hc hq K)
    | 36, _ => exact xv_tabIn (tgt := 2106) (pc := 44) C dW_44 (nI 36) hn (by decide) (by decide) (rfl : _ = some (2062 : Int)) (by decide) (lc_36 C hl hX hbl hj hL hG hs hW hc hq K)
    | 37, _ => exact xv_tabIn (tgt := 2162) (pc := 44) C dW_44 (nI 37) hn (by decide) (by decide) (rfl : _ = some (2118 : Int)) (by decide) (lc_37 C hl hX hbl hj hL hG hs hW hc hq K)
    | 38, _ => exact xv_tabIn (tgt := 2227) (pc := 44) C dW_44 (nI 38) hn (by decide) (by decide) (rfl : _ = some (2183 : Int)) (by decide) (lc_38 C hl hX hbl hj hL hG hs hW hc hq K)
    | 39, _ => exact xv_tabIn (tgt := 2293) (pc := 44) C dW_44 (nI 39) hn (by decide) (by decide) (rfl : _ = some (2249 : Int)) (by decide) (lc_39 C hl hX hbl hj hL hG hs hW hc hq K)
    | 40, _ => exact xv_tabIn (tgt := 2306) (pc := 44) C dW_44 (nI 40) hn (by decide) (by decide) (rfl : _ = some (2262 : Int)) (by decide) (lc_40 C hl hX hbl hj hL hG hs hW hc hq K)
    | 41, _ => exact xv_tabIn (tgt := 2362) (pc := 44) C dW_44 (nI 41) hn (by decide) (by decide) (rfl : _ = some (2318 : Int)) (by decide) (lc_41 C hl hX hbl hj hL hG hs hW hc hq K)
    | 42, _ => exact xv_tabIn (tgt := 2375) (pc := 44) C dW_44 (nI 42) hn (by decide) (by decide) (rfl : _ = some (2331 : Int)) (by decide) (lc_42 C hl hX hbl hj hL hG hs hW hc hq K)
    | 43, _ => exact xv_tabIn (tgt := 2431) (pc := 44) C dW_44 (nI 43) hn (by decide) (by decide) (rfl : _ = some (2387 : Int)) (by decide) (lc_43 C hl hX hbl hj hL hG hs hW hc hq K)
    | 44, _ => exact xv_tabIn (tgt := 2489) (pc := 44) C dW_44 (nI 44) hn (by decide) (by decide) (rfl : _ = some (2445 : Int)) (by decide) (lc_44 C hl hX hbl hj hL hG hs hW hc hq K)
    | 45, _ => exact xv_tabIn (tgt := 2533) (pc := 44) C dW_44 (nI 45) hn (by decide) (by decide) (rfl : _ = some (2489 : Int)) (by decide) (lc_45 C hl hX hbl hj hL hG hs hW hc hq K)
    | 46, _ => exact xv_tabIn (tgt := 2577) (pc := 44) C dW_44 (nI 46) hn (by decide) (by decide) (rfl : _ = some (2533 : Int)) (by decide) (lc_46 C hl hX hbl hj hL hG hs hW hc hq K)
    | 47, _ => exact xv_tabIn (tgt := 2621) (pc := 44) C dW_44 (nI 47) hn (by decide) (by decide) (rfl : _ = some (2577 : Int)) (by decide) (lc_47 C hl hX hbl hj hL hG hs hW hc hq K)
    | 48, _ => exact xv_tabIn (tgt := 2665) (pc := 44) C dW_44 (nI 48) hn (by decide) (by decide) (rfl : _ = some (2621 : Int)) (by decide) (lc_48 C hl hX hbl hj hL hG hs hW hc hq K)
    | 49, _ => exact xv_tabIn (tgt := 2678) (pc := 44) C dW_44 (nI 49) hn (by decide) (by decide) (rfl : _ = some (2634 : Int)) (by decide) (lc_49 C hl hX hbl hj hL hG hs hW hc hq K)
    | n + 50, h => exact absurd h (by omega)
  · subst hn
    refine xv_tabOut (tgt := 2722) (pc := 44) C dW_44 (Or.inr ?_) (by decide) (xl_wid (Nat.le_add_right _ _) (Nat.le_add_right _ _) (K lw W Zc Zr g ws gD (Nat.le_add_right _ _) hG hs))
    rw [nI_toInt (show n < 2 ^ 31 by omega)]
    omega
theorem law_end (C : lC p l s m b meth c D dA sa cw) (hr : meth.sig.returnType = ret) (h1 : cells ≤ 603072) (h2 : slots ≤ 7190634) : xL p l e s m b below meth c D (lw_Z below #[Value.ref b] s) w cells slots 2728 lv [] := by
  refine xv_iconst (v := 1) (pc := 2728) C dW_2728 (by decide) ?_
  intro H locs ls hP hD hS hl
  refine va_forget (fun q hq => hS.2.2 q hq) ?_
  refine W.widen h1 h2 ?_
  exact W.base (lw_ret (Drawn.sameBut.refl s.drawn lw_cs) C.1.1 C.1.2.1 hr C.2.2.2.2.1 dW_2729)
set_option maxRecDepth 100000 in
theorem law_loop (C : lC p l s m b meth c D dA sa cw) (hr : meth.sig.returnType = ret) (hl : l.stackTraces = false) (hX : va_X b L xs s s.heap) (hbl : b < s.heap.size) (hL : L ≤ 2048) : ∀ (n j : Nat) (lw : LW) (W : Nat) (Zc Zr : ZZ) (g : Nat → Int64) (ws : va_W) (gD : Nat → UInt64) (cells slots : Nat), L < j + 4 + 4 * n → j < 4000 → G lw W Zc Zr → sbT dA (a 300) lw ws → W + 13 * n ≤ 7000 → cells + 40 * n ≤ 603072 → slots + 6400 * n ≤ 7190634 → xL p l e s m b below meth c D (lw_Z below #[Value.ref b] s) (wLw dA a a' ao od Zc g Zr ws gD) cells slots 28 (lvL b a a' ao od j) [] := by
  intro n
  induction n with
  | zero =>
    intro j lw W Zc Zr g ws gD cells slots h1 h2 hG hs hW hc hq
    refine xv_iload (pc := 28) C dW_28 0 rfl ?_
    refine xv_aload_n (pc := 30) C dW_30 5 rfl rfl ?_
    refine xl_slen (pc := 31) C hX hbl dW_31 ?_
    refine xv_iconst (v := 4) (pc := 32) C dW_32 (by decide) ?_
    refine xv_isub (pc := 33) C dW_33 ?_
    refine xv_icmp_gt (tgt := 2728) (pc := 34) C dW_34 (by decide) (fun _ => ?_) (fun c9 => absurd (end_out hL (by omega) h2) c9)
    exact law_end C hr (by omega) (by omega)
  | succ n ih =>
    intro j lw W Zc Zr g ws gD cells slots h1 h2 hG hs hW hc hq
    refine xv_iload (pc := 28) C dW_28 0 rfl ?_
    refine xv_aload_n (pc := 30) C dW_30 5 rfl rfl ?_
    refine xl_slen (pc := 31) C hX hbl dW_31 ?_
    refine xv_iconst (v := 4) (pc := 32) C dW_32 (by decide) ?_
    refine xv_isub (pc := 33) C dW_33 ?_
    by_cases hj : j + 4 ≤ L
    · refine xv_icmp_gt (tgt := 2728) (pc := 34) C dW_34 (by decide) (fun c9 => absurd c9 (end_in hL hj)) (fun _ => ?_)
      refine xv_aload_n (pc := 37) C dW_37 5 rfl rfl ?_
      refine xv_iload (pc := 38) C dW_38 0 rfl ?_
      refine xl_sld (pc := 40) (k := j) C hX hbl hL dW_40 rfl (by omega) ?_
      refine xv_bipush (v := 63) (pc := 41) C dW_41 (by decide) ?_
      refine xv_iand (pc := 43) C dW_43 ?_
      obtain ⟨k, hk, hx⟩ := m63 (xs j)
      refine law_sel C hl hX hbl hj hL hG hs (by omega) (by omega) (by omega) (fun lw' W' Zc' Zr' g' ws' gD' hW' hG' hs' => ?_) hx hk
      refine xv_iinc (pc := 2722) (v := nI (j + 4)) (lv' := lvL b a a' ao od (j + 4)) C dW_2722 0 rfl (nI_add j 4) (by decide) rfl ?_
      refine xv_goto (tgt := 28) (pc := 2725) C dW_2725 (by decide) ?_
      exact ih (j + 4) lw' W' Zc' Zr' g' ws' gD' (cells + 40) (slots + 6400) (by omega) (by omega) hG' hs' (by omega) (by omega) (by omega)
    · refine xv_icmp_gt (tgt := 2728) (pc := 34) C dW_34 (by decide) (fun _ => ?_) (fun c9 => absurd (end_out hL hj h2) c9)
      exact law_end C hr (by omega) (by omega)
end LAO
/-! the law's start *)-/
section LAS
variable {p : Program} {l : Launch} {e : Env} {R : Room} {s : State} {m : MethodId} {args : Array Value} {below : List Frame} {meth : Method} {c : Code} {Q : State → Prop} {D : va_G} {dA : Nat → ClassId} {sa : String → Nat → Nat} {A : Nat → Prop} {cc : ByteArray} {nL cells slots pc : Nat} {own : String} {w w2 : va_W} {lv lv' : List (Nat × Value)} {st st0 rest : List Value} {cw : Cond}
theorem xv_newal (C : xv_C p l s m args meth c D dA sa A cc nL own (cw :: WT)) (d : decode cc pc = .ok (.newarray .long, 2)) (hc : cells + 1 ≤ R.cells) (hs : slots + 1 ≤ R.slots) (k : ∀ q, xv p l e R s m args below meth c D A nL Q (w ++ outW dA q (fun _ => 0)) (cells + 1) (slots + 1) (pc + 2) lv (.ref q :: st)) : xv p l e R s m args below meth c D A nL Q w cells slots pc lv (.int 1 :: st) := by
  intro H locs ls hP hD hS hl
  refine va_newa (atype := .long) (ty := .long) (a0 := (1, .inr (.inl (fun _ => 0)))) C.1.1 C.1.2.1 (C.1.2.2.2.2 _ (List.mem_cons_of_mem _ (wt_of (i := 2069) (by decide +kernel) rfl))) rfl C.2.1 hP hD hS C.2.2.1 (fun cA => rfl) (by decide) (by decide) (by show 1 * 8 ≤ 536870912; omega) hc hs d (fun q cA H1 hK1 hP1 hD1 hS1 => ?_)
  have e1 : s.vm.findClass ("[" ++ (FieldType.long).toString) = some (dA 4) := (C.2.1.2 4 _ rfl).2
  have e2 : s.vm.findClass ("[" ++ (FieldType.long).toString) = some cA := (hK1.2 7 _ rfl).2
  have e3 : cA = dA 4 := Option.some.inj (e2.symm.trans e1)
  subst e3
  exact k q H1 locs ls hP1 hD1 hS1 hl
theorem xv_newad (C : xv_C p l s m args meth c D dA sa A cc nL own (cw :: WT)) (d : decode cc pc = .ok (.newarray .double, 2)) (hc : cells + 1 ≤ R.cells) (hs : slots + 1 ≤ R.slots) (k : ∀ q, xv p l e R s m args below meth c D A nL Q (w ++ outD dA q (fun _ => 0)) (cells + 1) (slots + 1) (pc + 2) lv (.ref q :: st)) : xv p l e R s m args below meth c D A nL Q w cells slots pc lv (.int 1 :: st) := by
  intro H locs ls hP hD hS hl
  refine va_newa (atype := .double) (ty := .double) (a0 := (1, .inr (.inr (.inr (.inl (fun _ => 0)))))) C.1.1 C.1.2.1 (C.1.2.2.2.2 _ (List.mem_cons_of_mem _ (wt_of (i := 2070) (by decide +kernel) rfl))) rfl C.2.1 hP hD hS C.2.2.1 (fun cA => rfl) (by decide) (by decide) (by show 1 * 8 ≤ 536870912; omega) hc hs d (fun q cA H1 hK1 hP1 hD1 hS1 => ?_)
  have e1 : s.vm.findClass ("[" ++ (FieldType.double).toString) = some (dA 5) := (C.2.1.2 5 _ rfl).2
  have e2 : s.vm.findClass ("[" ++ (FieldType.double).toString) = some cA := (hK1.2 7 _ rfl).2
  have e3 : cA = dA 5 := Option.some.inj (e2.symm.trans e1)
  subst e3
  exact k q H1 locs ls hP1 hD1 hS1 hl
theorem pm_start {α : Type} (C S R O E : List α) : List.Perm ((((C ++ S) ++ R) ++ O) ++ E) (C ++ (O ++ (R ++ (S ++ E)))) := by
  have e1 : List.Perm (S ++ (R ++ (O ++ E))) (R ++ (S ++ (O ++ E))) := List.perm_append_comm_assoc S R _
  have e2 : List.Perm (R ++ (S ++ (O ++ E))) (R ++ (O ++ (S ++ E))) := List.Perm.append_left R (List.perm_append_comm_assoc S O E)
  have e3 : List.Perm (R ++ (O ++ (S ++ E))) (O ++ (R ++ (S ++ E))) := List.perm_append_comm_assoc R O _
  have e4 := List.Perm.append_left C ((e1.trans e2).trans e3)
  simpa only [List.append_assoc] using e4
set_option maxRecDepth 100000 in
set_option maxHeartbeats 4000000 in
theorem law_start {b L : Nat} {xs : Nat → Int32} (C : lC p l s m b meth c D dA sa cw) (hr : meth.sig.returnType = ret) (hl : l.stackTraces = false) (hX : va_X b L xs s s.heap) (hbl : b < s.heap.size) (hL : L ≤ 2048) : xL p l e s m b below meth c D (lw_Z below #[Value.ref b] s) [] 0 0 0 [(0, .ref b)] [] := by
  refine xv_new (pc := 0) (ci := 7) (fs := [.null, .null, .null, .null, .null, .null, .null, .null, .int 0, .int 0, .int 0]) C dW_0 in_X7 tyX7_ok wf_33 wf_34 wf_1 rfl (fun j hj => by rcases (show j = 0 ∨ j = 1 ∨ j = 2 ∨ j = 3 ∨ j = 4 ∨ j = 5 ∨ j = 6 ∨ j = 7 ∨ j = 8 ∨ j = 9 ∨ j = 10 by omega) with rfl | rfl | rfl | rfl | rfl | rfl | rfl | rfl | rfl | rfl | rfl <;> rfl) (Nat.le_of_ble_eq_true rfl) (Nat.le_of_ble_eq_true rfl) (fun q => ?_)
  refine xv_dup (pc := 3) C dW_3 rfl ?_
  refine xv_callIpv (As := []) (pc := 4) (pre := []) (post := []) (w0 := [(q, .inr (7, [.null, .null, .null, .null, .null, .null, .null, .null, .int 0, .int 0, .int 0]))]) C (kC_X7 hl) fI_X7_init wf_35 rfl ⟨(Nat.le_of_ble_eq_true rfl), (Nat.le_of_ble_eq_true rfl)⟩ rfl (Nat.le_of_ble_eq_true rfl) dW_4 ⟨(Nat.le_of_ble_eq_true rfl), (Nat.le_of_ble_eq_true rfl)⟩ rfl ?_
  rintro w1 ⟨a, v, ha, rfl⟩
  subst ha
  rw [List.append_nil, List.nil_append]
  refine xv_astore_n (pc := 7) (lv' := [(1, .ref (a 0)), (0, .ref b)]) C dW_7 rfl (by decide) rfl ?_
  refine xv_new (pc := 8) (ci := 8) (fs := [.null, .null, .null, .null, .null, .null, .null, .null, .int 0, .int 0, .int 0, .int 0, .int 0, .int 0, .int 0, .null, .int 0, .null, .null, .null, .int 0, .int 0, .int 0, .int 0, .int 0]) C dW_8 in_X8 tyX8_ok wf_1547 wf_1548 wf_13 rfl (fun j hj => by rcases (show j = 0 ∨ j = 1 ∨ j = 2 ∨ j = 3 ∨ j = 4 ∨ j = 5 ∨ j = 6 ∨ j = 7 ∨ j = 8 ∨ j = 9 ∨ j = 10 ∨ j = 11 ∨ j = 12 ∨ j = 13 ∨ j = 14 ∨ j = 15 ∨ j = 16 ∨ j = 17 ∨ j = 18 ∨ j = 19 ∨ j = 20 ∨ j = 21 ∨ j = 22 ∨ j = 23 ∨ j = 24 by omega) with rfl | rfl | rfl | rfl | rfl | rfl | rfl | rfl | rfl | rfl | rfl | rfl | rfl | rfl | rfl | rfl | rfl | rfl | rfl | rfl | rfl | rfl | rfl | rfl | rfl <;> rfl) (Nat.le_of_ble_eq_true rfl) (Nat.le_of_ble_eq_true rfl) (fun q => ?_)
  refine xv_dup (pc := 11) C dW_11 rfl ?_
  refine xv_callIpv (As := []) (pc := 12) (pre := cwC dA a Z0c ++ sbW dA (a 300) v 16 (fun _ => 0) 0 0) (post := []) (w0 := [(q, .inr (8, [.null, .null, .null, .null, .null, .null, .null, .null, .int 0, .int 0, .int 0, .int 0, .int 0, .int 0, .int 0, .null, .int 0, .null, .null, .null, .int 0, .int 0, .int 0, .int 0, .int 0]))]) C (kC_X8 hl) fI_X8_init wf_1549 rfl ⟨(Nat.le_of_ble_eq_true rfl), (Nat.le_of_ble_eq_true rfl)⟩ rfl (Nat.le_of_ble_eq_true rfl) dW_12 ⟨(Nat.le_of_ble_eq_true rfl), (Nat.le_of_ble_eq_true rfl)⟩ rfl ?_
  rintro w1 ⟨q0, q1, q2, q3, q4, q5, q6, q7, q8, q9, q10, q11, rfl⟩
  rw [List.append_nil]
  refine xv_astore_n (pc := 15) (lv' := [(2, .ref q), (1, .ref (a 0)), (0, .ref b)]) C dW_15 rfl (by decide) rfl ?_
  refine xv_iconst (v := 1) (pc := 16) C dW_16 (by decide) ?_
  refine xv_newal (pc := 17) C dW_17 (Nat.le_of_ble_eq_true rfl) (Nat.le_of_ble_eq_true rfl) (fun ao => ?_)
  refine xv_astore_n (pc := 19) (lv' := [(3, .ref ao), (2, .ref q), (1, .ref (a 0)), (0, .ref b)]) C dW_19 rfl (by decide) rfl ?_
  refine xv_iconst (v := 1) (pc := 20) C dW_20 (by decide) ?_
  refine xv_newad (pc := 21) C dW_21 (Nat.le_of_ble_eq_true rfl) (Nat.le_of_ble_eq_true rfl) (fun od => ?_)
  refine xv_astore (pc := 23) (lv' := [(4, .ref od), (3, .ref ao), (2, .ref q), (1, .ref (a 0)), (0, .ref b)]) C dW_23 (by decide) rfl ?_
  refine xv_iconst (v := nI 0) (pc := 25) C dW_25 (by decide) ?_
  refine xv_istore (pc := 26) (lv' := lvL b a (fun k => [q, q0, q1, q2, q3, q4, q5, q6, q7, q8, q9, q10, q11].getD k 0) ao od 0) C dW_26 (by decide) rfl ?_
  refine xl_wid (c2 := 400) (s2 := 6000) (Nat.le_of_ble_eq_true rfl) (Nat.le_of_ble_eq_true rfl) ?_
  refine xv_pm (w2 := wLw dA a (fun k => [q, q0, q1, q2, q3, q4, q5, q6, q7, q8, q9, q10, q11].getD k 0) ao od Z0c (fun _ => 0) Z0r (sbW dA (a 300) v 16 (fun _ => 0) 0 0) (fun _ => 0)) (pm_start (cwC dA a Z0c) (sbW dA (a 300) v 16 (fun _ => 0) 0 0) (cwR dA (fun k => [q, q0, q1, q2, q3, q4, q5, q6, q7, q8, q9, q10, q11].getD k 0) Z0r) (outW dA ao (fun _ => 0)) (outD dA od (fun _ => 0))) ?_
  exact law_loop C hr hl hX hbl hL 512 0 (0, fun _ => 0) 0 Z0c Z0r (fun _ => 0) _ (fun _ => 0) 400 6000 (by omega) (by omega) G_0 ⟨v, 16, fun _ => 0, 0, rfl, Nat.zero_le _, by omega, fun _ => ⟨0, by omega, rfl⟩, fun j hj => absurd hj (Nat.not_lt_zero j)⟩ (by omega) (by omega) (by omega)
end LAS
theorem whole_start {p : Program} {e : Env} {s : State} {m : MethodId} {below : List Frame} {meth : Method} {c : Code} (l : Launch) (hflags : l.flags = flags0) {b L : Nat} {xs : Nat → Int32} (hL : L ≤ 2048) (C0 : lw_At p s m meth c b L xs) : W p l e room_1 s m #[Value.ref b] below meth c s.heap [] 0 0 (lw_Z below #[Value.ref b] s) (entryFrame m ([Value.ref b] : List Value).toArray 9) := by
  obtain ⟨hx, hb, hr, hml, hown, hts, hX, hbl, hlocks, hgv⟩ := id C0
  obtain ⟨D, dA, hK⟩ := ks_start hts
  obtain ⟨sa, hxe⟩ := xe_start hts hgv
  have hst : l.stackTraces = false := by
    unfold Launch.stackTraces
    rw [hflags]
    decide +kernel
  have hw := wt_before hts
  have C : lC p l s m b meth c D dA sa (Cond.arrayClass .int) := ⟨⟨hx, hb, hml, hown, fun x h => by
    rcases List.mem_cons.mp h with rfl | h
    · exact tab_of hts (i := 88) (by decide +kernel)
    · exact hw x h⟩, hK, fun q h => h, hxe, hlocks, hst⟩
  have hl := lv_entry ([.ref b]) (n := 9) (Nat.le_of_ble_eq_true rfl)
  rw [lg_entry_eq]
  generalize (lg_sl ([.ref b]) ++ List.replicate (9 - (lg_sl ([.ref b])).length) Slot.unset).toArray = ls at hl ⊢
  have hl : lv_has ls 9 [(0, .ref b)] := hl
  exact law_start (e := e) (below := below) C hr hst hX hbl hL s.heap [] ls (fun k q h => by simp at h) ⟨fun i j p q h => by simp at h, fun k q h => by simp at h⟩ va_S.rf hl
