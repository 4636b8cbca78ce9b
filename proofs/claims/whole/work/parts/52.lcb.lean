/-! cases of the law *)-/
section LCA
variable {p : Program} {l : Launch} {e : Env} {s : State} {m : MethodId} {below : List Frame} {meth : Method} {c : Code} {Q : State → Prop} {D : va_G} {dA : Nat → ClassId} {sa : String → Nat → Nat} {cells slots pc : Nat} {w w2 : va_W} {lv lv' : List (Nat × Value)} {st st0 : List Value} {cw : Cond} {b L : Nat} {xs : Nat → Int32} {a a' : Nat → Nat} {ao od j : Nat}
variable {Zc Zc' Zr Zr' : ZZ} {g g1 : Nat → Int64} {gD gD1 : Nat → UInt64} {ws ws' : va_W} {q : Nat} {lw : LW} {W : Nat}
set_option maxRecDepth 100000 in
theorem lc_2 (C : lC p l s m b meth c D dA sa cw) (hl : l.stackTraces = false) (hX : va_X b L xs s s.heap) (hbl : b < s.heap.size) (hj : j + 4 ≤ L) (hL : L ≤ 2048) (hG : G lw W Zc Zr) (hs : sbT dA (a 300) lw ws) (hW : W + 13 ≤ 7000) (hc : cells + 40 ≤ 603072) (hq : slots + 6400 ≤ 7190634) (K : ∀ (lw' : LW) (W' : Nat) (Zc' Zr' : ZZ) (g' : Nat → Int64) (ws' : va_W) (gD' : Nat → UInt64), W' ≤ W + 13 → G lw' W' Zc' Zr' → sbT dA (a 300) lw' ws' → xL p l e s m b below meth c D Q (wLw dA a a' ao od Zc' g' Zr' ws' gD') (cells + 40) (slots + 6400) 2722 (lvL b a a' ao od j) []) : xL p l e s m b below meth c D Q (wLw dA a a' ao od Zc g Zr ws gD) cells slots 384 (lvL b a a' ao od j) [] := by
  obtain ⟨rc, Zc', rr, Zr', h1, h2, hG', h4, h5⟩ := w_addSubscriber (a := (xs (j + 1))) (b := (xs (j + 2))) hG (by omega)
  refine xv_aload_n (pc := 384) C dW_384 4 rfl rfl ?_
  refine xl_arg (q := 385) C hX hbl hL hj 1 5 0 (by decide) rfl rfl (by decide) dW_385 dW_386 dW_388 dW_389 dW_390 ?_
  refine xl_arg (q := 391) C hX hbl hL hj 2 5 0 (by decide) rfl rfl (by decide) dW_391 dW_392 dW_394 dW_395 dW_396 ?_
  refine xv_aload_n (pc := 397) C dW_397 2 rfl rfl ?_
  refine xl_wr (As := [.ref (a 0), .int (xs (j + 1)), .int (xs (j + 2)), .ref ao]) (pc := 398) C (kW_addSubscriber hl (kX7_addSubscriber hl h1) h4 (rcv_7 dA a Zc)) fW_addSubscriber wf_1089 rfl ⟨(Nat.le_of_ble_eq_true rfl), (Nat.le_of_ble_eq_true rfl)⟩ rfl (Nat.le_of_ble_eq_true rfl) dW_398 ⟨(Nat.le_of_ble_eq_true rfl), (Nat.le_of_ble_eq_true rfl)⟩ hc hq (fun r g1 hr => ?_)
  refine xv_istore (pc := 401) (lv' := (6, .int r) :: lvL b a a' ao od j) C dW_401 (by decide) rfl ?_
  refine xv_aload_n (pc := 403) C dW_403 4 rfl rfl ?_
  refine xl_arg (q := 404) C hX hbl hL hj 1 6 1 (by decide) rfl rfl (by decide) dW_404 dW_405 dW_407 dW_408 dW_409 ?_
  refine xl_arg (q := 410) C hX hbl hL hj 2 6 1 (by decide) rfl rfl (by decide) dW_410 dW_411 dW_413 dW_414 dW_415 ?_
  refine xl_rf (As := [.int (xs (j + 1)), .int (xs (j + 2))]) (pc := 416) (n := 2) C (kX8_addSubscriber hl h2) rfl fV_X8_addSubscriber wf_1679 rfl ⟨(Nat.le_of_ble_eq_true rfl), (Nat.le_of_ble_eq_true rfl)⟩ rfl (Nat.le_of_ble_eq_true rfl) dW_416 ⟨rfl, rfl⟩ hc hq ?_
  exact tl_int (q := 419) C hl dW_419 dW_421 dW_422 dW_425 dW_427 dW_432 dW_434 dW_437 dW_438 dW_439 dW_440 dW_442 dW_443 dW_444 dW_449 (by decide) hc hq (res_of hr h4 h5 (by decide)) (K lw _ Zc' Zr' g1 ws gD (by omega) hG' hs)
set_option maxRecDepth 100000 in
theorem lc_4 (C : lC p l s m b meth c D dA sa cw) (hl : l.stackTraces = false) (hX : va_X b L xs s s.heap) (hbl : b < s.heap.size) (hj : j + 4 ≤ L) (hL : L ≤ 2048) (hG : G lw W Zc Zr) (hs : sbT dA (a 300) lw ws) (hW : W + 13 ≤ 7000) (hc : cells + 40 ≤ 603072) (hq : slots + 6400 ≤ 7190634) (K : ∀ (lw' : LW) (W' : Nat) (Zc' Zr' : ZZ) (g' : Nat → Int64) (ws' : va_W) (gD' : Nat → UInt64), W' ≤ W + 13 → G lw' W' Zc' Zr' → sbT dA (a 300) lw' ws' → xL p l e s m b below meth c D Q (wLw dA a a' ao od Zc' g' Zr' ws' gD') (cells + 40) (slots + 6400) 2722 (lvL b a a' ao od j) []) : xL p l e s m b below meth c D Q (wLw dA a a' ao od Zc g Zr ws gD) cells slots 515 (lvL b a a' ao od j) [] := by
  obtain ⟨rc, Zc', rr, Zr', h1, h2, hG', h4, h5⟩ := w_mend (a := (xs (j + 1))) hG (by omega)
  refine xv_aload_n (pc := 515) C dW_515 4 rfl rfl ?_
  refine xl_arg (q := 516) C hX hbl hL hj 1 5 0 (by decide) rfl rfl (by decide) dW_516 dW_517 dW_519 dW_520 dW_521 ?_
  refine xv_aload_n (pc := 522) C dW_522 2 rfl rfl ?_
  refine xl_wr (As := [.ref (a 0), .int (xs (j + 1)), .ref ao]) (pc := 523) C (kW_mend hl (kX7_mend hl h1) h4 (rcv_7 dA a Zc)) fW_mend wf_1103 rfl ⟨(Nat.le_of_ble_eq_true rfl), (Nat.le_of_ble_eq_true rfl)⟩ rfl (Nat.le_of_ble_eq_true rfl) dW_523 ⟨(Nat.le_of_ble_eq_true rfl), (Nat.le_of_ble_eq_true rfl)⟩ hc hq (fun r g1 hr => ?_)
  refine xv_istore (pc := 526) (lv' := (6, .int r) :: lvL b a a' ao od j) C dW_526 (by decide) rfl ?_
  refine xv_aload_n (pc := 528) C dW_528 4 rfl rfl ?_
  refine xl_arg (q := 529) C hX hbl hL hj 1 6 1 (by decide) rfl rfl (by decide) dW_529 dW_530 dW_532 dW_533 dW_534 ?_
  refine xl_rf (As := [.int (xs (j + 1))]) (pc := 535) (n := 1) C (kX8_mend hl h2) rfl fV_X8_mend wf_1771 rfl ⟨(Nat.le_of_ble_eq_true rfl), (Nat.le_of_ble_eq_true rfl)⟩ rfl (Nat.le_of_ble_eq_true rfl) dW_535 ⟨rfl, rfl⟩ hc hq ?_
  exact tl_int (q := 538) C hl dW_538 dW_540 dW_541 dW_544 dW_546 dW_551 dW_553 dW_556 dW_557 dW_558 dW_559 dW_561 dW_562 dW_563 dW_568 (by decide) hc hq (res_of hr h4 h5 (by decide)) (K lw _ Zc' Zr' g1 ws gD (by omega) hG' hs)
set_option maxRecDepth 100000 in
theorem lc_5 (C : lC p l s m b meth c D dA sa cw) (hl : l.stackTraces = false) (hX : va_X b L xs s s.heap) (hbl : b < s.heap.size) (hj : j + 4 ≤ L) (hL : L ≤ 2048) (hG : G lw W Zc Zr) (hs : sbT dA (a 300) lw ws) (hW : W + 13 ≤ 7000) (hc : cells + 40 ≤ 603072) (hq : slots + 6400 ≤ 7190634) (K : ∀ (lw' : LW) (W' : Nat) (Zc' Zr' : ZZ) (g' : Nat → Int64) (ws' : va_W) (gD' : Nat → UInt64), W' ≤ W + 13 → G lw' W' Zc' Zr' → sbT dA (a 300) lw' ws' → xL p l e s m b below meth c D Q (wLw dA a a' ao od Zc' g' Zr' ws' gD') (cells + 40) (slots + 6400) 2722 (lvL b a a' ao od j) []) : xL p l e s m b below meth c D Q (wLw dA a a' ao od Zc g Zr ws gD) cells slots 571 (lvL b a a' ao od j) [] := by
  obtain ⟨rc, Zc', rr, Zr', h1, h2, hG', h4, h5⟩ := w_call (a := (xs (j + 1))) (b := (xs (j + 2))) hG (by omega)
  refine xv_aload_n (pc := 571) C dW_571 4 rfl rfl ?_
  refine xl_arg (q := 572) C hX hbl hL hj 1 5 0 (by decide) rfl rfl (by decide) dW_572 dW_573 dW_575 dW_576 dW_577 ?_
  refine xl_arg (q := 578) C hX hbl hL hj 2 5 0 (by decide) rfl rfl (by decide) dW_578 dW_579 dW_581 dW_582 dW_583 ?_
  refine xv_aload_n (pc := 584) C dW_584 2 rfl rfl ?_
  refine xl_wr (As := [.ref (a 0), .int (xs (j + 1)), .int (xs (j + 2)), .ref ao]) (pc := 585) C (kW_call hl (kX7_call hl h1) h4 (rcv_7 dA a Zc)) fW_call wf_1110 rfl ⟨(Nat.le_of_ble_eq_true rfl), (Nat.le_of_ble_eq_true rfl)⟩ rfl (Nat.le_of_ble_eq_true rfl) dW_585 ⟨(Nat.le_of_ble_eq_true rfl), (Nat.le_of_ble_eq_true rfl)⟩ hc hq (fun r g1 hr => ?_)
  refine xv_istore (pc := 588) (lv' := (6, .int r) :: lvL b a a' ao od j) C dW_588 (by decide) rfl ?_
  refine xv_aload_n (pc := 590) C dW_590 4 rfl rfl ?_
  refine xl_arg (q := 591) C hX hbl hL hj 1 6 1 (by decide) rfl rfl (by decide) dW_591 dW_592 dW_594 dW_595 dW_596 ?_
  refine xl_arg (q := 597) C hX hbl hL hj 2 6 1 (by decide) rfl rfl (by decide) dW_597 dW_598 dW_600 dW_601 dW_602 ?_
  refine xl_rf (As := [.int (xs (j + 1)), .int (xs (j + 2))]) (pc := 603) (n := 2) C (kX8_call hl h2) rfl fV_X8_call wf_1783 rfl ⟨(Nat.le_of_ble_eq_true rfl), (Nat.le_of_ble_eq_true rfl)⟩ rfl (Nat.le_of_ble_eq_true rfl) dW_603 ⟨rfl, rfl⟩ hc hq ?_
  exact tl_int (q := 606) C hl dW_606 dW_608 dW_609 dW_612 dW_614 dW_619 dW_621 dW_624 dW_625 dW_626 dW_627 dW_629 dW_630 dW_631 dW_636 (by decide) hc hq (res_of hr h4 h5 (by decide)) (K lw _ Zc' Zr' g1 ws gD (by omega) hG' hs)
set_option maxRecDepth 100000 in
theorem lc_6 (C : lC p l s m b meth c D dA sa cw) (hl : l.stackTraces = false) (hX : va_X b L xs s s.heap) (hbl : b < s.heap.size) (hj : j + 4 ≤ L) (hL : L ≤ 2048) (hG : G lw W Zc Zr) (hs : sbT dA (a 300) lw ws) (hW : W + 13 ≤ 7000) (hc : cells + 40 ≤ 603072) (hq : slots + 6400 ≤ 7190634) (K : ∀ (lw' : LW) (W' : Nat) (Zc' Zr' : ZZ) (g' : Nat → Int64) (ws' : va_W) (gD' : Nat → UInt64), W' ≤ W + 13 → G lw' W' Zc' Zr' → sbT dA (a 300) lw' ws' → xL p l e s m b below meth c D Q (wLw dA a a' ao od Zc' g' Zr' ws' gD') (cells + 40) (slots + 6400) 2722 (lvL b a a' ao od j) []) : xL p l e s m b below meth c D Q (wLw dA a a' ao od Zc g Zr ws gD) cells slots 639 (lvL b a a' ao od j) [] := by
  obtain ⟨rc, Zc', rr, Zr', h1, h2, hG', h4, h5⟩ := w_hangUp (a := (xs (j + 1))) hG (by omega)
  refine xv_aload_n (pc := 639) C dW_639 4 rfl rfl ?_
  refine xl_arg (q := 640) C hX hbl hL hj 1 5 0 (by decide) rfl rfl (by decide) dW_640 dW_641 dW_643 dW_644 dW_645 ?_
  refine xv_aload_n (pc := 646) C dW_646 2 rfl rfl ?_
  refine xl_wr (As := [.ref (a 0), .int (xs (j + 1)), .ref ao]) (pc := 647) C (kW_hangUp hl (kX7_hangUp hl h1) h4 (rcv_7 dA a Zc)) fW_hangUp wf_1118 rfl ⟨(Nat.le_of_ble_eq_true rfl), (Nat.le_of_ble_eq_true rfl)⟩ rfl (Nat.le_of_ble_eq_true rfl) dW_647 ⟨(Nat.le_of_ble_eq_true rfl), (Nat.le_of_ble_eq_true rfl)⟩ hc hq (fun r g1 hr => ?_)
  refine xv_istore (pc := 650) (lv' := (6, .int r) :: lvL b a a' ao od j) C dW_650 (by decide) rfl ?_
  refine xv_aload_n (pc := 652) C dW_652 4 rfl rfl ?_
  refine xl_arg (q := 653) C hX hbl hL hj 1 6 1 (by decide) rfl rfl (by decide) dW_653 dW_654 dW_656 dW_657 dW_658 ?_
  refine xl_rf (As := [.int (xs (j + 1))]) (pc := 659) (n := 1) C (kX8_hangUp hl h2) rfl fV_X8_hangUp wf_1807 rfl ⟨(Nat.le_of_ble_eq_true rfl), (Nat.le_of_ble_eq_true rfl)⟩ rfl (Nat.le_of_ble_eq_true rfl) dW_659 ⟨rfl, rfl⟩ hc hq ?_
  exact tl_int (q := 662) C hl dW_662 dW_664 dW_665 dW_668 dW_670 dW_675 dW_677 dW_680 dW_681 dW_682 dW_683 dW_685 dW_686 dW_687 dW_692 (by decide) hc hq (res_of hr h4 h5 (by decide)) (K lw _ Zc' Zr' g1 ws gD (by omega) hG' hs)
set_option maxRecDepth 100000 in
theorem lc_7 (C : lC p l s m b meth c D dA sa cw) (hl : l.stackTraces = false) (hX : va_X b L xs s s.heap) (hbl : b < s.heap.size) (hj : j + 4 ≤ L) (hL : L ≤ 2048) (hG : G lw W Zc Zr) (hs : sbT dA (a 300) lw ws) (hW : W + 13 ≤ 7000) (hc : cells + 40 ≤ 603072) (hq : slots + 6400 ≤ 7190634) (K : ∀ (lw' : LW) (W' : Nat) (Zc' Zr' : ZZ) (g' : Nat → Int64) (ws' : va_W) (gD' : Nat → UInt64), W' ≤ W + 13 → G lw' W' Zc' Zr' → sbT dA (a 300) lw' ws' → xL p l e s m b below meth c D Q (wLw dA a a' ao od Zc' g' Zr' ws' gD') (cells + 40) (slots + 6400) 2722 (lvL b a a' ao od j) []) : xL p l e s m b below meth c D Q (wLw dA a a' ao od Zc g Zr ws gD) cells slots 695 (lvL b a a' ao od j) [] := by
  obtain ⟨rc, Zc', rr, Zr', h1, h2, hG', h4, h5⟩ := w_pass (a := (xs (j + 1))) hG (by omega)
  refine xv_aload_n (pc := 695) C dW_695 4 rfl rfl ?_
  refine xl_arg (q := 696) C hX hbl hL hj 1 5 0 (by decide) rfl rfl (by decide) dW_696 dW_697 dW_699 dW_700 dW_701 ?_
  refine xv_aload_n (pc := 702) C dW_702 2 rfl rfl ?_
  refine xl_wr (As := [.ref (a 0), .int (xs (j + 1)), .ref ao]) (pc := 703) C (kW_pass hl (kX7_pass hl h1) h4 (rcv_7 dA a Zc)) fW_pass wf_1125 rfl ⟨(Nat.le_of_ble_eq_true rfl), (Nat.le_of_ble_eq_true rfl)⟩ rfl (Nat.le_of_ble_eq_true rfl) dW_703 ⟨(Nat.le_of_ble_eq_true rfl), (Nat.le_of_ble_eq_true rfl)⟩ hc hq (fun r g1 hr => ?_)
  refine xv_istore (pc := 706) (lv' := (6, .int r) :: lvL b a a' ao od j) C dW_706 (by decide) rfl ?_
  refine xv_aload_n (pc := 708) C dW_708 4 rfl rfl ?_
  refine xl_arg (q := 709) C hX hbl hL hj 1 6 1 (by decide) rfl rfl (by decide) dW_709 dW_710 dW_712 dW_713 dW_714 ?_
  refine xl_rf (As := [.int (xs (j + 1))]) (pc := 715) (n := 1) C (kX8_pass hl h2) rfl fV_X8_pass wf_1815 rfl ⟨(Nat.le_of_ble_eq_true rfl), (Nat.le_of_ble_eq_true rfl)⟩ rfl (Nat.le_of_ble_eq_true rfl) dW_715 ⟨rfl, rfl⟩ hc hq ?_
  exact tl_int (q := 718) C hl dW_718 dW_720 dW_721 dW_724 dW_726 dW_731 dW_733 dW_736 dW_737 dW_738 dW_739 dW_741 dW_742 dW_743 dW_748 (by decide) hc hq (res_of hr h4 h5 (by decide)) (K lw _ Zc' Zr' g1 ws gD (by omega) hG' hs)
set_option maxRecDepth 100000 in
theorem lc_8 (C : lC p l s m b meth c D dA sa cw) (hl : l.stackTraces = false) (hX : va_X b L xs s s.heap) (hbl : b < s.heap.size) (hj : j + 4 ≤ L) (hL : L ≤ 2048) (hG : G lw W Zc Zr) (hs : sbT dA (a 300) lw ws) (hW : W + 13 ≤ 7000) (hc : cells + 40 ≤ 603072) (hq : slots + 6400 ≤ 7190634) (K : ∀ (lw' : LW) (W' : Nat) (Zc' Zr' : ZZ) (g' : Nat → Int64) (ws' : va_W) (gD' : Nat → UInt64), W' ≤ W + 13 → G lw' W' Zc' Zr' → sbT dA (a 300) lw' ws' → xL p l e s m b below meth c D Q (wLw dA a a' ao od Zc' g' Zr' ws' gD') (cells + 40) (slots + 6400) 2722 (lvL b a a' ao od j) []) : xL p l e s m b below meth c D Q (wLw dA a a' ao od Zc g Zr ws gD) cells slots 751 (lvL b a a' ao od j) [] := by
  obtain ⟨r, Zc', Zr', h1, h2, hG'⟩ := o_switches hG
  refine xv_aload_n (pc := 751) C dW_751 4 rfl rfl ?_
  refine xl_cl (As := []) (pc := 752) (n := 0) C (kX7_switches hl h1) rfl fV_X7_switches wf_344 rfl ⟨(Nat.le_of_ble_eq_true rfl), (Nat.le_of_ble_eq_true rfl)⟩ rfl (Nat.le_of_ble_eq_true rfl) dW_752 ⟨(Nat.le_of_ble_eq_true rfl), (Nat.le_of_ble_eq_true rfl)⟩ hc hq ?_
  refine xv_aload_n (pc := 755) C dW_755 3 rfl rfl ?_
  refine xl_rf (As := []) (pc := 756) (n := 0) C (kX8_switches hl h2) rfl fV_X8_switches wf_1823 rfl ⟨(Nat.le_of_ble_eq_true rfl), (Nat.le_of_ble_eq_true rfl)⟩ rfl (Nat.le_of_ble_eq_true rfl) dW_756 ⟨rfl, rfl⟩ hc hq ?_
  exact xv_icmp_eq (tgt := 2722) (pc := 759) C dW_759 (by decide) (fun _ => K lw W Zc' Zr' g ws gD (by omega) hG' hs) (fun c9 => absurd rfl c9)
set_option maxRecDepth 100000 in
theorem lc_9 (C : lC p l s m b meth c D dA sa cw) (hl : l.stackTraces = false) (hX : va_X b L xs s s.heap) (hbl : b < s.heap.size) (hj : j + 4 ≤ L) (hL : L ≤ 2048) (hG : G lw W Zc Zr) (hs : sbT dA (a 300) lw ws) (hW : W + 13 ≤ 7000) (hc : cells + 40 ≤ 603072) (hq : slots + 6400 ≤ 7190634) (K : ∀ (lw' : LW) (W' : Nat) (Zc' Zr' : ZZ) (g' : Nat → Int64) (ws' : va_W) (gD' : Nat → UInt64), W' ≤ W + 13 → G lw' W' Zc' Zr' → sbT dA (a 300) lw' ws' → xL p l e s m b below meth c D Q (wLw dA a a' ao od Zc' g' Zr' ws' gD') (cells + 40) (slots + 6400) 2722 (lvL b a a' ao od j) []) : xL p l e s m b below meth c D Q (wLw dA a a' ao od Zc g Zr ws gD) cells slots 764 (lvL b a a' ao od j) [] := by
  obtain ⟨r, Zc', Zr', h1, h2, hG'⟩ := o_trunks hG
  refine xv_aload_n (pc := 764) C dW_764 4 rfl rfl ?_
  refine xl_cl (As := []) (pc := 765) (n := 0) C (kX7_trunks hl h1) rfl fV_X7_trunks wf_348 rfl ⟨(Nat.le_of_ble_eq_true rfl), (Nat.le_of_ble_eq_true rfl)⟩ rfl (Nat.le_of_ble_eq_true rfl) dW_765 ⟨(Nat.le_of_ble_eq_true rfl), (Nat.le_of_ble_eq_true rfl)⟩ hc hq ?_
  refine xv_aload_n (pc := 768) C dW_768 3 rfl rfl ?_
  refine xl_rf (As := []) (pc := 769) (n := 0) C (kX8_trunks hl h2) rfl fV_X8_trunks wf_1831 rfl ⟨(Nat.le_of_ble_eq_true rfl), (Nat.le_of_ble_eq_true rfl)⟩ rfl (Nat.le_of_ble_eq_true rfl) dW_769 ⟨rfl, rfl⟩ hc hq ?_
  exact xv_icmp_eq (tgt := 2722) (pc := 772) C dW_772 (by decide) (fun _ => K lw W Zc' Zr' g ws gD (by omega) hG' hs) (fun c9 => absurd rfl c9)
set_option maxRecDepth 100000 in
theorem lc_10 (C : lC p l s m b meth c D dA sa cw) (hl : l.stackTraces = false) (hX : va_X b L xs s s.heap) (hbl : b < s.heap.size) (hj : j + 4 ≤ L) (hL : L ≤ 2048) (hG : G lw W Zc Zr) (hs : sbT dA (a 300) lw ws) (hW : W + 13 ≤ 7000) (hc : cells + 40 ≤ 603072) (hq : slots + 6400 ≤ 7190634) (K : ∀ (lw' : LW) (W' : Nat) (Zc' Zr' : ZZ) (g' : Nat → Int64) (ws' : va_W) (gD' : Nat → UInt64), W' ≤ W + 13 → G lw' W' Zc' Zr' → sbT dA (a 300) lw' ws' → xL p l e s m b below meth c D Q (wLw dA a a' ao od Zc' g' Zr' ws' gD') (cells + 40) (slots + 6400) 2722 (lvL b a a' ao od j) []) : xL p l e s m b below meth c D Q (wLw dA a a' ao od Zc g Zr ws gD) cells slots 777 (lvL b a a' ao od j) [] := by
  obtain ⟨rc, Zc', rr, Zr', h1, h2, hG', h4, h5⟩ := w_trunkLength (x := (xs (j + 1))) hG
  refine xv_aload_n (pc := 777) C dW_777 4 rfl rfl ?_
  refine xl_arg (q := 778) C hX hbl hL hj 1 5 0 (by decide) rfl rfl (by decide) dW_778 dW_779 dW_781 dW_782 dW_783 ?_
  refine xv_aload_n (pc := 784) C dW_784 2 rfl rfl ?_
  refine xl_wr (As := [.ref (a 0), .int (xs (j + 1)), .ref ao]) (pc := 785) C (kW_trunkLength hl (kX7_trunkLength hl h1) h4 (rcv_7 dA a Zc)) fW_trunkLength wf_1132 rfl ⟨(Nat.le_of_ble_eq_true rfl), (Nat.le_of_ble_eq_true rfl)⟩ rfl (Nat.le_of_ble_eq_true rfl) dW_785 ⟨(Nat.le_of_ble_eq_true rfl), (Nat.le_of_ble_eq_true rfl)⟩ hc hq (fun r g1 hr => ?_)
  refine xv_istore (pc := 788) (lv' := (6, .int r) :: lvL b a a' ao od j) C dW_788 (by decide) rfl ?_
  refine xv_aload_n (pc := 790) C dW_790 4 rfl rfl ?_
  refine xl_arg (q := 791) C hX hbl hL hj 1 6 1 (by decide) rfl rfl (by decide) dW_791 dW_792 dW_794 dW_795 dW_796 ?_
  refine xl_rf (As := [.int (xs (j + 1))]) (pc := 797) (n := 1) C (kX8_trunkLength hl h2) rfl fV_X8_trunkLength wf_1835 rfl ⟨(Nat.le_of_ble_eq_true rfl), (Nat.le_of_ble_eq_true rfl)⟩ rfl (Nat.le_of_ble_eq_true rfl) dW_797 ⟨rfl, rfl⟩ hc hq ?_
  exact tl_int (q := 800) C hl dW_800 dW_802 dW_803 dW_806 dW_808 dW_813 dW_815 dW_818 dW_819 dW_820 dW_821 dW_823 dW_824 dW_825 dW_830 (by decide) hc hq (res_of hr h4 h5 (by decide)) (K lw _ Zc' Zr' g1 ws gD (by omega) hG' hs)
set_option maxRecDepth 100000 in
theorem lc_11 (C : lC p l s m b meth c D dA sa cw) (hl : l.stackTraces = false) (hX : va_X b L xs s s.heap) (hbl : b < s.heap.size) (hj : j + 4 ≤ L) (hL : L ≤ 2048) (hG : G lw W Zc Zr) (hs : sbT dA (a 300) lw ws) (hW : W + 13 ≤ 7000) (hc : cells + 40 ≤ 603072) (hq : slots + 6400 ≤ 7190634) (K : ∀ (lw' : LW) (W' : Nat) (Zc' Zr' : ZZ) (g' : Nat → Int64) (ws' : va_W) (gD' : Nat → UInt64), W' ≤ W + 13 → G lw' W' Zc' Zr' → sbT dA (a 300) lw' ws' → xL p l e s m b below meth c D Q (wLw dA a a' ao od Zc' g' Zr' ws' gD') (cells + 40) (slots + 6400) 2722 (lvL b a a' ao od j) []) : xL p l e s m b below meth c D Q (wLw dA a a' ao od Zc g Zr ws gD) cells slots 833 (lvL b a a' ao od j) [] := by
  obtain ⟨rc, Zc', rr, Zr', h1, h2, hG', h4, h5⟩ := w_otherEnd (x := (xs (j + 1))) (y := (xs (j + 2))) hG
  refine xv_aload_n (pc := 833) C dW_833 4 rfl rfl ?_
  refine xl_arg (q := 834) C hX hbl hL hj 1 5 0 (by decide) rfl rfl (by decide) dW_834 dW_835 dW_837 dW_838 dW_839 ?_
  refine xl_arg (q := 840) C hX hbl hL hj 2 5 0 (by decide) rfl rfl (by decide) dW_840 dW_841 dW_843 dW_844 dW_845 ?_
  refine xv_aload_n (pc := 846) C dW_846 2 rfl rfl ?_
  refine xl_wr (As := [.ref (a 0), .int (xs (j + 1)), .int (xs (j + 2)), .ref ao]) (pc := 847) C (kW_otherEnd hl (kX7_otherEnd hl h1) h4 (rcv_7 dA a Zc)) fW_otherEnd wf_1145 rfl ⟨(Nat.le_of_ble_eq_true rfl), (Nat.le_of_ble_eq_true rfl)⟩ rfl (Nat.le_of_ble_eq_true rfl) dW_847 ⟨(Nat.le_of_ble_eq_true rfl), (Nat.le_of_ble_eq_true rfl)⟩ hc hq (fun r g1 hr => ?_)
  refine xv_istore (pc := 850) (lv' := (6, .int r) :: lvL b a a' ao od j) C dW_850 (by decide) rfl ?_
  refine xv_aload_n (pc := 852) C dW_852 4 rfl rfl ?_
  refine xl_arg (q := 853) C hX hbl hL hj 1 6 1 (by decide) rfl rfl (by decide) dW_853 dW_854 dW_856 dW_857 dW_858 ?_
  refine xl_arg (q := 859) C hX hbl hL hj 2 6 1 (by decide) rfl rfl (by decide) dW_859 dW_860 dW_862 dW_863 dW_864 ?_
  refine xl_rf (As := [.int (xs (j + 1)), .int (xs (j + 2))]) (pc := 865) (n := 2) C (kX8_otherEnd hl h2) rfl fV_X8_otherEnd wf_1843 rfl ⟨(Nat.le_of_ble_eq_true rfl), (Nat.le_of_ble_eq_true rfl)⟩ rfl (Nat.le_of_ble_eq_true rfl) dW_865 ⟨rfl, rfl⟩ hc hq ?_
  exact tl_int (q := 868) C hl dW_868 dW_870 dW_871 dW_874 dW_876 dW_881 dW_883 dW_886 dW_887 dW_888 dW_889 dW_891 dW_892 dW_893 dW_898 (by decide) hc hq (res_of hr h4 h5 (by decide)) (K lw _ Zc' Zr' g1 ws gD (by omega) hG' hs)
set_option maxRecDepth 100000 in
theorem lc_12 (C : lC p l s m b meth c D dA sa cw) (hl : l.stackTraces = false) (hX : va_X b L xs s s.heap) (hbl : b < s.heap.size) (hj : j + 4 ≤ L) (hL : L ≤ 2048) (hG : G lw W Zc Zr) (hs : sbT dA (a 300) lw ws) (hW : W + 13 ≤ 7000) (hc : cells + 40 ≤ 603072) (hq : slots + 6400 ≤ 7190634) (K : ∀ (lw' : LW) (W' : Nat) (Zc' Zr' : ZZ) (g' : Nat → Int64) (ws' : va_W) (gD' : Nat → UInt64), W' ≤ W + 13 → G lw' W' Zc' Zr' → sbT dA (a 300) lw' ws' → xL p l e s m b below meth c D Q (wLw dA a a' ao od Zc' g' Zr' ws' gD') (cells + 40) (slots + 6400) 2722 (lvL b a a' ao od j) []) : xL p l e s m b below meth c D Q (wLw dA a a' ao od Zc g Zr ws gD) cells slots 901 (lvL b a a' ao od j) [] := by
  obtain ⟨rc, Zc', rr, Zr', h1, h2, hG', h4, h5⟩ := w_isCut (x := (xs (j + 1))) hG
  refine xv_aload_n (pc := 901) C dW_901 4 rfl rfl ?_
  refine xl_arg (q := 902) C hX hbl hL hj 1 5 0 (by decide) rfl rfl (by decide) dW_902 dW_903 dW_905 dW_906 dW_907 ?_
  refine xv_aload_n (pc := 908) C dW_908 2 rfl rfl ?_
  refine xl_wr (As := [.ref (a 0), .int (xs (j + 1)), .ref ao]) (pc := 909) C (kW_isCut hl (kX7_isCut hl h1) h4 (rcv_7 dA a Zc)) fW_isCut wf_1154 rfl ⟨(Nat.le_of_ble_eq_true rfl), (Nat.le_of_ble_eq_true rfl)⟩ rfl (Nat.le_of_ble_eq_true rfl) dW_909 ⟨(Nat.le_of_ble_eq_true rfl), (Nat.le_of_ble_eq_true rfl)⟩ hc hq (fun r g1 hr => ?_)
  refine xv_istore (pc := 912) (lv' := (6, .int r) :: lvL b a a' ao od j) C dW_912 (by decide) rfl ?_
  refine xv_aload_n (pc := 914) C dW_914 4 rfl rfl ?_
  refine xl_arg (q := 915) C hX hbl hL hj 1 6 1 (by decide) rfl rfl (by decide) dW_915 dW_916 dW_918 dW_919 dW_920 ?_
  refine xl_rf (As := [.int (xs (j + 1))]) (pc := 921) (n := 1) C (kX8_isCut hl h2) rfl fV_X8_isCut wf_1847 rfl ⟨(Nat.le_of_ble_eq_true rfl), (Nat.le_of_ble_eq_true rfl)⟩ rfl (Nat.le_of_ble_eq_true rfl) dW_921 ⟨rfl, rfl⟩ hc hq ?_
  exact tl_bool (q := 924) C hl dW_924 dW_926 dW_927 dW_930 dW_932 dW_937 dW_939 dW_942 dW_943 dW_944 dW_945 dW_947 dW_950 dW_951 dW_954 dW_955 dW_956 dW_961 (by decide) hc hq (res_of hr h4 h5 (by decide)) (K lw _ Zc' Zr' g1 ws gD (by omega) hG' hs)
set_option maxRecDepth 100000 in
theorem lc_13 (C : lC p l s m b meth c D dA sa cw) (hl : l.stackTraces = false) (hX : va_X b L xs s s.heap) (hbl : b < s.heap.size) (hj : j + 4 ≤ L) (hL : L ≤ 2048) (hG : G lw W Zc Zr) (hs : sbT dA (a 300) lw ws) (hW : W + 13 ≤ 7000) (hc : cells + 40 ≤ 603072) (hq : slots + 6400 ≤ 7190634) (K : ∀ (lw' : LW) (W' : Nat) (Zc' Zr' : ZZ) (g' : Nat → Int64) (ws' : va_W) (gD' : Nat → UInt64), W' ≤ W + 13 → G lw' W' Zc' Zr' → sbT dA (a 300) lw' ws' → xL p l e s m b below meth c D Q (wLw dA a a' ao od Zc' g' Zr' ws' gD') (cells + 40) (slots + 6400) 2722 (lvL b a a' ao od j) []) : xL p l e s m b below meth c D Q (wLw dA a a' ao od Zc g Zr ws gD) cells slots 964 (lvL b a a' ao od j) [] := by
  obtain ⟨rc, Zc', rr, Zr', h1, h2, hG', h4, h5⟩ := w_userOf (x := (xs (j + 1))) hG
  refine xv_aload_n (pc := 964) C dW_964 4 rfl rfl ?_
  refine xl_arg (q := 965) C hX hbl hL hj 1 5 0 (by decide) rfl rfl (by decide) dW_965 dW_966 dW_968 dW_969 dW_970 ?_
  refine xv_aload_n (pc := 971) C dW_971 2 rfl rfl ?_
  refine xl_wr (As := [.ref (a 0), .int (xs (j + 1)), .ref ao]) (pc := 972) C (kW_userOf hl (kX7_userOf hl h1) h4 (rcv_7 dA a Zc)) fW_userOf wf_1162 rfl ⟨(Nat.le_of_ble_eq_true rfl), (Nat.le_of_ble_eq_true rfl)⟩ rfl (Nat.le_of_ble_eq_true rfl) dW_972 ⟨(Nat.le_of_ble_eq_true rfl), (Nat.le_of_ble_eq_true rfl)⟩ hc hq (fun r g1 hr => ?_)
  refine xv_istore (pc := 975) (lv' := (6, .int r) :: lvL b a a' ao od j) C dW_975 (by decide) rfl ?_
  refine xv_aload_n (pc := 977) C dW_977 4 rfl rfl ?_
  refine xl_arg (q := 978) C hX hbl hL hj 1 6 1 (by decide) rfl rfl (by decide) dW_978 dW_979 dW_981 dW_982 dW_983 ?_
  refine xl_rf (As := [.int (xs (j + 1))]) (pc := 984) (n := 1) C (kX8_userOf hl h2) rfl fV_X8_userOf wf_1851 rfl ⟨(Nat.le_of_ble_eq_true rfl), (Nat.le_of_ble_eq_true rfl)⟩ rfl (Nat.le_of_ble_eq_true rfl) dW_984 ⟨rfl, rfl⟩ hc hq ?_
  exact tl_int (q := 987) C hl dW_987 dW_989 dW_990 dW_993 dW_995 dW_1000 dW_1002 dW_1005 dW_1006 dW_1007 dW_1008 dW_1010 dW_1011 dW_1012 dW_1017 (by decide) hc hq (res_of hr h4 h5 (by decide)) (K lw _ Zc' Zr' g1 ws gD (by omega) hG' hs)
set_option maxRecDepth 100000 in
theorem lc_14 (C : lC p l s m b meth c D dA sa cw) (hl : l.stackTraces = false) (hX : va_X b L xs s s.heap) (hbl : b < s.heap.size) (hj : j + 4 ≤ L) (hL : L ≤ 2048) (hG : G lw W Zc Zr) (hs : sbT dA (a 300) lw ws) (hW : W + 13 ≤ 7000) (hc : cells + 40 ≤ 603072) (hq : slots + 6400 ≤ 7190634) (K : ∀ (lw' : LW) (W' : Nat) (Zc' Zr' : ZZ) (g' : Nat → Int64) (ws' : va_W) (gD' : Nat → UInt64), W' ≤ W + 13 → G lw' W' Zc' Zr' → sbT dA (a 300) lw' ws' → xL p l e s m b below meth c D Q (wLw dA a a' ao od Zc' g' Zr' ws' gD') (cells + 40) (slots + 6400) 2722 (lvL b a a' ao od j) []) : xL p l e s m b below meth c D Q (wLw dA a a' ao od Zc g Zr ws gD) cells slots 1020 (lvL b a a' ao od j) [] := by
  obtain ⟨rc, Zc', rr, Zr', h1, h2, hG', h4, h5⟩ := w_minutesOn (x := (xs (j + 1))) hG
  refine xv_aload_n (pc := 1020) C dW_1020 4 rfl rfl ?_
  refine xl_arg (q := 1021) C hX hbl hL hj 1 5 0 (by decide) rfl rfl (by decide) dW_1021 dW_1022 dW_1024 dW_1025 dW_1026 ?_
  refine xv_aload_n (pc := 1027) C dW_1027 2 rfl rfl ?_
  refine xl_wr (As := [.ref (a 0), .int (xs (j + 1)), .ref ao]) (pc := 1028) C (kW_minutesOn hl (kX7_minutesOn hl h1) h4 (rcv_7 dA a Zc)) fW_minutesOn wf_1186 rfl ⟨(Nat.le_of_ble_eq_true rfl), (Nat.le_of_ble_eq_true rfl)⟩ rfl (Nat.le_of_ble_eq_true rfl) dW_1028 ⟨(Nat.le_of_ble_eq_true rfl), (Nat.le_of_ble_eq_true rfl)⟩ hc hq (fun r g1 hr => ?_)
  refine xv_istore (pc := 1031) (lv' := (6, .int r) :: lvL b a a' ao od j) C dW_1031 (by decide) rfl ?_
  refine xv_aload_n (pc := 1033) C dW_1033 4 rfl rfl ?_
  refine xl_arg (q := 1034) C hX hbl hL hj 1 6 1 (by decide) rfl rfl (by decide) dW_1034 dW_1035 dW_1037 dW_1038 dW_1039 ?_
  refine xl_rf (As := [.int (xs (j + 1))]) (pc := 1040) (n := 1) C (kX8_minutesOn hl h2) rfl fV_X8_minutesOn wf_1855 rfl ⟨(Nat.le_of_ble_eq_true rfl), (Nat.le_of_ble_eq_true rfl)⟩ rfl (Nat.le_of_ble_eq_true rfl) dW_1040 ⟨rfl, rfl⟩ hc hq ?_
  exact tl_int (q := 1043) C hl dW_1043 dW_1045 dW_1046 dW_1049 dW_1051 dW_1056 dW_1058 dW_1061 dW_1062 dW_1063 dW_1064 dW_1066 dW_1067 dW_1068 dW_1073 (by decide) hc hq (res_of hr h4 h5 (by decide)) (K lw _ Zc' Zr' g1 ws gD (by omega) hG' hs)
set_option maxRecDepth 100000 in
theorem lc_15 (C : lC p l s m b meth c D dA sa cw) (hl : l.stackTraces = false) (hX : va_X b L xs s s.heap) (hbl : b < s.heap.size) (hj : j + 4 ≤ L) (hL : L ≤ 2048) (hG : G lw W Zc Zr) (hs : sbT dA (a 300) lw ws) (hW : W + 13 ≤ 7000) (hc : cells + 40 ≤ 603072) (hq : slots + 6400 ≤ 7190634) (K : ∀ (lw' : LW) (W' : Nat) (Zc' Zr' : ZZ) (g' : Nat → Int64) (ws' : va_W) (gD' : Nat → UInt64), W' ≤ W + 13 → G lw' W' Zc' Zr' → sbT dA (a 300) lw' ws' → xL p l e s m b below meth c D Q (wLw dA a a' ao od Zc' g' Zr' ws' gD') (cells + 40) (slots + 6400) 2722 (lvL b a a' ao od j) []) : xL p l e s m b below meth c D Q (wLw dA a a' ao od Zc g Zr ws gD) cells slots 1076 (lvL b a a' ao od j) [] := by
  obtain ⟨rc, Zc', rr, Zr', h1, h2, hG', h4, h5⟩ := w_routeLength (x := (xs (j + 1))) (y := (xs (j + 2))) hG
  refine xv_aload_n (pc := 1076) C dW_1076 4 rfl rfl ?_
  refine xl_arg (q := 1077) C hX hbl hL hj 1 5 0 (by decide) rfl rfl (by decide) dW_1077 dW_1078 dW_1080 dW_1081 dW_1082 ?_
  refine xl_arg (q := 1083) C hX hbl hL hj 2 5 0 (by decide) rfl rfl (by decide) dW_1083 dW_1084 dW_1086 dW_1087 dW_1088 ?_
  refine xv_aload_n (pc := 1089) C dW_1089 2 rfl rfl ?_
  refine xl_wr (As := [.ref (a 0), .int (xs (j + 1)), .int (xs (j + 2)), .ref ao]) (pc := 1090) C (kW_routeLength hl (kX7_routeLength hl h1) h4 (rcv_7 dA a Zc)) fW_routeLength wf_1193 rfl ⟨(Nat.le_of_ble_eq_true rfl), (Nat.le_of_ble_eq_true rfl)⟩ rfl (Nat.le_of_ble_eq_true rfl) dW_1090 ⟨(Nat.le_of_ble_eq_true rfl), (Nat.le_of_ble_eq_true rfl)⟩ hc hq (fun r g1 hr => ?_)
  refine xv_istore (pc := 1093) (lv' := (6, .int r) :: lvL b a a' ao od j) C dW_1093 (by decide) rfl ?_
  refine xv_aload_n (pc := 1095) C dW_1095 4 rfl rfl ?_
  refine xl_arg (q := 1096) C hX hbl hL hj 1 6 1 (by decide) rfl rfl (by decide) dW_1096 dW_1097 dW_1099 dW_1100 dW_1101 ?_
  refine xl_arg (q := 1102) C hX hbl hL hj 2 6 1 (by decide) rfl rfl (by decide) dW_1102 dW_1103 dW_1105 dW_1106 dW_1107 ?_
  refine xl_rf (As := [.int (xs (j + 1)), .int (xs (j + 2))]) (pc := 1108) (n := 2) C (kX8_routeLength hl h2) rfl fV_X8_routeLength wf_1859 rfl ⟨(Nat.le_of_ble_eq_true rfl), (Nat.le_of_ble_eq_true rfl)⟩ rfl (Nat.le_of_ble_eq_true rfl) dW_1108 ⟨rfl, rfl⟩ hc hq ?_
  exact tl_int (q := 1111) C hl dW_1111 dW_1113 dW_1114 dW_1117 dW_1119 dW_1124 dW_1126 dW_1129 dW_1130 dW_1131 dW_1132 dW_1134 dW_1135 dW_1136 dW_1141 (by decide) hc hq (res_of hr h4 h5 (by decide)) (K lw _ Zc' Zr' g1 ws gD (by omega) hG' hs)
set_option maxRecDepth 100000 in
theorem lc_16 (C : lC p l s m b meth c D dA sa cw) (hl : l.stackTraces = false) (hX : va_X b L xs s s.heap) (hbl : b < s.heap.size) (hj : j + 4 ≤ L) (hL : L ≤ 2048) (hG : G lw W Zc Zr) (hs : sbT dA (a 300) lw ws) (hW : W + 13 ≤ 7000) (hc : cells + 40 ≤ 603072) (hq : slots + 6400 ≤ 7190634) (K : ∀ (lw' : LW) (W' : Nat) (Zc' Zr' : ZZ) (g' : Nat → Int64) (ws' : va_W) (gD' : Nat → UInt64), W' ≤ W + 13 → G lw' W' Zc' Zr' → sbT dA (a 300) lw' ws' → xL p l e s m b below meth c D Q (wLw dA a a' ao od Zc' g' Zr' ws' gD') (cells + 40) (slots + 6400) 2722 (lvL b a a' ao od j) []) : xL p l e s m b below meth c D Q (wLw dA a a' ao od Zc g Zr ws gD) cells slots 1144 (lvL b a a' ao od j) [] := by
  obtain ⟨rc, Zc', rr, Zr', h1, h2, hG', h4, h5⟩ := w_routeLengthByRelaxation (x := (xs (j + 1))) (y := (xs (j + 2))) hG
  refine xv_aload_n (pc := 1144) C dW_1144 4 rfl rfl ?_
  refine xl_arg (q := 1145) C hX hbl hL hj 1 5 0 (by decide) rfl rfl (by decide) dW_1145 dW_1146 dW_1148 dW_1149 dW_1150 ?_
  refine xl_arg (q := 1151) C hX hbl hL hj 2 5 0 (by decide) rfl rfl (by decide) dW_1151 dW_1152 dW_1154 dW_1155 dW_1156 ?_
  refine xv_aload_n (pc := 1157) C dW_1157 2 rfl rfl ?_
  refine xl_wr (As := [.ref (a 0), .int (xs (j + 1)), .int (xs (j + 2)), .ref ao]) (pc := 1158) C (kW_routeLengthByRelaxation hl (kX7_routeLengthByRelaxation hl h1) h4 (rcv_7 dA a Zc)) fW_routeLengthByRelaxation wf_1210 rfl ⟨(Nat.le_of_ble_eq_true rfl), (Nat.le_of_ble_eq_true rfl)⟩ rfl (Nat.le_of_ble_eq_true rfl) dW_1158 ⟨(Nat.le_of_ble_eq_true rfl), (Nat.le_of_ble_eq_true rfl)⟩ hc hq (fun r g1 hr => ?_)
  refine xv_istore (pc := 1161) (lv' := (6, .int r) :: lvL b a a' ao od j) C dW_1161 (by decide) rfl ?_
  refine xv_aload_n (pc := 1163) C dW_1163 4 rfl rfl ?_
  refine xl_arg (q := 1164) C hX hbl hL hj 1 6 1 (by decide) rfl rfl (by decide) dW_1164 dW_1165 dW_1167 dW_1168 dW_1169 ?_
  refine xl_arg (q := 1170) C hX hbl hL hj 2 6 1 (by decide) rfl rfl (by decide) dW_1170 dW_1171 dW_1173 dW_1174 dW_1175 ?_
  refine xl_rf (As := [.int (xs (j + 1)), .int (xs (j + 2))]) (pc := 1176) (n := 2) C (kX8_routeLengthByRelaxation hl h2) rfl fV_X8_routeLengthByRelaxation wf_1867 rfl ⟨(Nat.le_of_ble_eq_true rfl), (Nat.le_of_ble_eq_true rfl)⟩ rfl (Nat.le_of_ble_eq_true rfl) dW_1176 ⟨rfl, rfl⟩ hc hq ?_
  exact tl_int (q := 1179) C hl dW_1179 dW_1181 dW_1182 dW_1185 dW_1187 dW_1192 dW_1194 dW_1197 dW_1198 dW_1199 dW_1200 dW_1202 dW_1203 dW_1204 dW_1209 (by decide) hc hq (res_of hr h4 h5 (by decide)) (K lw _ Zc' Zr' g1 ws gD (by omega) hG' hs)
set_option maxRecDepth 100000 in
theorem lc_17 (C : lC p l s m b meth c D dA sa cw) (hl : l.stackTraces = false) (hX : va_X b L xs s s.heap) (hbl : b < s.heap.size) (hj : j + 4 ≤ L) (hL : L ≤ 2048) (hG : G lw W Zc Zr) (hs : sbT dA (a 300) lw ws) (hW : W + 13 ≤ 7000) (hc : cells + 40 ≤ 603072) (hq : slots + 6400 ≤ 7190634) (K : ∀ (lw' : LW) (W' : Nat) (Zc' Zr' : ZZ) (g' : Nat → Int64) (ws' : va_W) (gD' : Nat → UInt64), W' ≤ W + 13 → G lw' W' Zc' Zr' → sbT dA (a 300) lw' ws' → xL p l e s m b below meth c D Q (wLw dA a a' ao od Zc' g' Zr' ws' gD') (cells + 40) (slots + 6400) 2722 (lvL b a a' ao od j) []) : xL p l e s m b below meth c D Q (wLw dA a a' ao od Zc g Zr ws gD) cells slots 1212 (lvL b a a' ao od j) [] := by
  obtain ⟨rc, Zc', rr, Zr', h1, h2, hG', h4, h5⟩ := w_disjointRoutes (x := (xs (j + 1))) (y := (xs (j + 2))) hG
  refine xv_aload_n (pc := 1212) C dW_1212 4 rfl rfl ?_
  refine xl_arg (q := 1213) C hX hbl hL hj 1 5 0 (by decide) rfl rfl (by decide) dW_1213 dW_1214 dW_1216 dW_1217 dW_1218 ?_
  refine xl_arg (q := 1219) C hX hbl hL hj 2 5 0 (by decide) rfl rfl (by decide) dW_1219 dW_1220 dW_1222 dW_1223 dW_1224 ?_
  refine xv_aload_n (pc := 1225) C dW_1225 2 rfl rfl ?_
  refine xl_wr (As := [.ref (a 0), .int (xs (j + 1)), .int (xs (j + 2)), .ref ao]) (pc := 1226) C (kW_disjointRoutes hl (kX7_disjointRoutes hl h1) h4 (rcv_7 dA a Zc)) fW_disjointRoutes wf_1218 rfl ⟨(Nat.le_of_ble_eq_true rfl), (Nat.le_of_ble_eq_true rfl)⟩ rfl (Nat.le_of_ble_eq_true rfl) dW_1226 ⟨(Nat.le_of_ble_eq_true rfl), (Nat.le_of_ble_eq_true rfl)⟩ hc hq (fun r g1 hr => ?_)
  refine xv_istore (pc := 1229) (lv' := (6, .int r) :: lvL b a a' ao od j) C dW_1229 (by decide) rfl ?_
  refine xv_aload_n (pc := 1231) C dW_1231 4 rfl rfl ?_
  refine xl_arg (q := 1232) C hX hbl hL hj 1 6 1 (by decide) rfl rfl (by decide) dW_1232 dW_1233 dW_1235 dW_1236 dW_1237 ?_
  refine xl_arg (q := 1238) C hX hbl hL hj 2 6 1 (by decide) rfl rfl (by decide) dW_1238 dW_1239 dW_1241 dW_1242 dW_1243 ?_
  refine xl_rf (As := [.int (xs (j + 1)), .int (xs (j + 2))]) (pc := 1244) (n := 2) C (kX8_disjointRoutes hl h2) rfl fV_X8_disjointRoutes wf_1871 rfl ⟨(Nat.le_of_ble_eq_true rfl), (Nat.le_of_ble_eq_true rfl)⟩ rfl (Nat.le_of_ble_eq_true rfl) dW_1244 ⟨rfl, rfl⟩ hc hq ?_
  exact tl_int (q := 1247) C hl dW_1247 dW_1249 dW_1250 dW_1253 dW_1255 dW_1260 dW_1262 dW_1265 dW_1266 dW_1267 dW_1268 dW_1270 dW_1271 dW_1272 dW_1277 (by decide) hc hq (res_of hr h4 h5 (by decide)) (K lw _ Zc' Zr' g1 ws gD (by omega) hG' hs)
set_option maxRecDepth 100000 in
theorem lc_18 (C : lC p l s m b meth c D dA sa cw) (hl : l.stackTraces = false) (hX : va_X b L xs s s.heap) (hbl : b < s.heap.size) (hj : j + 4 ≤ L) (hL : L ≤ 2048) (hG : G lw W Zc Zr) (hs : sbT dA (a 300) lw ws) (hW : W + 13 ≤ 7000) (hc : cells + 40 ≤ 603072) (hq : slots + 6400 ≤ 7190634) (K : ∀ (lw' : LW) (W' : Nat) (Zc' Zr' : ZZ) (g' : Nat → Int64) (ws' : va_W) (gD' : Nat → UInt64), W' ≤ W + 13 → G lw' W' Zc' Zr' → sbT dA (a 300) lw' ws' → xL p l e s m b below meth c D Q (wLw dA a a' ao od Zc' g' Zr' ws' gD') (cells + 40) (slots + 6400) 2722 (lvL b a a' ao od j) []) : xL p l e s m b below meth c D Q (wLw dA a a' ao od Zc g Zr ws gD) cells slots 1280 (lvL b a a' ao od j) [] := by
  obtain ⟨rc, Zc', rr, Zr', h1, h2, hG', h4, h5⟩ := w_minimalCut (x := (xs (j + 1))) (y := (xs (j + 2))) hG
  refine xv_aload_n (pc := 1280) C dW_1280 4 rfl rfl ?_
  refine xl_arg (q := 1281) C hX hbl hL hj 1 5 0 (by decide) rfl rfl (by decide) dW_1281 dW_1282 dW_1284 dW_1285 dW_1286 ?_
  refine xl_arg (q := 1287) C hX hbl hL hj 2 5 0 (by decide) rfl rfl (by decide) dW_1287 dW_1288 dW_1290 dW_1291 dW_1292 ?_
  refine xv_aload_n (pc := 1293) C dW_1293 2 rfl rfl ?_
  refine xl_wr (As := [.ref (a 0), .int (xs (j + 1)), .int (xs (j + 2)), .ref ao]) (pc := 1294) C (kW_minimalCut hl (kX7_minimalCut hl h1) h4 (rcv_7 dA a Zc)) fW_minimalCut wf_1230 rfl ⟨(Nat.le_of_ble_eq_true rfl), (Nat.le_of_ble_eq_true rfl)⟩ rfl (Nat.le_of_ble_eq_true rfl) dW_1294 ⟨(Nat.le_of_ble_eq_true rfl), (Nat.le_of_ble_eq_true rfl)⟩ hc hq (fun r g1 hr => ?_)
  refine xv_istore (pc := 1297) (lv' := (6, .int r) :: lvL b a a' ao od j) C dW_1297 (by decide) rfl ?_
  refine xv_aload_n (pc := 1299) C dW_1299 4 rfl rfl ?_
  refine xl_arg (q := 1300) C hX hbl hL hj 1 6 1 (by decide) rfl rfl (by decide) dW_1300 dW_1301 dW_1303 dW_1304 dW_1305 ?_
  refine xl_arg (q := 1306) C hX hbl hL hj 2 6 1 (by decide) rfl rfl (by decide) dW_1306 dW_1307 dW_1309 dW_1310 dW_1311 ?_
  refine xl_rf (As := [.int (xs (j + 1)), .int (xs (j + 2))]) (pc := 1312) (n := 2) C (kX8_minimalCut hl h2) rfl fV_X8_minimalCut wf_1883 rfl ⟨(Nat.le_of_ble_eq_true rfl), (Nat.le_of_ble_eq_true rfl)⟩ rfl (Nat.le_of_ble_eq_true rfl) dW_1312 ⟨rfl, rfl⟩ hc hq ?_
  exact tl_int (q := 1315) C hl dW_1315 dW_1317 dW_1318 dW_1321 dW_1323 dW_1328 dW_1330 dW_1333 dW_1334 dW_1335 dW_1336 dW_1338 dW_1339 dW_1340 dW_1345 (by decide) hc hq (res_of hr h4 h5 (by decide)) (K lw _ Zc' Zr' g1 ws gD (by omega) hG' hs)
set_option maxRecDepth 100000 in
theorem lc_19 (C : lC p l s m b meth c D dA sa cw) (hl : l.stackTraces = false) (hX : va_X b L xs s s.heap) (hbl : b < s.heap.size) (hj : j + 4 ≤ L) (hL : L ≤ 2048) (hG : G lw W Zc Zr) (hs : sbT dA (a 300) lw ws) (hW : W + 13 ≤ 7000) (hc : cells + 40 ≤ 603072) (hq : slots + 6400 ≤ 7190634) (K : ∀ (lw' : LW) (W' : Nat) (Zc' Zr' : ZZ) (g' : Nat → Int64) (ws' : va_W) (gD' : Nat → UInt64), W' ≤ W + 13 → G lw' W' Zc' Zr' → sbT dA (a 300) lw' ws' → xL p l e s m b below meth c D Q (wLw dA a a' ao od Zc' g' Zr' ws' gD') (cells + 40) (slots + 6400) 2722 (lvL b a a' ao od j) []) : xL p l e s m b below meth c D Q (wLw dA a a' ao od Zc g Zr ws gD) cells slots 1348 (lvL b a a' ao od j) [] := by
  obtain ⟨r, Zc', Zr', h1, h2, hG'⟩ := o_subscribers hG
  refine xv_aload_n (pc := 1348) C dW_1348 4 rfl rfl ?_
  refine xl_cl (As := []) (pc := 1349) (n := 0) C (kX7_subscribers hl h1) rfl fV_X7_subscribers wf_352 rfl ⟨(Nat.le_of_ble_eq_true rfl), (Nat.le_of_ble_eq_true rfl)⟩ rfl (Nat.le_of_ble_eq_true rfl) dW_1349 ⟨(Nat.le_of_ble_eq_true rfl), (Nat.le_of_ble_eq_true rfl)⟩ hc hq ?_
  refine xv_aload_n (pc := 1352) C dW_1352 3 rfl rfl ?_
  refine xl_rf (As := []) (pc := 1353) (n := 0) C (kX8_subscribers hl h2) rfl fV_X8_subscribers wf_1887 rfl ⟨(Nat.le_of_ble_eq_true rfl), (Nat.le_of_ble_eq_true rfl)⟩ rfl (Nat.le_of_ble_eq_true rfl) dW_1353 ⟨rfl, rfl⟩ hc hq ?_
  exact xv_icmp_eq (tgt := 2722) (pc := 1356) C dW_1356 (by decide) (fun _ => K lw W Zc' Zr' g ws gD (by omega) hG' hs) (fun c9 => absurd rfl c9)
end LCA
