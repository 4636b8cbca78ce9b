/-! cases of the law *)-/
section LCA
variable {p : Program} {l : Launch} {e : Env} {s : State} {m : MethodId} {below : List Frame} {meth : Method} {c : Code} {Q : State → Prop} {D : va_G} {dA : Nat → ClassId} {sa : String → Nat → Nat} {cells slots pc : Nat} {w w2 : va_W} {lv lv' : List (Nat × Value)} {st st0 : List Value} {cw : Cond} {b L : Nat} {xs : Nat → Int32} {a a' : Nat → Nat} {ao od j : Nat}
variable {Zc Zc' Zr Zr' : ZZ} {g g1 : Nat → Int64} {gD gD1 : Nat → UInt64} {ws ws' : va_W} {q : Nat} {lw : LW} {W : Nat}
set_option maxRecDepth 100000 in
theorem lc_39 (C : lC p l s m b meth c D dA sa cw) (hl : l.stackTraces = false) (hX : va_X b L xs s s.heap) (hbl : b < s.heap.size) (hj : j + 4 ≤ L) (hL : L ≤ 2048) (hG : G lw W Zc Zr) (hs : sbT dA (a 300) lw ws) (hW : W + 13 ≤ 7000) (hc : cells + 40 ≤ 603072) (hq : slots + 6400 ≤ 7190634) (K : ∀ (lw' : LW) (W' : Nat) (Zc' Zr' : ZZ) (g' : Nat → Int64) (ws' : va_W) (gD' : Nat → UInt64), W' ≤ W + 13 → G lw' W' Zc' Zr' → sbT dA (a 300) lw' ws' → xL p l e s m b below meth c D Q (wLw dA a a' ao od Zc' g' Zr' ws' gD') (cells + 40) (slots + 6400) 2722 (lvL b a a' ao od j) []) : xL p l e s m b below meth c D Q (wLw dA a a' ao od Zc g Zr ws gD) cells slots 2293 (lvL b a a' ao od j) [] := by
  obtain ⟨r, Zc', Zr', h1, h2, hG'⟩ := o_isConsistent hG (by omega)
  refine xv_aload_n (pc := 2293) C dW_2293 4 rfl rfl ?_
  refine xl_cl (As := []) (pc := 2294) (n := 0) C (kX7_isConsistent hl h1) rfl fV_X7_isConsistent wf_376 rfl ⟨(Nat.le_of_ble_eq_true rfl), (Nat.le_of_ble_eq_true rfl)⟩ rfl (Nat.le_of_ble_eq_true rfl) dW_2294 ⟨(Nat.le_of_ble_eq_true rfl), (Nat.le_of_ble_eq_true rfl)⟩ hc hq ?_
  refine xv_aload_n (pc := 2297) C dW_2297 3 rfl rfl ?_
  refine xl_rf (As := []) (pc := 2298) (n := 0) C (kX8_isConsistent hl h2) rfl fV_X8_isConsistent wf_1979 rfl ⟨(Nat.le_of_ble_eq_true rfl), (Nat.le_of_ble_eq_true rfl)⟩ rfl (Nat.le_of_ble_eq_true rfl) dW_2298 ⟨rfl, rfl⟩ hc hq ?_
  exact xv_icmp_eq (tgt := 2722) (pc := 2301) C dW_2301 (by decide) (fun _ => K lw W Zc' Zr' g ws gD (by omega) hG' hs) (fun c9 => absurd rfl c9)
set_option maxRecDepth 100000 in
theorem lc_43 (C : lC p l s m b meth c D dA sa cw) (hl : l.stackTraces = false) (hX : va_X b L xs s s.heap) (hbl : b < s.heap.size) (hj : j + 4 ≤ L) (hL : L ≤ 2048) (hG : G lw W Zc Zr) (hs : sbT dA (a 300) lw ws) (hW : W + 13 ≤ 7000) (hc : cells + 40 ≤ 603072) (hq : slots + 6400 ≤ 7190634) (K : ∀ (lw' : LW) (W' : Nat) (Zc' Zr' : ZZ) (g' : Nat → Int64) (ws' : va_W) (gD' : Nat → UInt64), W' ≤ W + 13 → G lw' W' Zc' Zr' → sbT dA (a 300) lw' ws' → xL p l e s m b below meth c D Q (wLw dA a a' ao od Zc' g' Zr' ws' gD') (cells + 40) (slots + 6400) 2722 (lvL b a a' ao od j) []) : xL p l e s m b below meth c D Q (wLw dA a a' ao od Zc g Zr ws gD) cells slots 2431 (lvL b a a' ao od j) [] := by
  obtain ⟨rc, Zc', rr, Zr', h1, h2, hG', h4, h5⟩ := w_type (x := (((xs (j + 1)).toUInt32 % 65536).toInt32)) hG (nch_c _)
  refine xv_aload_n (pc := 2431) C dW_2431 4 rfl rfl ?_
  refine xl_arg (q := 2432) C hX hbl hL hj 1 5 0 (by decide) rfl rfl (by decide) dW_2432 dW_2433 dW_2435 dW_2436 dW_2437 ?_
  refine xv_i2c (pc := 2438) C dW_2438 ?_
  refine xv_aload_n (pc := 2439) C dW_2439 2 rfl rfl ?_
  refine xl_wr (As := [.ref (a 0), .int (((xs (j + 1)).toUInt32 % 65536).toInt32), .ref ao]) (pc := 2440) C (kW_type hl (kX7_type hl h1) h4 (rcv_7 dA a Zc)) fW_type wf_1411 rfl ⟨(Nat.le_of_ble_eq_true rfl), (Nat.le_of_ble_eq_true rfl)⟩ rfl (Nat.le_of_ble_eq_true rfl) dW_2440 ⟨(Nat.le_of_ble_eq_true rfl), (Nat.le_of_ble_eq_true rfl)⟩ hc hq (fun r g1 hr => ?_)
  refine xv_istore (pc := 2443) (lv' := (6, .int r) :: lvL b a a' ao od j) C dW_2443 (by decide) rfl ?_
  refine xv_aload_n (pc := 2445) C dW_2445 4 rfl rfl ?_
  refine xl_arg (q := 2446) C hX hbl hL hj 1 6 1 (by decide) rfl rfl (by decide) dW_2446 dW_2447 dW_2449 dW_2450 dW_2451 ?_
  refine xv_i2c (pc := 2452) C dW_2452 ?_
  refine xl_rf (As := [.int (((xs (j + 1)).toUInt32 % 65536).toInt32)]) (pc := 2453) (n := 1) C (kX8_type hl h2) rfl fV_X8_type wf_2003 rfl ⟨(Nat.le_of_ble_eq_true rfl), (Nat.le_of_ble_eq_true rfl)⟩ rfl (Nat.le_of_ble_eq_true rfl) dW_2453 ⟨rfl, rfl⟩ hc hq ?_
  exact tl_int (q := 2456) C hl dW_2456 dW_2458 dW_2459 dW_2462 dW_2464 dW_2469 dW_2471 dW_2474 dW_2475 dW_2476 dW_2477 dW_2479 dW_2480 dW_2481 dW_2486 (by decide) hc hq (res_of hr h4 h5 (by decide)) (K lw _ Zc' Zr' g1 ws gD (by omega) hG' hs)
set_option maxRecDepth 100000 in
theorem lc_44 (C : lC p l s m b meth c D dA sa cw) (hl : l.stackTraces = false) (hX : va_X b L xs s s.heap) (hbl : b < s.heap.size) (hj : j + 4 ≤ L) (hL : L ≤ 2048) (hG : G lw W Zc Zr) (hs : sbT dA (a 300) lw ws) (hW : W + 13 ≤ 7000) (hc : cells + 40 ≤ 603072) (hq : slots + 6400 ≤ 7190634) (K : ∀ (lw' : LW) (W' : Nat) (Zc' Zr' : ZZ) (g' : Nat → Int64) (ws' : va_W) (gD' : Nat → UInt64), W' ≤ W + 13 → G lw' W' Zc' Zr' → sbT dA (a 300) lw' ws' → xL p l e s m b below meth c D Q (wLw dA a a' ao od Zc' g' Zr' ws' gD') (cells + 40) (slots + 6400) 2722 (lvL b a a' ao od j) []) : xL p l e s m b below meth c D Q (wLw dA a a' ao od Zc g Zr ws gD) cells slots 2489 (lvL b a a' ao od j) [] := by
  obtain ⟨rc, Zc', rr, Zr', h1, h2, hG', h4, h5⟩ := w_run  hG hW
  refine xv_aload_n (pc := 2489) C dW_2489 4 rfl rfl ?_
  refine xv_aload_n (pc := 2490) C dW_2490 2 rfl rfl ?_
  refine xl_wr (As := [.ref (a 0), .ref ao]) (pc := 2491) C (kW_run hl (kX7_run hl h1) h4 (rcv_7 dA a Zc)) fW_run wf_1423 rfl ⟨(Nat.le_of_ble_eq_true rfl), (Nat.le_of_ble_eq_true rfl)⟩ rfl (Nat.le_of_ble_eq_true rfl) dW_2491 ⟨(Nat.le_of_ble_eq_true rfl), (Nat.le_of_ble_eq_true rfl)⟩ hc hq (fun r g1 hr => ?_)
  refine xv_istore (pc := 2494) (lv' := (6, .int r) :: lvL b a a' ao od j) C dW_2494 (by decide) rfl ?_
  refine xv_aload_n (pc := 2496) C dW_2496 4 rfl rfl ?_
  refine xl_rf (As := []) (pc := 2497) (n := 0) C (kX8_run hl h2) rfl fV_X8_run wf_2007 rfl ⟨(Nat.le_of_ble_eq_true rfl), (Nat.le_of_ble_eq_true rfl)⟩ rfl (Nat.le_of_ble_eq_true rfl) dW_2497 ⟨rfl, rfl⟩ hc hq ?_
  exact tl_int (q := 2500) C hl dW_2500 dW_2502 dW_2503 dW_2506 dW_2508 dW_2513 dW_2515 dW_2518 dW_2519 dW_2520 dW_2521 dW_2523 dW_2524 dW_2525 dW_2530 (by decide) hc hq (res_of hr h4 h5 (by decide)) (K lw _ Zc' Zr' g1 ws gD (by omega) hG' hs)
set_option maxRecDepth 100000 in
theorem lc_45 (C : lC p l s m b meth c D dA sa cw) (hl : l.stackTraces = false) (hX : va_X b L xs s s.heap) (hbl : b < s.heap.size) (hj : j + 4 ≤ L) (hL : L ≤ 2048) (hG : G lw W Zc Zr) (hs : sbT dA (a 300) lw ws) (hW : W + 13 ≤ 7000) (hc : cells + 40 ≤ 603072) (hq : slots + 6400 ≤ 7190634) (K : ∀ (lw' : LW) (W' : Nat) (Zc' Zr' : ZZ) (g' : Nat → Int64) (ws' : va_W) (gD' : Nat → UInt64), W' ≤ W + 13 → G lw' W' Zc' Zr' → sbT dA (a 300) lw' ws' → xL p l e s m b below meth c D Q (wLw dA a a' ao od Zc' g' Zr' ws' gD') (cells + 40) (slots + 6400) 2722 (lvL b a a' ao od j) []) : xL p l e s m b below meth c D Q (wLw dA a a' ao od Zc g Zr ws gD) cells slots 2533 (lvL b a a' ao od j) [] := by
  obtain ⟨rc, Zc', rr, Zr', h1, h2, hG', h4, h5⟩ := w_errorPosition  hG
  refine xv_aload_n (pc := 2533) C dW_2533 4 rfl rfl ?_
  refine xv_aload_n (pc := 2534) C dW_2534 2 rfl rfl ?_
  refine xl_wr (As := [.ref (a 0), .ref ao]) (pc := 2535) C (kW_errorPosition hl (kX7_errorPosition hl h1) h4 (rcv_7 dA a Zc)) fW_errorPosition wf_1507 rfl ⟨(Nat.le_of_ble_eq_true rfl), (Nat.le_of_ble_eq_true rfl)⟩ rfl (Nat.le_of_ble_eq_true rfl) dW_2535 ⟨(Nat.le_of_ble_eq_true rfl), (Nat.le_of_ble_eq_true rfl)⟩ hc hq (fun r g1 hr => ?_)
  refine xv_istore (pc := 2538) (lv' := (6, .int r) :: lvL b a a' ao od j) C dW_2538 (by decide) rfl ?_
  refine xv_aload_n (pc := 2540) C dW_2540 4 rfl rfl ?_
  refine xl_rf (As := []) (pc := 2541) (n := 0) C (kX8_errorPosition hl h2) rfl fV_X8_errorPosition wf_2045 rfl ⟨(Nat.le_of_ble_eq_true rfl), (Nat.le_of_ble_eq_true rfl)⟩ rfl (Nat.le_of_ble_eq_true rfl) dW_2541 ⟨rfl, rfl⟩ hc hq ?_
  exact tl_int (q := 2544) C hl dW_2544 dW_2546 dW_2547 dW_2550 dW_2552 dW_2557 dW_2559 dW_2562 dW_2563 dW_2564 dW_2565 dW_2567 dW_2568 dW_2569 dW_2574 (by decide) hc hq (res_of hr h4 h5 (by decide)) (K lw _ Zc' Zr' g1 ws gD (by omega) hG' hs)
set_option maxRecDepth 100000 in
theorem lc_46 (C : lC p l s m b meth c D dA sa cw) (hl : l.stackTraces = false) (hX : va_X b L xs s s.heap) (hbl : b < s.heap.size) (hj : j + 4 ≤ L) (hL : L ≤ 2048) (hG : G lw W Zc Zr) (hs : sbT dA (a 300) lw ws) (hW : W + 13 ≤ 7000) (hc : cells + 40 ≤ 603072) (hq : slots + 6400 ≤ 7190634) (K : ∀ (lw' : LW) (W' : Nat) (Zc' Zr' : ZZ) (g' : Nat → Int64) (ws' : va_W) (gD' : Nat → UInt64), W' ≤ W + 13 → G lw' W' Zc' Zr' → sbT dA (a 300) lw' ws' → xL p l e s m b below meth c D Q (wLw dA a a' ao od Zc' g' Zr' ws' gD') (cells + 40) (slots + 6400) 2722 (lvL b a a' ao od j) []) : xL p l e s m b below meth c D Q (wLw dA a a' ao od Zc g Zr ws gD) cells slots 2577 (lvL b a a' ao od j) [] := by
  obtain ⟨rc, Zc', rr, Zr', h1, h2, hG', h4, h5⟩ := w_failedCommand  hG
  refine xv_aload_n (pc := 2577) C dW_2577 4 rfl rfl ?_
  refine xv_aload_n (pc := 2578) C dW_2578 2 rfl rfl ?_
  refine xl_wr (As := [.ref (a 0), .ref ao]) (pc := 2579) C (kW_failedCommand hl (kX7_failedCommand hl h1) h4 (rcv_7 dA a Zc)) fW_failedCommand wf_1515 rfl ⟨(Nat.le_of_ble_eq_true rfl), (Nat.le_of_ble_eq_true rfl)⟩ rfl (Nat.le_of_ble_eq_true rfl) dW_2579 ⟨(Nat.le_of_ble_eq_true rfl), (Nat.le_of_ble_eq_true rfl)⟩ hc hq (fun r g1 hr => ?_)
  refine xv_istore (pc := 2582) (lv' := (6, .int r) :: lvL b a a' ao od j) C dW_2582 (by decide) rfl ?_
  refine xv_aload_n (pc := 2584) C dW_2584 4 rfl rfl ?_
  refine xl_rf (As := []) (pc := 2585) (n := 0) C (kX8_failedCommand hl h2) rfl fV_X8_failedCommand wf_2053 rfl ⟨(Nat.le_of_ble_eq_true rfl), (Nat.le_of_ble_eq_true rfl)⟩ rfl (Nat.le_of_ble_eq_true rfl) dW_2585 ⟨rfl, rfl⟩ hc hq ?_
  exact tl_int (q := 2588) C hl dW_2588 dW_2590 dW_2591 dW_2594 dW_2596 dW_2601 dW_2603 dW_2606 dW_2607 dW_2608 dW_2609 dW_2611 dW_2612 dW_2613 dW_2618 (by decide) hc hq (res_of hr h4 h5 (by decide)) (K lw _ Zc' Zr' g1 ws gD (by omega) hG' hs)
set_option maxRecDepth 100000 in
theorem lc_47 (C : lC p l s m b meth c D dA sa cw) (hl : l.stackTraces = false) (hX : va_X b L xs s s.heap) (hbl : b < s.heap.size) (hj : j + 4 ≤ L) (hL : L ≤ 2048) (hG : G lw W Zc Zr) (hs : sbT dA (a 300) lw ws) (hW : W + 13 ≤ 7000) (hc : cells + 40 ≤ 603072) (hq : slots + 6400 ≤ 7190634) (K : ∀ (lw' : LW) (W' : Nat) (Zc' Zr' : ZZ) (g' : Nat → Int64) (ws' : va_W) (gD' : Nat → UInt64), W' ≤ W + 13 → G lw' W' Zc' Zr' → sbT dA (a 300) lw' ws' → xL p l e s m b below meth c D Q (wLw dA a a' ao od Zc' g' Zr' ws' gD') (cells + 40) (slots + 6400) 2722 (lvL b a a' ao od j) []) : xL p l e s m b below meth c D Q (wLw dA a a' ao od Zc g Zr ws gD) cells slots 2621 (lvL b a a' ao od j) [] := by
  obtain ⟨rc, Zc', rr, Zr', h1, h2, hG', h4, h5⟩ := w_undo  hG
  refine xv_aload_n (pc := 2621) C dW_2621 4 rfl rfl ?_
  refine xv_aload_n (pc := 2622) C dW_2622 2 rfl rfl ?_
  refine xl_wr (As := [.ref (a 0), .ref ao]) (pc := 2623) C (kW_undo hl (kX7_undo hl h1) h4 (rcv_7 dA a Zc)) fW_undo wf_1523 rfl ⟨(Nat.le_of_ble_eq_true rfl), (Nat.le_of_ble_eq_true rfl)⟩ rfl (Nat.le_of_ble_eq_true rfl) dW_2623 ⟨(Nat.le_of_ble_eq_true rfl), (Nat.le_of_ble_eq_true rfl)⟩ hc hq (fun r g1 hr => ?_)
  refine xv_istore (pc := 2626) (lv' := (6, .int r) :: lvL b a a' ao od j) C dW_2626 (by decide) rfl ?_
  refine xv_aload_n (pc := 2628) C dW_2628 4 rfl rfl ?_
  refine xl_rf (As := []) (pc := 2629) (n := 0) C (kX8_undo hl h2) rfl fV_X8_undo wf_2057 rfl ⟨(Nat.le_of_ble_eq_true rfl), (Nat.le_of_ble_eq_true rfl)⟩ rfl (Nat.le_of_ble_eq_true rfl) dW_2629 ⟨rfl, rfl⟩ hc hq ?_
  exact tl_int (q := 2632) C hl dW_2632 dW_2634 dW_2635 dW_2638 dW_2640 dW_2645 dW_2647 dW_2650 dW_2651 dW_2652 dW_2653 dW_2655 dW_2656 dW_2657 dW_2662 (by decide) hc hq (res_of hr h4 h5 (by decide)) (K lw _ Zc' Zr' g1 ws gD (by omega) hG' hs)
set_option maxRecDepth 100000 in
theorem lc_48 (C : lC p l s m b meth c D dA sa cw) (hl : l.stackTraces = false) (hX : va_X b L xs s s.heap) (hbl : b < s.heap.size) (hj : j + 4 ≤ L) (hL : L ≤ 2048) (hG : G lw W Zc Zr) (hs : sbT dA (a 300) lw ws) (hW : W + 13 ≤ 7000) (hc : cells + 40 ≤ 603072) (hq : slots + 6400 ≤ 7190634) (K : ∀ (lw' : LW) (W' : Nat) (Zc' Zr' : ZZ) (g' : Nat → Int64) (ws' : va_W) (gD' : Nat → UInt64), W' ≤ W + 13 → G lw' W' Zc' Zr' → sbT dA (a 300) lw' ws' → xL p l e s m b below meth c D Q (wLw dA a a' ao od Zc' g' Zr' ws' gD') (cells + 40) (slots + 6400) 2722 (lvL b a a' ao od j) []) : xL p l e s m b below meth c D Q (wLw dA a a' ao od Zc g Zr ws gD) cells slots 2665 (lvL b a a' ao od j) [] := by
  obtain ⟨r, Zc', Zr', h1, h2, hG'⟩ := o_save hG
  refine xv_aload_n (pc := 2665) C dW_2665 4 rfl rfl ?_
  refine xl_cl (As := []) (pc := 2666) (n := 0) C (kX7_save hl h1) rfl fV_X7_save wf_854 rfl ⟨(Nat.le_of_ble_eq_true rfl), (Nat.le_of_ble_eq_true rfl)⟩ rfl (Nat.le_of_ble_eq_true rfl) dW_2666 ⟨(Nat.le_of_ble_eq_true rfl), (Nat.le_of_ble_eq_true rfl)⟩ hc hq ?_
  refine xv_aload_n (pc := 2669) C dW_2669 3 rfl rfl ?_
  refine xl_rf (As := []) (pc := 2670) (n := 0) C (kX8_save hl h2) rfl fV_X8_save wf_2061 rfl ⟨(Nat.le_of_ble_eq_true rfl), (Nat.le_of_ble_eq_true rfl)⟩ rfl (Nat.le_of_ble_eq_true rfl) dW_2670 ⟨rfl, rfl⟩ hc hq ?_
  exact xv_icmp_eq (tgt := 2722) (pc := 2673) C dW_2673 (by decide) (fun _ => K lw W Zc' Zr' g ws gD (by omega) hG' hs) (fun c9 => absurd rfl c9)
set_option maxRecDepth 100000 in
theorem lc_49 (C : lC p l s m b meth c D dA sa cw) (hl : l.stackTraces = false) (hX : va_X b L xs s s.heap) (hbl : b < s.heap.size) (hj : j + 4 ≤ L) (hL : L ≤ 2048) (hG : G lw W Zc Zr) (hs : sbT dA (a 300) lw ws) (hW : W + 13 ≤ 7000) (hc : cells + 40 ≤ 603072) (hq : slots + 6400 ≤ 7190634) (K : ∀ (lw' : LW) (W' : Nat) (Zc' Zr' : ZZ) (g' : Nat → Int64) (ws' : va_W) (gD' : Nat → UInt64), W' ≤ W + 13 → G lw' W' Zc' Zr' → sbT dA (a 300) lw' ws' → xL p l e s m b below meth c D Q (wLw dA a a' ao od Zc' g' Zr' ws' gD') (cells + 40) (slots + 6400) 2722 (lvL b a a' ao od j) []) : xL p l e s m b below meth c D Q (wLw dA a a' ao od Zc g Zr ws gD) cells slots 2678 (lvL b a a' ao od j) [] := by
  obtain ⟨rc, Zc', rr, Zr', h1, h2, hG', h4, h5⟩ := w_restore  hG
  refine xv_aload_n (pc := 2678) C dW_2678 4 rfl rfl ?_
  refine xv_aload_n (pc := 2679) C dW_2679 2 rfl rfl ?_
  refine xl_wr (As := [.ref (a 0), .ref ao]) (pc := 2680) C (kW_restore hl (kX7_restore hl h1) h4 (rcv_7 dA a Zc)) fW_restore wf_1535 rfl ⟨(Nat.le_of_ble_eq_true rfl), (Nat.le_of_ble_eq_true rfl)⟩ rfl (Nat.le_of_ble_eq_true rfl) dW_2680 ⟨(Nat.le_of_ble_eq_true rfl), (Nat.le_of_ble_eq_true rfl)⟩ hc hq (fun r g1 hr => ?_)
  refine xv_istore (pc := 2683) (lv' := (6, .int r) :: lvL b a a' ao od j) C dW_2683 (by decide) rfl ?_
  refine xv_aload_n (pc := 2685) C dW_2685 4 rfl rfl ?_
  refine xl_rf (As := []) (pc := 2686) (n := 0) C (kX8_restore hl h2) rfl fV_X8_restore wf_2065 rfl ⟨(Nat.le_of_ble_eq_true rfl), (Nat.le_of_ble_eq_true rfl)⟩ rfl (Nat.le_of_ble_eq_true rfl) dW_2686 ⟨rfl, rfl⟩ hc hq ?_
  exact tl_int (q := 2689) C hl dW_2689 dW_2691 dW_2692 dW_2695 dW_2697 dW_2702 dW_2704 dW_2707 dW_2708 dW_2709 dW_2710 dW_2712 dW_2713 dW_2714 dW_2719 (by decide) hc hq (res_of hr h4 h5 (by decide)) (K lw _ Zc' Zr' g1 ws gD (by omega) hG' hs)
end LCA
