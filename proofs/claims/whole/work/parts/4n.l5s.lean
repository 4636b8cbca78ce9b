/-! each operation: both sides run, the thrown number is the wrapper's answer -/
def opW (lw : LW) (W : Nat) (L : List Nat) (oc : Option ((Nat ⊕ Int32) × ZZ)) (or : Option (Int32 × ZZ)) : Prop := ∃ rc Zc' rr Zr', oc = some (rc, Zc') ∧ or = some (rr, Zr') ∧ G lw W Zc' Zr' ∧ (∀ k, rc = .inl k → k ∈ L) ∧ ((∃ e, rc = .inl e ∧ gI Zr' 0 8 = nI (cdL L e)) ∨ (rc = .inr rr ∧ gI Zr' 0 8 = nI 0))
theorem op_wr {lw : LW} {W : Nat} {L : List Nat} {cd : Nat → Nat} {oc : Option ((Nat ⊕ Int32) × ZZ)} {or : Option (Int32 × ZZ)} (h : opI lw W cd oc or) (hx : exL L oc) (hcd : ∀ e ∈ L, cdL L e = cd e) : opW lw W L oc or := by
  obtain ⟨rc, Zc', rr, Zr', h1, h2, h3, h4⟩ := h
  refine ⟨rc, Zc', rr, Zr', h1, h2, h3, fun k hk => ?_, ?_⟩
  · subst hk; exact hx k Zc' h1
  · rcases h4 with ⟨e, e1, -, -, e2⟩ | h4
    · refine Or.inl ⟨e, e1, ?_⟩
      subst e1
      rw [hcd e (hx e Zc' h1)]
      exact e2
    · exact Or.inr h4
theorem w_addSwitch {lw : LW} {W : Nat} {Zc Zr : ZZ}  (hG : G lw W Zc Zr) (hW : W ≤ 7000) : opW lw (W + 1) [3] (sX7_addSwitch Zc) (sX8_addSwitch Zr) := op_wr (o_addSwitch hG hW) (exc_addSwitch) (by decide)
theorem w_addTrunk {lw : LW} {W : Nat} {Zc Zr : ZZ} {a : Int32} {b : Int32} {l : Int32} (hG : G lw W Zc Zr) (hW : W ≤ 7000) : opW lw (W + 1) [1, 2, 3] (sX7_addTrunk a b l Zc) (sX8_addTrunk a b l Zr) := op_wr (o_addTrunk hG hW) (exc_addTrunk) (by decide)
theorem w_addSubscriber {lw : LW} {W : Nat} {Zc Zr : ZZ} {a : Int32} {b : Int32} (hG : G lw W Zc Zr) (hW : W ≤ 7000) : opW lw (W + 1) [1, 2, 3] (sX7_addSubscriber a b Zc) (sX8_addSubscriber a b Zr) := op_wr (o_addSubscriber hG hW) (exc_addSubscriber) (by decide)
theorem w_call {lw : LW} {W : Nat} {Zc Zr : ZZ} {a : Int32} {b : Int32} (hG : G lw W Zc Zr) (hW : W ≤ 7000) : opW lw (W + 1) [1, 2, 3, 4] (sX7_call a b Zc) (sX8_call a b Zr) := op_wr (o_call hG hW) (exc_call) (by decide)
theorem w_hangUp {lw : LW} {W : Nat} {Zc Zr : ZZ} {a : Int32} (hG : G lw W Zc Zr) (hW : W ≤ 7000) : opW lw (W + 1) [1, 3] (sX7_hangUp a Zc) (sX8_hangUp a Zr) := op_wr (o_hangUp hG hW) (exc_hangUp) (by decide)
theorem w_mend {lw : LW} {W : Nat} {Zc Zr : ZZ} {a : Int32} (hG : G lw W Zc Zr) (hW : W ≤ 7000) : opW lw (W + 1) [1, 3] (sX7_mend a Zc) (sX8_mend a Zr) := op_wr (o_mend hG hW) (exc_mend) (by decide)
theorem w_pass {lw : LW} {W : Nat} {Zc Zr : ZZ} {a : Int32} (hG : G lw W Zc Zr) (hW : W ≤ 7000) : opW lw (W + 1) [2] (sX7_pass a Zc) (sX8_pass a Zr) := op_wr (o_pass hG hW) (exc_pass) (by decide)
theorem w_cut {lw : LW} {W : Nat} {Zc Zr : ZZ} {a : Int32} (hG : G lw W Zc Zr) (hW : W ≤ 7000) : opW lw (W + 1) [1, 3] (sX7_cut a Zc) (sX8_cut a Zr) := op_wr (o_cut hG hW) (exc_cut) (by decide)
theorem w_trunkLength {lw : LW} {W : Nat} {Zc Zr : ZZ} {x : Int32} (hG : G lw W Zc Zr) : opW lw W [1] (sX7_trunkLength x Zc) (sX8_trunkLength x Zr) := op_wr (o_trunkLength hG) (exn_trunkLength (by decide)) (by decide)
theorem w_minutesOn {lw : LW} {W : Nat} {Zc Zr : ZZ} {x : Int32} (hG : G lw W Zc Zr) : opW lw W [1] (sX7_minutesOn x Zc) (sX8_minutesOn x Zr) := op_wr (o_minutesOn hG) (exn_minutesOn (by decide)) (by decide)
theorem w_isCut {lw : LW} {W : Nat} {Zc Zr : ZZ} {x : Int32} (hG : G lw W Zc Zr) : opW lw W [1] (sX7_isCut x Zc) (sX8_isCut x Zr) := op_wr (o_isCut hG) (exn_isCut (by decide)) (by decide)
theorem w_otherEnd {lw : LW} {W : Nat} {Zc Zr : ZZ} {x : Int32} {y : Int32} (hG : G lw W Zc Zr) : opW lw W [1, 2] (sX7_otherEnd x y Zc) (sX8_otherEnd x y Zr) := op_wr (o_otherEnd hG) (exn_otherEnd (by decide) (by decide)) (by decide)
theorem w_userOf {lw : LW} {W : Nat} {Zc Zr : ZZ} {x : Int32} (hG : G lw W Zc Zr) : opW lw W [1, 5] (sX7_userOf x Zc) (sX8_userOf x Zr) := op_wr (o_userOf hG) (exn_userOf (by decide) (by decide)) (by decide)
theorem w_home {lw : LW} {W : Nat} {Zc Zr : ZZ} {x : Int32} (hG : G lw W Zc Zr) : opW lw W [1] (sX7_home x Zc) (sX8_home x Zr) := op_wr (o_home hG) (exn_home (by decide)) (by decide)
theorem w_tariff {lw : LW} {W : Nat} {Zc Zr : ZZ} {x : Int32} (hG : G lw W Zc Zr) : opW lw W [1] (sX7_tariff x Zc) (sX8_tariff x Zr) := op_wr (o_tariff hG) (exn_tariff (by decide)) (by decide)
theorem w_bill {lw : LW} {W : Nat} {Zc Zr : ZZ} {x : Int32} (hG : G lw W Zc Zr) : opW lw W [1] (sX7_bill x Zc) (sX8_bill x Zr) := op_wr (o_bill hG) (exn_bill (by decide)) (by decide)
theorem w_isTalking {lw : LW} {W : Nat} {Zc Zr : ZZ} {x : Int32} (hG : G lw W Zc Zr) : opW lw W [1] (sX7_isTalking x Zc) (sX8_isTalking x Zr) := op_wr (o_isTalking hG) (exn_isTalking (by decide)) (by decide)
theorem w_partner {lw : LW} {W : Nat} {Zc Zr : ZZ} {x : Int32} (hG : G lw W Zc Zr) : opW lw W [1, 5] (sX7_partner x Zc) (sX8_partner x Zr) := op_wr (o_partner hG) (exn_partner (by decide) (by decide)) (by decide)
theorem w_minutes {lw : LW} {W : Nat} {Zc Zr : ZZ} {x : Int32} (hG : G lw W Zc Zr) : opW lw W [1, 5] (sX7_minutes x Zc) (sX8_minutes x Zr) := op_wr (o_minutes hG) (exn_minutes (by decide) (by decide)) (by decide)
theorem w_routeSize {lw : LW} {W : Nat} {Zc Zr : ZZ} {x : Int32} (hG : G lw W Zc Zr) : opW lw W [1, 5] (sX7_routeSize x Zc) (sX8_routeSize x Zr) := op_wr (o_routeSize hG) (exn_routeSize (by decide) (by decide)) (by decide)
theorem w_routeTrunk {lw : LW} {W : Nat} {Zc Zr : ZZ} {x : Int32} {y : Int32} (hG : G lw W Zc Zr) : opW lw W [1, 5] (sX7_routeTrunk x y Zc) (sX8_routeTrunk x y Zr) := op_wr (o_routeTrunk hG) (exn_routeTrunk (by decide) (by decide)) (by decide)
theorem w_chargeNow {lw : LW} {W : Nat} {Zc Zr : ZZ} {x : Int32} (hG : G lw W Zc Zr) (hW : W ≤ 7000) : opW lw W [1, 5] (sX7_chargeNow x Zc) (sX8_chargeNow x Zr) := op_wr (o_chargeNow hG hW) (exn_chargeNow (by decide) (by decide)) (by decide)
theorem w_routeLength {lw : LW} {W : Nat} {Zc Zr : ZZ} {x : Int32} {y : Int32} (hG : G lw W Zc Zr) : opW lw W [1, 5] (sX7_routeLength x y Zc) (sX8_routeLength x y Zr) := op_wr (o_routeLength hG) (exn_routeLength (by decide) (by decide)) (by decide)
theorem w_routeLengthByRelaxation {lw : LW} {W : Nat} {Zc Zr : ZZ} {x : Int32} {y : Int32} (hG : G lw W Zc Zr) : opW lw W [1, 5] (sX7_routeLengthByRelaxation x y Zc) (sX8_routeLengthByRelaxation x y Zr) := op_wr (o_routeLengthByRelaxation hG) (exn_routeLengthByRelaxation (by decide) (by decide)) (by decide)
theorem w_disjointRoutes {lw : LW} {W : Nat} {Zc Zr : ZZ} {x : Int32} {y : Int32} (hG : G lw W Zc Zr) : opW lw W [1, 2] (sX7_disjointRoutes x y Zc) (sX8_disjointRoutes x y Zr) := op_wr (o_disjointRoutes hG) (exn_disjointRoutes (by decide) (by decide)) (by decide)
theorem w_minimalCut {lw : LW} {W : Nat} {Zc Zr : ZZ} {x : Int32} {y : Int32} (hG : G lw W Zc Zr) : opW lw W [1, 2] (sX7_minimalCut x y Zc) (sX8_minimalCut x y Zr) := op_wr (o_minimalCut hG) (exn_minimalCut (by decide) (by decide)) (by decide)
theorem w_blockedCaller {lw : LW} {W : Nat} {Zc Zr : ZZ} {x : Int32} (hG : G lw W Zc Zr) : opW lw W [5] (sX7_blockedCaller x Zc) (sX8_blockedCaller x Zr) := op_wr (o_blockedCaller hG) (exn_blockedCaller (by decide)) (by decide)
theorem w_blockedCallee {lw : LW} {W : Nat} {Zc Zr : ZZ} {x : Int32} (hG : G lw W Zc Zr) : opW lw W [5] (sX7_blockedCallee x Zc) (sX8_blockedCallee x Zr) := op_wr (o_blockedCallee hG) (exn_blockedCallee (by decide)) (by decide)
theorem w_blockedReason {lw : LW} {W : Nat} {Zc Zr : ZZ} {x : Int32} (hG : G lw W Zc Zr) : opW lw W [5] (sX7_blockedReason x Zc) (sX8_blockedReason x Zr) := op_wr (o_blockedReason hG) (exn_blockedReason (by decide)) (by decide)
theorem w_subscriberByBill {lw : LW} {W : Nat} {Zc Zr : ZZ} {x : Int32} (hG : G lw W Zc Zr) (hW : W ≤ 7000) : opW lw W [5] (sX7_subscriberByBill x Zc) (sX8_subscriberByBill x Zr) := op_wr (o_subscriberByBill hG hW) (exn_subscriberByBill (by decide)) (by decide)
theorem w_errorPosition {lw : LW} {W : Nat} {Zc Zr : ZZ}  (hG : G lw W Zc Zr) : opW lw W [5] (sX7_errorPosition Zc) (sX8_errorPosition Zr) := op_wr (o_errorPosition hG) (exn_errorPosition (by decide)) (by decide)
theorem w_failedCommand {lw : LW} {W : Nat} {Zc Zr : ZZ}  (hG : G lw W Zc Zr) : opW lw W [5] (sX7_failedCommand Zc) (sX8_failedCommand Zr) := op_wr (o_failedCommand hG) (exn_failedCommand (by decide)) (by decide)
theorem w_type {lw : LW} {W : Nat} {Zc Zr : ZZ} {x : Int32} (hG : G lw W Zc Zr) (hx : nch x = true) : opW lw W [3] (sX7_type x Zc) (sX8_type x Zr) := op_wr (o_type hG hx) (exn_type (by decide)) (by decide)
theorem w_undo {lw : LW} {W : Nat} {Zc Zr : ZZ}  (hG : G lw W Zc Zr) : opW lw W [3] (sX7_undo Zc) (sX8_undo Zr) := op_wr (o_undo hG) (exn_undo (by decide)) (by decide)
theorem w_restore {lw : LW} {W : Nat} {Zc Zr : ZZ}  (hG : G lw W Zc Zr) : opW lw W [3] (sX7_restore Zc) (sX8_restore Zr) := op_wr (o_restore hG) (exn_restore (by decide)) (by decide)
theorem w_run {lw : LW} {W : Nat} {Zc Zr : ZZ}  (hG : G lw W Zc Zr) (hW : W + 13 ≤ 7000) : opW lw (W + 13) [2, 4] (sX7_run Zc) (sX8_run Zr) := op_wr (o_run hG hW) (exc_run) (by decide)
