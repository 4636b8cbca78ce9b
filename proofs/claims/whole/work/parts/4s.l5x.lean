/-! the beginning: nothing built, nothing worked *)-/
def Z0c : ZZ := (fun k j => if k = 0 ∧ (j = 9 ∨ j = 10) then -1 else 0, fun _ => 0)
def Z0r : ZZ := (fun k j => if k = 0 ∧ (j = 10 ∨ j = 11) then -1 else 0, fun _ => 0)
def N0 : NN := fun _ => 0
theorem iN_0 : iN N0 0 := by
  refine ⟨⟨by decide, by decide, by decide, by decide, by decide⟩, fun i hi => absurd hi (Nat.not_lt_zero i), fun _ _ _ _ _ => rfl, fun i hi => absurd hi (Nat.not_lt_zero i), fun _ _ _ _ _ => rfl, fun i hi => absurd hi (Nat.not_lt_zero i), fun i _ hi => absurd hi (Nat.not_lt_zero i), rfl, by decide⟩
theorem rB_0 {Z : ZZ} {b : Nat} (hb : shC b = 13) (h : ∀ k j, 0 < k → gI Z k j = 0) (hl : ∀ k, gL Z k = 0) (h0 : 0 < b) : rB N0 Z b := by
  refine ⟨hb, ⟨h _ _ (by omega), h _ _ (by omega), h _ _ (by omega), h _ _ (by omega), h _ _ (by omega), hl _⟩, ?_, fun i _ => ⟨h _ _ (by omega), h _ _ (by omega), h _ _ (by omega), h _ _ (by omega)⟩, fun i _ => ⟨h _ _ (by omega), h _ _ (by omega), h _ _ (by omega)⟩, fun i hi => absurd hi (Nat.not_lt_zero i)⟩
  rw [h _ _ (by omega), show (fun i => decide (nT N0 i 3 = 1)) = fun _ => false from rfl]
  decide
