/-! the beginning: nothing built, nothing worked *)-/
def Z0c : ZZ := (fun k j => if k = 0 ∧ (j = 9 ∨ j = 10) then -1 else 0, fun _ => 0)
def Z0r : ZZ := (fun k j => if k = 0 ∧ (j = 10 ∨ j = 11) then -1 else 0, fun _ => 0)
def N0 : NN := fun _ => 0
theorem iN_0 : iN N0 0 := by
  refine ⟨⟨by decide, by decide, by decide, by decide, by decide⟩, fun i hi => absurd hi (Nat.not_lt_zero i), fun _ _ _ _ _ => rfl, fun i hi => absurd hi (Nat.not_lt_zero i), fun _ _ _ _ _ => rfl, fun i hi => absurd hi (Nat.not_lt_zero i), fun i _ hi => absurd hi (Nat.not_lt_zero i), rfl, by decide⟩
theorem rB_0 {Z : ZZ} {b : Nat} (hb : shC b = 13) (h : ∀ k j, 0 < k → gI Z k j = 0) (hl : ∀ k, gL Z k = 0) (h0 : 0 < b) : rB N0 Z b := by
  refine ⟨hb, ⟨h _ _ (by omega), h _ _ (by omega), h _ _ (by omega), h _ _ (by omega), h _ _ (by omega), hl _⟩, ?_, fun i _ => ⟨h _ _ (by omega), h _ _ (by omega), h _ _ (by omega), h _ _ (by omega)⟩, fun i _ => ⟨h _ _ (by omega), h _ _ (by omega), h _ _ (by omega)⟩, fun i hi => absurd hi (Nat.not_lt_zero i)⟩
  rw [h _ _ (by omega), show (fun i => decide (nT N0 i 3 = 1)) = fun _ => false from rfl]
  decide
theorem G_0 : G (0, fun _ => 0) 0 Z0c Z0r := by
  have hc : ∀ k j, 0 < k → gI Z0c k j = 0 := fun k j hk => by unfold gI Z0c; exact if_neg (fun q => by omega)
  have hr : ∀ k j, 0 < k → gI Z0r k j = 0 := fun k j hk => by unfold gI Z0r; exact if_neg (fun q => by omega)
  have c0 : ∀ j, j ≠ 9 → j ≠ 10 → gI Z0c 0 j = 0 := fun j h1 h2 => by unfold gI Z0c; exact if_neg (fun q => by omega)
  have r0 : ∀ j, j ≠ 10 → j ≠ 11 → gI Z0r 0 j = 0 := fun j h1 h2 => by unfold gI Z0r; exact if_neg (fun q => by omega)
  have no : ∀ {P : Prop} {j : Nat}, j < 0 → P := fun h => absurd h (Nat.not_lt_zero _)
  refine ⟨N0, fun _ => N0, 0, ⟨rB_0 (by decide) hc (fun _ => rfl) (by decide), fun j _ => hr _ _ (by decide), iN_0, fun i hi => no hi⟩, ⟨0, by decide, hc _ _ (by decide), r0 _ (by decide) (by decide), fun j hj => no hj⟩, ⟨by decide, hc _ _ (by decide), 0, by decide, hc _ _ (by decide), fun j hj => no hj⟩, ⟨r0 _ (by decide) (by decide), fun j hj => no hj⟩, fun j hj => no hj, ⟨0, by decide, c0 _ (by decide) (by decide), r0 _ (by decide) (by decide), fun h => absurd h (by decide)⟩, ⟨0, fun _ => 0, by decide, hc _ _ (by decide), r0 _ (by decide) (by decide), fun j hj => no hj⟩, ⟨rfl, rfl, Or.inl rfl, Or.inl rfl⟩, ⟨by show 0 ≤ 80; omega, r0 _ (by decide) (by decide), fun j hj => no hj⟩⟩
