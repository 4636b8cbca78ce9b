def updI (f : Nat → Int) (i : Nat) (x : Int) : Nat → Int := fun j => if j = i then x else f j
theorem net_upd {N : NN} {i v : Nat} {f : Nat → Int} {s : Int} (hi : i < N 1) : net N (updI f i (f i + s)) v = net N f v + ctr N (fun _ => s) i v := by
  have e : ∀ j, j < N 1 → ctr N (updI f i (f i + s)) j v = ctr N f j v + (if j = i then ctr N (fun _ => s) i v else 0) := by
    intro j hj
    unfold ctr updI
    by_cases c : j = i
    · subst c
      simp only [if_true]
      by_cases c0 : nT N j 0 = v
      · simp [c0]
      · by_cases c1 : nT N j 1 = v
        · simp [c0, c1]; omega
        · simp [c0, c1]
    · simp [c]
  unfold net
  rw [sumI_congr e, sumI_add, sumI_one hi fun j _ h => if_neg h, if_pos rfl]
/-- one more from u to v over i -/
theorem net_push {N : NN} {W i u v x : Nat} {f : Nat → Int} (hI : iN N W) (hi : i < N 1) (he : ends N i u v) : net N (updI f i (f i + (if nT N i 0 = u then 1 else -1))) x = net N f x + (if x = u then 1 else 0) - (if x = v then 1 else 0) := by
  obtain ⟨q0, q1, q2, -⟩ := hI.2.1 i hi
  rw [net_upd hi]
  unfold ctr
  rcases he with ⟨rfl, rfl⟩ | ⟨rfl, rfl⟩
  · by_cases c0 : x = nT N i 0
    · subst c0; simp [q2]
    · have c0' : ¬ nT N i 0 = x := fun h => c0 h.symm
      by_cases c1 : x = nT N i 1
      · subst c1; simp [c0, c0']; omega
      · have c1' : ¬ nT N i 1 = x := fun h => c1 h.symm
        simp [c0, c0', c1, c1']
  · have q2' : ¬ nT N i 1 = nT N i 0 := fun h => q2 h.symm
    by_cases c0 : x = nT N i 0
    · subst c0; simp [q2]; omega
    · have c0' : ¬ nT N i 0 = x := fun h => c0 h.symm
      by_cases c1 : x = nT N i 1
      · subst c1; simp [c0, c0', q2]
      · have c1' : ¬ nT N i 1 = x := fun h => c1 h.symm
        simp [c0, c0', c1, c1']
