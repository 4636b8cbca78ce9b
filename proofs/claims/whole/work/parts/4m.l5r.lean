/-! which problems a change can have, and so what it can throw -/
def exP (S : List Int32) (o : Option (Int32 × ZZ)) : Prop := ∀ x Z, o = some (x, Z) → x ∈ S
theorem pb_some {S : List Int32} {x : Int32} {Z : ZZ} (h : x ∈ S) : exP S (some (x, Z)) := fun e1 Z1 h1 => by cases h1; exact h
theorem pb_gd {S : List Int32} {b : Prop} [Decidable b] {k : Option (Int32 × ZZ)} (h : exP S k) : exP S (gd b k) := fun e1 Z1 h1 => h e1 Z1 (gd_some h1).2
theorem pb_nm {S : List Int32} {α : Type} {x : α} {f : α → Option (Int32 × ZZ)} (h : ∀ x, exP S (f x)) : exP S (nm x f) := h x
theorem pb_bnd {S : List Int32} {α : Type} {o : Option α} {f : α → Option (Int32 × ZZ)} (h : ∀ x, exP S (f x)) : exP S (bnd o f) := fun e1 Z1 h1 => by
  obtain ⟨x, -, h2⟩ := bnd_some h1
  exact h x e1 Z1 h2
theorem pb_ite {S : List Int32} {c : Prop} [Decidable c] {x y : Option (Int32 × ZZ)} (h1 : exP S x) (h2 : exP S y) : exP S (if c then x else y) := by
  split
  · exact h1
  · exact h2
theorem pb_re {S : List Int32} {o : Option (Int32 × ZZ)} (h : exP S o) : exP S (bnd o (fun q => some (q.1, q.2))) := fun e1 Z1 h1 => by
  obtain ⟨⟨x, Z2⟩, h3, h2⟩ := bnd_some h1
  cases h2
  exact h _ _ h3
theorem ex_refuse {L : List Nat} {S : List Int32} {x : Int32} {Z : ZZ} (hx : x ∈ S) (hS : ∀ i ∈ ([1, 2, 3, 4] : List Nat), nI i ∈ S → i ∈ L) : exL L (sX7_refuse x Z) := by
  unfold sX7_refuse
  by_cases h1 : x = 1
  · rw [if_pos h1]; exact ex_inl (hS 1 (by decide) (by rw [← show x = nI 1 from h1]; exact hx))
  rw [if_neg h1]
  by_cases h2 : x = 2
  · rw [if_pos h2]; exact ex_inl (hS 2 (by decide) (by rw [← show x = nI 2 from h2]; exact hx))
  rw [if_neg h2]
  by_cases h3 : x = 3
  · rw [if_pos h3]; exact ex_inl (hS 3 (by decide) (by rw [← show x = nI 3 from h3]; exact hx))
  rw [if_neg h3]
  by_cases h4 : x = 4
  · rw [if_pos h4]; exact ex_inl (hS 4 (by decide) (by rw [← show x = nI 4 from h4]; exact hx))
  rw [if_neg h4]
  exact ex_inr
theorem ex_change {L : List Nat} {S : List Int32} {k a b l : Int32} {Z : ZZ} (hp : exP S (sX7_problemOf k a b l Z)) (hS : ∀ i ∈ ([1, 2, 3, 4] : List Nat), nI i ∈ S → i ∈ L) : exL L (sX7_change k a b l Z) := fun e1 Z1 h1 => by
  unfold sX7_change at h1
  obtain ⟨⟨x, Z2⟩, h3, h2⟩ := bnd_some h1
  have hx := hp _ _ h3
  have h4 : exL L (bnd (sX7_refuse x Z2) (fun q => thr q (fun _ Zq_2 => bnd (sX2_keep 19 Zq_2) <| fun q_3 => bnd (sX7_perform k a b l q_3) <| fun q_4 => some (.inr q_4.1, q_4.2)))) :=
    ex_thr (ex_refuse hx hS) (fun _ _ => ex_bnd (fun _ => ex_bnd (fun _ => ex_inr)))
  exact h4 _ _ h2
theorem pb_0 {a b l : Int32} {Z : ZZ} : exP [0, 3] (sX7_problemOf 0 a b l Z) := by
  unfold sX7_problemOf
  rw [if_pos (by decide)]
  refine pb_re ?_
  unfold sX3_switchProblem
  repeat' first | (with_reducible refine pb_some ?_; decide) | (with_reducible refine pb_gd ?_) | (with_reducible refine pb_nm (fun _ => ?_)) | (with_reducible refine pb_bnd (fun _ => ?_)) | (with_reducible refine pb_ite ?_ ?_)
theorem pb_1 {a b l : Int32} {Z : ZZ} : exP [0, 1, 2, 3] (sX7_problemOf 1 a b l Z) := by
  unfold sX7_problemOf
  rw [if_neg (by decide)]
  rw [if_pos (by decide)]
  refine pb_re ?_
  unfold sX3_trunkProblem
  repeat' first | (with_reducible refine pb_some ?_; decide) | (with_reducible refine pb_gd ?_) | (with_reducible refine pb_nm (fun _ => ?_)) | (with_reducible refine pb_bnd (fun _ => ?_)) | (with_reducible refine pb_ite ?_ ?_)
theorem pb_2 {a b l : Int32} {Z : ZZ} : exP [0, 1, 2, 3] (sX7_problemOf 2 a b l Z) := by
  unfold sX7_problemOf
  rw [if_neg (by decide)]
  rw [if_neg (by decide)]
  rw [if_pos (by decide)]
  refine pb_re ?_
  unfold sX6_subscriberProblem
  repeat' first | (with_reducible refine pb_some ?_; decide) | (with_reducible refine pb_gd ?_) | (with_reducible refine pb_nm (fun _ => ?_)) | (with_reducible refine pb_bnd (fun _ => ?_)) | (with_reducible refine pb_ite ?_ ?_)
theorem pb_3 {a b l : Int32} {Z : ZZ} : exP [0, 1, 2, 3, 4] (sX7_problemOf 3 a b l Z) := by
  unfold sX7_problemOf
  rw [if_neg (by decide)]
  rw [if_neg (by decide)]
  rw [if_neg (by decide)]
  rw [if_pos (by decide)]
  refine pb_re ?_
  unfold sX7_callProblem
  repeat' first | (with_reducible refine pb_some ?_; decide) | (with_reducible refine pb_gd ?_) | (with_reducible refine pb_nm (fun _ => ?_)) | (with_reducible refine pb_bnd (fun _ => ?_)) | (with_reducible refine pb_ite ?_ ?_)
theorem pb_4 {a b l : Int32} {Z : ZZ} : exP [0, 1, 3] (sX7_problemOf 4 a b l Z) := by
  unfold sX7_problemOf
  rw [if_neg (by decide)]
  rw [if_neg (by decide)]
  rw [if_neg (by decide)]
  rw [if_neg (by decide)]
  rw [if_pos (by decide)]
  refine pb_re ?_
  unfold sX6_hangUpProblem
  repeat' first | (with_reducible refine pb_some ?_; decide) | (with_reducible refine pb_gd ?_) | (with_reducible refine pb_nm (fun _ => ?_)) | (with_reducible refine pb_bnd (fun _ => ?_)) | (with_reducible refine pb_ite ?_ ?_)
theorem pb_5 {a b l : Int32} {Z : ZZ} : exP [0, 1, 3] (sX7_problemOf 5 a b l Z) := by
  unfold sX7_problemOf
  rw [if_neg (by decide)]
  rw [if_neg (by decide)]
  rw [if_neg (by decide)]
  rw [if_neg (by decide)]
  rw [if_neg (by decide)]
  rw [if_pos (by decide)]
  refine pb_re ?_
  unfold sX3_repairProblem
  repeat' first | (with_reducible refine pb_some ?_; decide) | (with_reducible refine pb_gd ?_) | (with_reducible refine pb_nm (fun _ => ?_)) | (with_reducible refine pb_bnd (fun _ => ?_)) | (with_reducible refine pb_ite ?_ ?_)
theorem pb_6 {a b l : Int32} {Z : ZZ} : exP [0, 1, 3] (sX7_problemOf 6 a b l Z) := by
  unfold sX7_problemOf
  rw [if_neg (by decide)]
  rw [if_neg (by decide)]
  rw [if_neg (by decide)]
  rw [if_neg (by decide)]
  rw [if_neg (by decide)]
  rw [if_neg (by decide)]
  rw [if_pos (by decide)]
  refine pb_re ?_
  unfold sX3_repairProblem
  repeat' first | (with_reducible refine pb_some ?_; decide) | (with_reducible refine pb_gd ?_) | (with_reducible refine pb_nm (fun _ => ?_)) | (with_reducible refine pb_bnd (fun _ => ?_)) | (with_reducible refine pb_ite ?_ ?_)
theorem pb_7 {a b l : Int32} {Z : ZZ} : exP [0, 2] (sX7_problemOf 7 a b l Z) := by
  unfold sX7_problemOf
  rw [if_neg (by decide)]
  rw [if_neg (by decide)]
  rw [if_neg (by decide)]
  rw [if_neg (by decide)]
  rw [if_neg (by decide)]
  rw [if_neg (by decide)]
  rw [if_neg (by decide)]
  rw [if_pos (by decide)]
  repeat' first | (with_reducible refine pb_some ?_; decide) | (with_reducible refine pb_gd ?_) | (with_reducible refine pb_nm (fun _ => ?_)) | (with_reducible refine pb_bnd (fun _ => ?_)) | (with_reducible refine pb_ite ?_ ?_)
theorem exc_addSwitch {Z : ZZ} : exL [3] (sX7_addSwitch Z) := by
  unfold sX7_addSwitch
  repeat' first | (with_reducible exact ex_inr) | (with_reducible refine ex_thr (ex_change pb_0 (by decide)) (fun _ _ => ?_)) | (with_reducible refine ex_change pb_0 (by decide)) | (with_reducible refine ex_gd ?_) | (with_reducible refine ex_nm (fun _ => ?_)) | (with_reducible refine ex_bnd (fun _ => ?_)) | (with_reducible refine ex_ite ?_ ?_)
theorem exc_addTrunk {x1 : Int32} {x2 : Int32} {x3 : Int32} {Z : ZZ} : exL [1, 2, 3] (sX7_addTrunk x1 x2 x3 Z) := by
  unfold sX7_addTrunk
  repeat' first | (with_reducible exact ex_inr) | (with_reducible refine ex_thr (ex_change pb_1 (by decide)) (fun _ _ => ?_)) | (with_reducible refine ex_change pb_1 (by decide)) | (with_reducible refine ex_gd ?_) | (with_reducible refine ex_nm (fun _ => ?_)) | (with_reducible refine ex_bnd (fun _ => ?_)) | (with_reducible refine ex_ite ?_ ?_)
theorem exc_addSubscriber {x1 : Int32} {x2 : Int32} {Z : ZZ} : exL [1, 2, 3] (sX7_addSubscriber x1 x2 Z) := by
  unfold sX7_addSubscriber
  repeat' first | (with_reducible exact ex_inr) | (with_reducible refine ex_thr (ex_change pb_2 (by decide)) (fun _ _ => ?_)) | (with_reducible refine ex_change pb_2 (by decide)) | (with_reducible refine ex_gd ?_) | (with_reducible refine ex_nm (fun _ => ?_)) | (with_reducible refine ex_bnd (fun _ => ?_)) | (with_reducible refine ex_ite ?_ ?_)
theorem exc_call {x1 : Int32} {x2 : Int32} {Z : ZZ} : exL [1, 2, 3, 4] (sX7_call x1 x2 Z) := by
  unfold sX7_call
  repeat' first | (with_reducible exact ex_inr) | (with_reducible refine ex_thr (ex_change pb_3 (by decide)) (fun _ _ => ?_)) | (with_reducible refine ex_change pb_3 (by decide)) | (with_reducible refine ex_gd ?_) | (with_reducible refine ex_nm (fun _ => ?_)) | (with_reducible refine ex_bnd (fun _ => ?_)) | (with_reducible refine ex_ite ?_ ?_)
theorem exc_hangUp {x1 : Int32} {Z : ZZ} : exL [1, 3] (sX7_hangUp x1 Z) := by
  unfold sX7_hangUp
  repeat' first | (with_reducible exact ex_inr) | (with_reducible refine ex_thr (ex_change pb_4 (by decide)) (fun _ _ => ?_)) | (with_reducible refine ex_change pb_4 (by decide)) | (with_reducible refine ex_gd ?_) | (with_reducible refine ex_nm (fun _ => ?_)) | (with_reducible refine ex_bnd (fun _ => ?_)) | (with_reducible refine ex_ite ?_ ?_)
theorem exc_mend {x1 : Int32} {Z : ZZ} : exL [1, 3] (sX7_mend x1 Z) := by
  unfold sX7_mend
  repeat' first | (with_reducible exact ex_inr) | (with_reducible refine ex_thr (ex_change pb_6 (by decide)) (fun _ _ => ?_)) | (with_reducible refine ex_change pb_6 (by decide)) | (with_reducible refine ex_gd ?_) | (with_reducible refine ex_nm (fun _ => ?_)) | (with_reducible refine ex_bnd (fun _ => ?_)) | (with_reducible refine ex_ite ?_ ?_)
theorem exc_cut {x1 : Int32} {Z : ZZ} : exL [1, 3] (sX7_cut x1 Z) := by
  unfold sX7_cut
  repeat' first | (with_reducible exact ex_inr) | (with_reducible refine ex_thr (ex_change pb_5 (by decide)) (fun _ _ => ?_)) | (with_reducible refine ex_change pb_5 (by decide)) | (with_reducible refine ex_gd ?_) | (with_reducible refine ex_nm (fun _ => ?_)) | (with_reducible refine ex_bnd (fun _ => ?_)) | (with_reducible refine ex_ite ?_ ?_)
theorem exc_pass {x1 : Int32} {Z : ZZ} : exL [2] (sX7_pass x1 Z) := by
  unfold sX7_pass
  repeat' first | (with_reducible exact ex_inr) | (with_reducible refine ex_thr (ex_change pb_7 (by decide)) (fun _ _ => ?_)) | (with_reducible refine ex_change pb_7 (by decide)) | (with_reducible refine ex_gd ?_) | (with_reducible refine ex_nm (fun _ => ?_)) | (with_reducible refine ex_bnd (fun _ => ?_)) | (with_reducible refine ex_ite ?_ ?_)
theorem exc_run {Z : ZZ} : exL [2, 4] (sX7_run Z) := by
  unfold sX7_run
  repeat' first | (with_reducible exact ex_inr) | (with_reducible refine ex_inl ?_; decide) | (with_reducible refine ex_gd ?_) | (with_reducible refine ex_nm (fun _ => ?_)) | (with_reducible refine ex_bnd (fun _ => ?_)) | (with_reducible refine ex_ite ?_ ?_)
