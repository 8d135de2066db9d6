/-! things, s, masks, learning, shooting -/
def R_shl (A : Nat → Int32) (lo k : Nat) : Nat → Int32 := fun j => if lo ≤ j ∧ j < k then A (j + 2) else A j
def R_rm (A : Nat → Int32) (k x : Nat) : Nat → Int32 := R_shl (upd A 4 (A 4 - 1)) (134 + 2 * x) (134 + 2 * (k - 1))
def R_nn (x : Int32) : Int32 := if x < 0 then 0 else 1
def R_unm (A : Nat → Int32) (k : Nat) : Nat → Int32 := fun j => if 146 ≤ j ∧ j < 146 + k then 0 else A j
theorem lrb_st {X : Nat → Int32} {k j : Nat} (hj : j < 146) : R_lrb k X j = X j := by
  unfold R_lrb
  split
  · rfl
  · split
    · rfl
    · exact upd_n (by omega)
theorem lr_it {X : Nat → Int32} {j : Nat} (hj : j < 146) (k : Nat) : itN R_lrb k X j = X j := by
  induction k with
  | zero => rfl
  | succ k ih => rw [itN_s, lrb_st hj, ih]
theorem lr_st {A : Nat → Int32} {j : Nat} (hj : j < 146) : R_lr A j = R_fires A j := by
  unfold R_lr
  exact lr_it hj _
theorem WF_lr {A : Nat → Int32} (h : WF A) : WF (R_lr A) := by
  have h1 := WF_fires h
  refine WF_of h1 (fun j hj => lr_st (by omega)) ?_ ?_ ?_ ?_ ?_
  · rw [lr_st (by omega)]; exact h1.l1
  · rw [lr_st (by omega)]; exact h1.K31
  · rw [lr_st (by omega)]; exact h1.K41
  · rw [lr_st (by omega)]; exact h1.Ka
  · rw [lr_st (by omega)]; exact h1.Kb
theorem learns_s {A : Nat → Int32} {k : Nat} : R_learns A (k + 1) = R_lr (R_learns A k) := by simp only [R_learns, itN_s]
theorem shoots_s {A : Nat → Int32} {k : Nat} : R_shoots A (k + 1) = R_shb (R_shoots A k) := by simp only [R_shoots, itN_s]
theorem WF_learns {A : Nat → Int32} (h : WF A) (k : Nat) : WF (R_learns A k) := by
  induction k with
  | zero => exact h
  | succ k ih => rw [learns_s]; exact WF_lr ih
theorem WF_shoots {A : Nat → Int32} (h : WF A) (k : Nat) : WF (R_shoots A k).1 := by
  induction k with
  | zero => exact h
  | succ k ih => rw [shoots_s, R_shb]; dsimp only; exact WF_shot ih
