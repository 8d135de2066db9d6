/-! the row at the beginning, and the saved rows -/
theorem WF_init : WF (R_begins (upd (fun _ => 0) 11 1) 2000) := WF_begins (by decide)
theorem WF_eq {A A' : Nat → Int32} (h : WF A) (e : ∀ j, j < 147 → A' j = A j) : WF A' := by
  refine WF_of h (fun j hj => e j (by omega)) ?_ ?_ ?_ ?_ ?_
  · rw [e _ (by omega)]; exact h.l1
  · rw [e _ (by omega)]; exact h.K31
  · rw [e _ (by omega)]; exact h.K41
  · rw [e _ (by omega)]; exact h.Ka
  · rw [e _ (by omega)]; exact h.Kb
/-- each of the c saved rows is as a row must be -/
def SV (c : Nat) (v : Nat → Int32) : Prop := ∀ i, i < c → WF (fun j => v (647 * i + j))
theorem SV_0 {v : Nat → Int32} : SV 0 v := fun i h => absurd h (Nat.not_lt_zero i)
theorem SV_save {A v : Nat → Int32} {c : Nat} (h : SV c v) (hc : c ≤ 4) (hw : WF A) : SV (if c = 4 then 4 else c + 1) (R_savev c A v) := by
  intro i hi
  unfold R_savev
  by_cases h4 : c = 4
  · rw [if_pos h4] at hi ⊢
    by_cases h3 : i = 3
    · subst h3
      exact WF_eq hw fun j hj => by
        unfold cpR
        rw [if_pos (by omega)]
        exact congrArg A (by omega)
    · exact WF_eq (h (i + 1) (by omega)) fun j hj => by
        unfold cpR shf
        rw [if_neg (by omega), if_pos (by omega)]
        exact congrArg v (by omega)
  · rw [if_neg h4] at hi ⊢
    by_cases h3 : i = c
    · subst h3
      exact WF_eq hw fun j hj => by
        unfold cpR
        rw [if_pos (by omega)]
        exact congrArg A (by omega)
    · exact WF_eq (h i (by omega)) fun j hj => by
        unfold cpR
        rw [if_neg (by omega)]
theorem WF_undo {A v : Nat → Int32} {c : Nat} (h : SV (c + 1) v) : WF (cpT (fun j => v (647 * c + j)) A 647) ∧ SV c v := by
  refine ⟨WF_eq (h c (by omega)) fun j hj => ?_, fun i hi => h i (by omega)⟩
  unfold cpT
  rw [if_pos (by omega)]
