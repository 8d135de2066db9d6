/-! the row at the beginning, and the saved rows -/
theorem WF_eq {A A' : Nat → Int32} (h : WF A) (e : ∀ j, j < 147 → A' j = A j) : WF A' := by
  refine WF_of h (fun j hj => e j (by omega)) ?_ ?_ ?_ ?_ ?_
  · rw [e _ (by omega)]; exact h.l1
  · rw [e _ (by omega)]; exact h.K31
  · rw [e _ (by omega)]; exact h.K41
  · rw [e _ (by omega)]; exact h.Ka
  · rw [e _ (by omega)]; exact h.Kb
