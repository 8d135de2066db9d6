/-! deeds agree: begin -/
theorem begins_lo {A : Nat → Int32} {d : Int32} {j : Nat} (h : j = 12 ∨ j = 13 ∨ j = 16 ∨ j = 17 ∨ (2 ≤ j ∧ j ≤ 5) ∨ j = 8 ∨ j = 24 ∨ j = 25 ∨ (27 ≤ j ∧ j < 647)) : R_begins A d j = 0 := by
  unfold R_begins
  rw [upd_n (by omega), upd_n (by omega), upd_n (by omega), upd_n (by omega), upd_n (by omega), upd_n (by omega), upd_n (by omega), upd_n (by omega), upd_n (by omega), upd_n (by omega), upd_n (by omega), upd_n (by omega), upd_n (by omega), upd_n (by omega), upd_n (by omega), upd_n (by omega)]
  exact if_pos (by omega)
theorem AG_begins {C A : Nat → Int32} {W : Nat → Int64} {d : Int32} (h11 : C 11 = A 11) : AG (K_start C d) (K_zero W 8) (R_begins A d) := by
  refine ⟨fun j hj => ?_, fun i hi => ?_, ?_⟩
  · unfold Lv at hj
    rw [begins_lo (j := 31) (by omega), begins_lo (j := 41) (by omega), begins_lo (j := 102) (by omega), begins_lo (j := 118) (by omega), begins_lo (j := 4) (by omega), show cl (0 : Int32) = 0 from rfl] at hj
    have hj2 : j = 0 ∨ j = 1 ∨ j = 2 ∨ j = 3 ∨ j = 4 ∨ j = 5 ∨ j = 6 ∨ j = 7 ∨ j = 8 ∨ j = 9 ∨ j = 10 ∨ j = 11 ∨ j = 12 ∨ j = 13 ∨ j = 14 ∨ j = 15 ∨ j = 16 ∨ j = 17 ∨ j = 18 ∨ j = 19 ∨ j = 20 ∨ j = 21 ∨ j = 22 ∨ j = 23 ∨ j = 24 ∨ j = 25 ∨ j = 26 ∨ j = 27 ∨ j = 28 ∨ j = 29 ∨ j = 30 ∨ j = 31 ∨ j = 41 ∨ j = 102 ∨ j = 118 := by omega
    rcases hj2 with rfl | rfl | rfl | rfl | rfl | rfl | rfl | rfl | rfl | rfl | rfl | rfl | rfl | rfl | rfl | rfl | rfl | rfl | rfl | rfl | rfl | rfl | rfl | rfl | rfl | rfl | rfl | rfl | rfl | rfl | rfl | rfl | rfl | rfl | rfl
    all_goals first | exact h11 | rfl
  · rw [zero_bin hi, begins_lo (by omega)]
  · unfold MC
    rw [mkd_cong (B := fun _ => 0) 501 (fun i hi => begins_lo (by omega)), mkd_0]
    rfl
theorem OKA_begins {A : Nat → Int32} {d : Int32} (h : R_in d 500 10000 = 1) : OKA (R_begins A d) := by
  refine ⟨WF_begins h, ⟨⟨0, begins_lo (by omega), by omega⟩, ⟨5, rfl, by omega, by omega⟩, ⟨4, rfl, by omega, by omega⟩, fun D a1 a2 => ⟨Or.inl rfl, fun i hi => ?_⟩, fun i hi => ?_, fun i hi => ?_, fun e he => ?_, fun i hi => Or.inl (begins_lo (by omega))⟩, 0, 5, begins_lo (by omega), rfl, by omega, by omega⟩
  · rw [begins_lo (j := 31) (by omega)] at hi
    exact absurd hi (Nat.not_lt_zero i)
  · rw [begins_lo (j := 102) (by omega)] at hi
    exact absurd hi (Nat.not_lt_zero i)
  · rw [begins_lo (j := 118) (by omega)] at hi
    exact absurd hi (Nat.not_lt_zero i)
  · rw [begins_lo (j := 41) (by omega)] at he
    exact absurd he (Nat.not_lt_zero e)
