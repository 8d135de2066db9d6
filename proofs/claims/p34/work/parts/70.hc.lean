/-! the world of the law: gauge and model side by side -/
abbrev GS : Type := (Nat → Int32) × (Nat → Int64) × (Nat → Int32) × (Nat → Int64) × (Nat → Nat → Int32) × (Nat → Nat → Int64) × Int32 × Int32 × Int32 × Int32 × Value × (Nat → Int32) × (Nat → Int32)
/-- the class's cells over h: state C W, trial T U, saved S V, ns cnt, text ln po wd t nu -/
def EH (h : Hp) (C : Nat → Int32) (W : Nat → Int64) (T : Nat → Int32) (U : Nat → Int64) (S : Nat → Nat → Int32) (V : Nat → Nat → Int64) (ns cnt ln po : Int32) (wd : Value) (t nu : Nat → Int32) : Hp := sH (cH (gR h T U S V ns cnt) ln po wd t nu) 1 C W
section EW
variable {h h' h0 : Hp} {C T : Nat → Int32} {W U : Nat → Int64} {S : Nat → Nat → Int32} {V : Nat → Nat → Int64} {ns cnt ns' cnt' ln po : Int32} {wd : Value} {t nu : Nat → Int32} {I I' A A' a a' v v' x x' n n' : Nat → Int32} {J J' : Nat → Int64}
theorem EH_out {j : Nat} (hj : 119 ≤ j) : (EH h C W T U S V ns cnt ln po wd t nu).1 j = h.1 j := by
  unfold EH gR
  rw [sH_out (Or.inr (by omega)), cH_out (Or.inr (by omega)), sH_out (Or.inr (by omega)), vH_out (Or.inr (by omega))]
  show (if j = 0 then _ else if j = 39 then _ else h.1 j) = h.1 j
  rw [if_neg (by omega), if_neg (by omega)]
theorem sH_in {h h' : Hp} {b j : Nat} {C : Nat → Int32} {W : Nat → Int64} (hj : b ≤ j ∧ j < b + 19) : (sH h b C W).1 j = (sH h' b C W).1 j := by
  show (if b ≤ j ∧ j < b + 19 then sc b C W (j - b) else h.1 j) = (if b ≤ j ∧ j < b + 19 then sc b C W (j - b) else h'.1 j)
  rw [if_pos hj, if_pos hj]
theorem EH_in {j : Nat} (hj : j < 119) : (EH h C W T U S V ns cnt ln po wd t nu).1 j = (EH h' C W T U S V ns cnt ln po wd t nu).1 j := by
  unfold EH gR
  by_cases h1 : 1 ≤ j ∧ j < 1 + 19
  · exact sH_in h1
  · rw [sH_out (by omega), sH_out (by omega)]
    by_cases h2 : j < 40 ∨ 42 < j
    · rw [cH_out h2, cH_out h2]
      by_cases h3 : 20 ≤ j ∧ j < 20 + 19
      · exact sH_in h3
      · rw [sH_out (by omega), sH_out (by omega)]
        by_cases h4 : 43 ≤ j ∧ j < 119
        · show (if 43 ≤ j ∧ j < 119 then _ else _) = (if 43 ≤ j ∧ j < 119 then _ else _)
          rw [if_pos h4, if_pos h4]
        · rw [vH_out (by omega), vH_out (by omega)]
          have h5 : j = 0 ∨ j = 39 := by omega
          rcases h5 with rfl | rfl <;> rfl
    · have h5 : j = 40 ∨ j = 41 ∨ j = 42 := by omega
      rcases h5 with rfl | rfl | rfl <;> rfl
theorem EH_2 : (EH h C W T U S V ns cnt ln po wd t nu).2 = h.2 := rfl
/-- the cells of the command text under those of the states -/
theorem cH_gR : cH (gR h T U S V ns cnt) ln po wd t nu = gR (cH h ln po wd t nu) T U S V ns cnt := by
  refine hp_ext (fun j => ?_) rfl
  unfold gR
  by_cases h1 : j = 40 ∨ j = 41 ∨ j = 42
  · rcases h1 with rfl | rfl | rfl
    · rw [cH_40, sH_out (Or.inr (by decide)), vH_out (Or.inl (by decide))]; rfl
    · rw [cH_41, sH_out (Or.inr (by decide)), vH_out (Or.inl (by decide))]; rfl
    · rw [cH_42, sH_out (Or.inr (by decide)), vH_out (Or.inl (by decide))]; rfl
  · rw [cH_out (by omega)]
    by_cases h3 : 20 ≤ j ∧ j < 20 + 19
    · exact sH_in h3
    · rw [sH_out (by omega), sH_out (by omega)]
      by_cases h4 : 43 ≤ j ∧ j < 119
      · show (if 43 ≤ j ∧ j < 119 then _ else _) = (if 43 ≤ j ∧ j < 119 then _ else _)
        rw [if_pos h4, if_pos h4]
      · rw [vH_out (by omega), vH_out (by omega)]
        show (if j = 0 then _ else if j = 39 then _ else h.1 j) = (if j = 0 then _ else if j = 39 then _ else (cH h ln po wd t nu).1 j)
        rw [cH_out (by omega)]
theorem EH_g : EH h C W T U S V ns cnt ln po wd t nu = sH (gR (cH h ln po wd t nu) T U S V ns cnt) 1 C W := by
  unfold EH
  rw [cH_gR]
/-- the trial's cells on top -/
theorem EH_t : EH h C W T U S V ns cnt ln po wd t nu = sH (sH (vH (qH (cH h ln po wd t nu) ns cnt) S V) 1 C W) 20 T U := by
  rw [EH_g]
  unfold gR
  rw [sH_comm (b := 1) (b2 := 20) (by omega)]
theorem EH_0 : (cH (gR h T U S V ns cnt) ln po wd t nu).1 0 = .inr (8, gf ns cnt) := (cH_out (Or.inl (by decide))).trans gR_0
theorem EH_HC : HC (cH (gR h T U S V ns cnt) ln po wd t nu) ln po wd t nu := ⟨rfl, rfl, rfl⟩
end EW
