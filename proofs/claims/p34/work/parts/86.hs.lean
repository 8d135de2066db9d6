/-! the world at the beginning -/
def g0 : Hp := (fun _ => dead, 119, false)
def k0 : GS := (A0, W0, A0, W0, fun _ => A0, fun _ => W0, 0, 0, 0, 0, .null, Zi, Zi)
theorem gst_1 : ∀ i, i < 19 → G118.1 (1 + i) = sc 1 A0 W0 i := by
  intro i hi
  rw [← stL_ok i hi]
  have h19 : i = 0 ∨ i = 1 ∨ i = 2 ∨ i = 3 ∨ i = 4 ∨ i = 5 ∨ i = 6 ∨ i = 7 ∨ i = 8 ∨ i = 9 ∨ i = 10 ∨ i = 11 ∨ i = 12 ∨ i = 13 ∨ i = 14 ∨ i = 15 ∨ i = 16 ∨ i = 17 ∨ i = 18 := by omega
  rcases h19 with rfl | rfl | rfl | rfl | rfl | rfl | rfl | rfl | rfl | rfl | rfl | rfl | rfl | rfl | rfl | rfl | rfl | rfl | rfl <;> rfl
theorem gst_20 : ∀ i, i < 19 → G118.1 (20 + i) = sc 20 A0 W0 i := by
  intro i hi
  rw [← stL_ok i hi]
  have h19 : i = 0 ∨ i = 1 ∨ i = 2 ∨ i = 3 ∨ i = 4 ∨ i = 5 ∨ i = 6 ∨ i = 7 ∨ i = 8 ∨ i = 9 ∨ i = 10 ∨ i = 11 ∨ i = 12 ∨ i = 13 ∨ i = 14 ∨ i = 15 ∨ i = 16 ∨ i = 17 ∨ i = 18 := by omega
  rcases h19 with rfl | rfl | rfl | rfl | rfl | rfl | rfl | rfl | rfl | rfl | rfl | rfl | rfl | rfl | rfl | rfl | rfl | rfl | rfl <;> rfl
theorem gst_43 : ∀ i, i < 19 → G118.1 (43 + i) = sc 43 A0 W0 i := by
  intro i hi
  rw [← stL_ok i hi]
  have h19 : i = 0 ∨ i = 1 ∨ i = 2 ∨ i = 3 ∨ i = 4 ∨ i = 5 ∨ i = 6 ∨ i = 7 ∨ i = 8 ∨ i = 9 ∨ i = 10 ∨ i = 11 ∨ i = 12 ∨ i = 13 ∨ i = 14 ∨ i = 15 ∨ i = 16 ∨ i = 17 ∨ i = 18 := by omega
  rcases h19 with rfl | rfl | rfl | rfl | rfl | rfl | rfl | rfl | rfl | rfl | rfl | rfl | rfl | rfl | rfl | rfl | rfl | rfl | rfl <;> rfl
theorem gst_62 : ∀ i, i < 19 → G118.1 (62 + i) = sc 62 A0 W0 i := by
  intro i hi
  rw [← stL_ok i hi]
  have h19 : i = 0 ∨ i = 1 ∨ i = 2 ∨ i = 3 ∨ i = 4 ∨ i = 5 ∨ i = 6 ∨ i = 7 ∨ i = 8 ∨ i = 9 ∨ i = 10 ∨ i = 11 ∨ i = 12 ∨ i = 13 ∨ i = 14 ∨ i = 15 ∨ i = 16 ∨ i = 17 ∨ i = 18 := by omega
  rcases h19 with rfl | rfl | rfl | rfl | rfl | rfl | rfl | rfl | rfl | rfl | rfl | rfl | rfl | rfl | rfl | rfl | rfl | rfl | rfl <;> rfl
theorem gst_81 : ∀ i, i < 19 → G118.1 (81 + i) = sc 81 A0 W0 i := by
  intro i hi
  rw [← stL_ok i hi]
  have h19 : i = 0 ∨ i = 1 ∨ i = 2 ∨ i = 3 ∨ i = 4 ∨ i = 5 ∨ i = 6 ∨ i = 7 ∨ i = 8 ∨ i = 9 ∨ i = 10 ∨ i = 11 ∨ i = 12 ∨ i = 13 ∨ i = 14 ∨ i = 15 ∨ i = 16 ∨ i = 17 ∨ i = 18 := by omega
  rcases h19 with rfl | rfl | rfl | rfl | rfl | rfl | rfl | rfl | rfl | rfl | rfl | rfl | rfl | rfl | rfl | rfl | rfl | rfl | rfl <;> rfl
theorem gst_100 : ∀ i, i < 19 → G118.1 (100 + i) = sc 100 A0 W0 i := by
  intro i hi
  rw [← stL_ok i hi]
  have h19 : i = 0 ∨ i = 1 ∨ i = 2 ∨ i = 3 ∨ i = 4 ∨ i = 5 ∨ i = 6 ∨ i = 7 ∨ i = 8 ∨ i = 9 ∨ i = 10 ∨ i = 11 ∨ i = 12 ∨ i = 13 ∨ i = 14 ∨ i = 15 ∨ i = 16 ∨ i = 17 ∨ i = 18 := by omega
  rcases h19 with rfl | rfl | rfl | rfl | rfl | rfl | rfl | rfl | rfl | rfl | rfl | rfl | rfl | rfl | rfl | rfl | rfl | rfl | rfl <;> rfl
theorem f4_eq : f4 = fun i => if i < 4 then some (43 + 19 * i) else none := funext fun i => by
  unfold f4 va_up
  by_cases h3 : i = 3
  · subst h3; rfl
  · rw [if_neg h3]
    by_cases h2 : i = 2
    · subst h2; rfl
    · rw [if_neg h2]
      by_cases h1 : i = 1
      · subst h1; rfl
      · rw [if_neg h1]
        by_cases h0 : i = 0
        · subst h0; rfl
        · rw [if_neg h0, if_neg (by omega)]
theorem g118_in {h : Hp} {j : Nat} (hj : j < 119) : G118.1 j = (EH h A0 W0 A0 W0 (fun _ => A0) (fun _ => W0) 0 0 0 0 .null Zi Zi).1 j := by
  by_cases h1 : 1 ≤ j ∧ j < 20
  · obtain ⟨i, rfl⟩ : ∃ i, j = 1 + i := ⟨j - 1, by omega⟩
    rw [gst_1 i (by omega)]
    exact (sH_at (by omega)).symm
  · by_cases h2 : 20 ≤ j ∧ j < 39
    · obtain ⟨i, rfl⟩ : ∃ i, j = 20 + i := ⟨j - 20, by omega⟩
      rw [gst_20 i (by omega), EH_t]
      exact (sH_at (by omega)).symm
    · by_cases h3 : 43 ≤ j
      · have sv : ∀ p i, p < 4 → i < 19 → (EH h A0 W0 A0 W0 (fun _ => A0) (fun _ => W0) 0 0 0 0 .null Zi Zi).1 (43 + 19 * p + i) = sc (43 + 19 * p) A0 W0 i := fun p i hp hi => by
          unfold EH gR
          rw [sH_out (Or.inr (by omega)), cH_out (Or.inr (by omega)), sH_out (Or.inr (by omega)), vH_at hp hi]
        have h4 : (∃ i, i < 19 ∧ j = 43 + i) ∨ (∃ i, i < 19 ∧ j = 62 + i) ∨ (∃ i, i < 19 ∧ j = 81 + i) ∨ (∃ i, i < 19 ∧ j = 100 + i) := by
          by_cases c1 : j < 62
          · exact Or.inl ⟨j - 43, by omega, by omega⟩
          · by_cases c2 : j < 81
            · exact Or.inr (Or.inl ⟨j - 62, by omega, by omega⟩)
            · by_cases c3 : j < 100
              · exact Or.inr (Or.inr (Or.inl ⟨j - 81, by omega, by omega⟩))
              · exact Or.inr (Or.inr (Or.inr ⟨j - 100, by omega, by omega⟩))
        rcases h4 with ⟨i, hi, rfl⟩ | ⟨i, hi, rfl⟩ | ⟨i, hi, rfl⟩ | ⟨i, hi, rfl⟩
        · rw [gst_43 i hi]; exact (sv 0 i (by decide) hi).symm
        · rw [gst_62 i hi]; exact (sv 1 i (by decide) hi).symm
        · rw [gst_81 i hi]; exact (sv 2 i (by decide) hi).symm
        · rw [gst_100 i hi]; exact (sv 3 i (by decide) hi).symm
      · have h5 : j = 0 ∨ j = 39 ∨ j = 40 ∨ j = 41 ∨ j = 42 := by omega
        rcases h5 with rfl | rfl | rfl | rfl | rfl
        · exact ((sH_out (Or.inl (by decide))).trans EH_0).symm
        · have e : (EH h A0 W0 A0 W0 (fun _ => A0) (fun _ => W0) 0 0 0 0 .null Zi Zi).1 39 = svE (fun i => if i < 4 then some (43 + 19 * i) else none) := (sH_out (Or.inr (by decide))).trans ((cH_out (Or.inl (by decide))).trans gR_39)
          rw [e, ← f4_eq]
          rfl
        · exact (yH_40).symm
        · exact ((sH_out (Or.inr (by decide))).trans cH_41).symm
        · exact ((sH_out (Or.inr (by decide))).trans cH_42).symm
theorem g118_out {j : Nat} (hj : 119 ≤ j) : G118.1 j = dead := by
  have e1 : G118.1 j = h39.1 j := by
    show (if h39.2.1 ≤ j ∧ j < h39.2.1 + _ then _ else h39.1 j) = h39.1 j
    rw [if_neg (by
      have e : h39.2.1 + (svE f4 :: ((((ctE ++ stL 43) ++ stL 62) ++ stL 81) ++ stL 100)).length = 119 := by decide
      omega)]
  rw [e1]
  show (if hZ.2.1 ≤ j ∧ j < hZ.2.1 + _ then _ else hZ.1 j) = dead
  rw [if_neg (by
    have e : hZ.2.1 + ((.inr (8, gf 0 0) : va_E) :: (stL 1 ++ stL 20)).length = 39 := by decide
    omega)]
  rfl
