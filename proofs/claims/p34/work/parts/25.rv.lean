/-! the mean pick; shots that would be -/
theorem back {A a X : Nat → Int32} (h : ∀ j, 647 ≤ j → X j = A j) : cpT (cpT A a 647) X 647 = A := by
  funext j
  unfold cpT
  by_cases hj : j < 647
  · rw [if_pos hj, if_pos hj]
  · rw [if_neg hj]; exact h j (by omega)
/-- a shot leaves settings, things and masks alone -/
theorem shot_st {A : Nat → Int32} (h : WF A) {j : Nat} (hj : j = 0 ∨ (1 < j ∧ j < 8) ∨ j = 9 ∨ j = 10 ∨ (11 < j ∧ j < 24) ∨ 134 ≤ j) : (R_shot A).1 j = A j := by
  obtain ⟨F, Lk, Rm, P, C, T, p, s⟩ := SH_ok h
  obtain ⟨K, hK15, kF, kL, kR, -, -, -⟩ := s.K
  rw [shot_1, sh4_eq, ← s.f, ← s.lk, ← s.rm, ← s.pp, ← s.p2, alarms_st (by omega), tells_st (by omega), keeps_st (by omega), cnt_st (by omega), s.pp, picks_st kR hK15 (by omega), s.rm, rem_st kL hK15 (by omega), s.lk, looks_st kF hK15 (by omega), s.f, fires_st h (by omega)]
