/-! each question on both sides -/
theorem has_ex {x d : Int32} {k : Nat} (hx : x = nI k) (hk : k ≤ 6) (h : K_has d x = 1) : ∃ i, d = nI i ∧ i < k := by
  subst hx
  unfold K_has at h
  by_cases q0 : d < 0
  · rw [if_pos q0] at h; exact absurd h (by decide)
  · rw [if_neg q0] at h
    by_cases q1 : nI k ≤ d
    · rw [if_pos q1] at h; exact absurd h (by decide)
    · have d0 := Int32.le_iff_toInt_le.mp (Int32.not_lt.mp q0)
      have d1 := Int32.lt_iff_toInt_lt.mp (Int32.not_le.mp q1)
      rw [nI_toInt (by omega)] at d1
      have z0 : (0 : Int32).toInt = 0 := rfl
      rw [z0] at d0
      refine ⟨d.toInt.toNat, Int32.toInt_inj.mp ?_, by omega⟩
      rw [nI_toInt (by omega)]
      omega
section OPQ
variable {om : OM} {l : Launch} {mC mR : MI} {vC vR : List Value} {cs : List Nat} {ex : Nat → String} {C T : Nat → Int32} {W U : Nat → Int64} {S : Nat → Nat → Int32} {V : Nat → Nat → Int64} {ns cnt ln po : Int32} {wd : Value} {t nu : Nat → Int32} {I A a v n : Nat → Int32} {J : Nat → Int64}
end OPQ
