/-! each deed on both sides -/
theorem has_in {x d : Int32} {k : Nat} (hx : x = nI k) (hk : k ≤ 6) : K_has d x = R_in d 0 (x - 1) := by
  subst hx
  have e : (nI k - 1).toInt = (k : Int) - 1 := by
    have h7 : k = 0 ∨ k = 1 ∨ k = 2 ∨ k = 3 ∨ k = 4 ∨ k = 5 ∨ k = 6 := by omega
    rcases h7 with rfl | rfl | rfl | rfl | rfl | rfl | rfl <;> decide
  have iff : nI k ≤ d ↔ nI k - 1 < d := by
    rw [Int32.le_iff_toInt_le, Int32.lt_iff_toInt_lt, e, nI_toInt (by omega)]
    omega
  unfold K_has R_in
  by_cases h0 : d < 0
  · rw [if_pos h0, if_pos h0]
  · rw [if_neg h0, if_neg h0]
    by_cases h1 : nI k ≤ d
    · rw [if_pos h1, if_pos (iff.mp h1)]
    · rw [if_neg h1, if_neg (fun z => h1 (iff.mpr z))]
section OPS
variable {om : OM} {l : Launch} {C T : Nat → Int32} {W U : Nat → Int64} {S : Nat → Nat → Int32} {V : Nat → Nat → Int64} {ns cnt ln po : Int32} {wd : Value} {t nu : Nat → Int32} {I A a v n : Nat → Int32} {J : Nat → Int64}
end OPS
