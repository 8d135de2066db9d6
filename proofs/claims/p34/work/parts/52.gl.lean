/-! the class: the command text -/
abbrev ctf (ln po : Int32) (wd : Value) : List Value := [.int ln, .ref 41, .int po, wd, .ref 42]
section CT
variable {H : Hp} {ln po : Int32} {wd : Value} {t nu : Nat → Int32}
theorem cH_40 : (cH H ln po wd t nu).1 40 = .inr (0, ctf ln po wd) := rfl
theorem cH_41 : (cH H ln po wd t nu).1 41 = .inl (1, 150, .inl t) := rfl
theorem cH_42 : (cH H ln po wd t nu).1 42 = .inl (0, 5, .inl nu) := rfl
theorem cH_out {j : Nat} (h : j < 40 ∨ 42 < j) : (cH H ln po wd t nu).1 j = H.1 j := by
  show (if j = 40 then _ else if j = 41 then _ else if j = 42 then _ else H.1 j) = H.1 j
  rw [if_neg (by omega), if_neg (by omega), if_neg (by omega)]
variable {om : OM} {l : Launch} {M : MI} {B : Nat × Nat} {pc : Nat} {L : List (Option Value)} {S : List Value} {Post : Out → Hp → Prop}
end CT
