/-! the class: a command carried out -/
def HC (R : Hp) (ln po : Int32) (wd : Value) (t nu : Nat → Int32) : Prop := R.1 40 = .inr (0, ctf ln po wd) ∧ R.1 41 = .inl (1, 150, .inl t) ∧ R.1 42 = .inl (0, 5, .inl nu)
theorem HC_sH {R : Hp} {C : Nat → Int32} {W : Nat → Int64} {ln po : Int32} {wd : Value} {t nu : Nat → Int32} (h : HC R ln po wd t nu) : HC (sH R 1 C W) ln po wd t nu := ⟨(sH_out (Or.inr (by decide))).trans h.1, (sH_out (Or.inr (by decide))).trans h.2.1, (sH_out (Or.inr (by decide))).trans h.2.2⟩
