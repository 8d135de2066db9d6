/-! the reference's world: object 119, its rows 120 s, 121 aside, 122 saved, 123 text, 124 numbers -/
section RW
variable {h0 : Hp} {I : Nat → Int32} {J : Nat → Int64} {A a v t n : Nat → Int32}
theorem hp_ext {h1 h2 : Hp} (e1 : ∀ j, h1.1 j = h2.1 j) (e2 : h1.2 = h2.2) : h1 = h2 := by
  obtain ⟨f, x⟩ := h1
  obtain ⟨g, y⟩ := h2
  have e3 : f = g := funext e1
  subst e3
  cases e2
  rfl
variable {om : OM} {l : Launch} {M : MI} {B : Nat × Nat} {pc : Nat} {L : List (Option Value)} {S : List Value} {Post : Out → Hp → Prop}
end RW
