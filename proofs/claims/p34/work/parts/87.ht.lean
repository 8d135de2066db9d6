/-! the law from its entry -/
theorem r_drop {om : OM} {l : Launch} {M : MI} {B : Nat × Nat} {pc : Nat} {L : List (Option Value)} {S : List Value} {h : Hp} {Post : Out → Hp → Prop} (k : Runs om l M B pc L S (h.1, h.2.1, false) Post) : Runs om l M B pc L S h Post := by
  intro p e R s m args below meth c H locs cells slots Q ls C hS hL hc hs KR KX
  exact k p e R s m args below meth c H locs cells slots Q ls C ⟨hS.1, hS.2.1, fun z => by cases z⟩ hL hc hs KR KX
