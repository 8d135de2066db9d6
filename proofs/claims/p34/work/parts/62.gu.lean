/-! what a command does, by its word: class and reference -/
theorem in1 {x lo hi : Int32} (h : ¬ R_in x lo hi = 0) : R_in x lo hi = 1 := (in01 _ _ _).resolve_left h
