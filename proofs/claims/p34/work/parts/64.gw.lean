/-! commands one after another: what is read first, what is carried out -/
section RUN
variable {om : OM} {l : Launch} {B : Nat × Nat} {R : Hp} {C : Nat → Int32} {W : Nat → Int64} {ns cnt ln po : Int32} {wd : Value} {t nu : Nat → Int32}
theorem yH_40 : (sH (cH R ln po wd t nu) 1 C W).1 40 = .inr (0, ctf ln po wd) := (sH_out (Or.inr (by decide))).trans cH_40
end RUN
