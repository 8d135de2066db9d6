/-! one call on both sides -/
section OC
variable {om : OM} {l : Launch} {mC mR : MI} {vC vR : List Value} {cs : List Nat} {ex : Nat → String} {C T : Nat → Int32} {W U : Nat → Int64} {S : Nat → Nat → Int32} {V : Nat → Nat → Int64} {ns cnt ln po : Int32} {wd : Value} {t nu : Nat → Int32} {I A a v n : Nat → Int32} {J : Nat → Int64}
theorem EH_22 {h : Hp} : (cH (gR h T U S V ns cnt) ln po wd t nu).2 = h.2 := rfl
theorem e_save (hl : l.stackTraces = false) {h : Hp} (p c : Nat) (hn : ns = nI p) (hc : cnt = nI c) (hp : p < 4) (hc4 : c ≤ 4) (B : Nat × Nat) : Runs om l M_X10_save B 0 (entL 1 [.ref 0]) [] (sH (cH (gR h T U S V ns cnt) ln po wd t nu) 1 C W) (Det none (sH (cH (gR h T U (updS S ((p + 1) % 4) C) (updS V ((p + 1) % 4) W) (nI ((p + 1) % 4)) (nI (min (c + 1) 4))) ln po wd t nu) 1 C W)) := by
  rw [cH_gR, cH_gR]
  exact s_save hl p c hn hc hp hc4
end OC
