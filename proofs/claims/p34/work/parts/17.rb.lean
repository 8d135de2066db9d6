/-! joins of ways -/
section JN
variable {om : OM} {l : Launch} {M : MI} {B : Nat × Nat} {pc : Nat} {L : List (Option Value)} {S S2 : List Value} {h : Hp} {Post : Out → Hp → Prop}
theorem r_join (pj : Nat) (E : Int32) (a : Runs om l M B pj L (.int E :: S) h Post) (b : (∀ w : Int32, w = E → Runs om l M B pj L (.int w :: S) h Post) → Runs om l M B pc L S h Post) : Runs om l M B pc L S h Post := b (fun w e => by rw [e]; exact a)
theorem r_joinH (pj : Nat) (L' : List (Option Value)) (h' : Hp) (a : Runs om l M B pj L' S h' Post) (b : Runs om l M B pj L' S h' Post → Runs om l M B pc L S h Post) : Runs om l M B pc L S h Post := b a
theorem r_wkH {L' : List (Option Value)} {h' : Hp} (k : Runs om l M B pc L' S h' Post) (hw : wk L' L) (hh : h = h') : Runs om l M B pc L S h Post := by subst hh; exact r_wk L' hw k
end JN
theorem mk_at {X : Nat → Int32} {e : Nat} {kd d s : Int32} (h : X 41 = nI e) (hl : e < 15) : R_mk X kd d s = R_makes X e kd d s := by unfold R_mk; rw [cl_nI h (by omega)]
theorem mk_41 {X : Nat → Int32} {e : Nat} {kd d s : Int32} (h : X 41 = nI e) : R_makes X e kd d s 41 = nI (e + 1) := by unfold R_makes; rw [upd_s, mk4_out (by omega), h]; exact (nI_succ e).symm
