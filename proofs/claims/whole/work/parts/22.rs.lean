/-! the reference's methods that set -/
theorem nar_b {x : Int32} (h : x = 0 ∨ x = 1) : narrow .boolean (.int x) = .int x := by
  rcases h with h | h <;> rw [h] <;> rfl
theorem in01 (x lo hi : Int32) : R_in x lo hi = 0 ∨ R_in x lo hi = 1 := by
  unfold R_in
  split
  · exact Or.inl rfl
  · split
    · exact Or.inl rfl
    · exact Or.inr rfl
theorem in_1 {x lo hi : Int32} (h : R_in x lo hi = 1) : ¬ x < lo ∧ ¬ hi < x := by
  unfold R_in at h
  by_cases h1 : x < lo
  · rw [if_pos h1] at h; exact absurd h (by decide)
  · rw [if_neg h1] at h
    by_cases h2 : hi < x
    · rw [if_pos h2] at h; exact absurd h (by decide)
    · exact ⟨h1, h2⟩
theorem nlt_le {x y : Int32} (h : ¬ x < y) : y ≤ x := Int32.not_lt.mp h
theorem in_ex {x lo hi : Int32} {a b : Nat} (h : R_in x lo hi = 1) (hlo : lo = nI a) (hhi : hi = nI b) (ha : a < 2 ^ 31) (hb : b < 2 ^ 31) : ∃ w, x = nI w ∧ a ≤ w ∧ w ≤ b := by
  obtain ⟨h1, h2⟩ := in_1 h
  have h3 : 0 ≤ x := Int32.le_trans (by rw [hlo]; exact nI_pos' ha) (nlt_le h1)
  obtain ⟨k, hk, e⟩ := nn_ex h3
  refine ⟨k, e, ?_, ?_⟩
  · have := nlt_le h1
    rw [hlo, e] at this
    exact (nI_leI ha hk).mp this
  · have := nlt_le h2
    rw [hhi, e] at this
    exact (nI_leI hk hb).mp this
def R_cThing (d s : Int32) : Int32 := if R_in d 0 10000 = 0 then 0 else if R_in s 1 100 = 0 then 0 else 1
def R_cStir (b u w sp be : Int32) : Int32 := if R_in b 0 6 = 0 then 0 else if R_in u 0 10000 = 0 then 0 else if R_in w 0 10000 = 0 then 0 else if w ≤ u then 0 else if R_in sp 0 359 = 0 then 0 else if R_in be 0 90 = 0 then 0 else 1
def R_least (x : Int32) : Int32 := if x = 2 then 1 else if x < 6 then 0 else if 8 < x then 0 else 1
def R_most (w : Nat) : Int32 := if w = 0 then 100 else if w = 1 then 20 else if w = 2 then 100 else if w = 3 then 20 else if w = 4 then 1 else if w = 5 then 2 else if w = 6 then 9 else if w = 7 then 20 else if w = 8 then 99 else if w = 11 then 500 else 10000
def R_cSet2 (A : Nat → Int32) (x v : Int32) : Int32 := if x = 9 then (if A 22 < v then 0 else 1) else if x = 10 then (if v < A 21 then 0 else 1) else 1
def R_cSet (A : Nat → Int32) (x v : Int32) : Int32 := if R_in x 0 11 = 0 then 0 else if R_in v (R_least x) (R_most (cl x)) = 0 then 0 else R_cSet2 A x v
theorem cs2_01 (A : Nat → Int32) (x v : Int32) : R_cSet2 A x v = 0 ∨ R_cSet2 A x v = 1 := by
  unfold R_cSet2
  repeat' split
  all_goals first | exact Or.inl rfl | exact Or.inr rfl
def R_adds (A : Nat → Int32) (k : Nat) (d s : Int32) : Nat → Int32 := upd (upd (upd A (134 + 2 * k) d) (134 + 2 * k + 1) s) 4 (upd (upd A (134 + 2 * k) d) (134 + 2 * k + 1) s 4 + 1)
def R_stirs (A : Nat → Int32) (b u w sp be : Int32) : Nat → Int32 := upd (upd (upd (upd (upd A 5 b) 6 u) 7 w) 9 sp) 10 be
def R_cut (X : Nat → Int32) : Int32 := if X 31 ≤ X 18 then X 31 else X 18
def R_sets (A : Nat → Int32) (k : Nat) (x : Int32) : Nat → Int32 := upd (upd A (12 + k) x) 31 (R_cut (upd A (12 + k) x))
def R_lrb (k : Nat) (X : Nat → Int32) : Nat → Int32 := if 2 ≤ X (42 + 4 * k) then X else if X 0 < X (42 + 4 * k + 1) then X else upd X (146 + cl (X (42 + 4 * k + 1)) / 20) 1
def R_lr (A : Nat → Int32) : Nat → Int32 := itN R_lrb (cl (R_fires A 41)) (R_fires A)
def R_learns (A : Nat → Int32) (k : Nat) : Nat → Int32 := itN (fun _ X => R_lr X) k A
def R_shb (p : (Nat → Int32) × Int32) : (Nat → Int32) × Int32 := ((R_shot p.1).1, p.2 + R_one (R_shot p.1).2)
def R_shoots (A : Nat → Int32) (k : Nat) : (Nat → Int32) × Int32 := itN (fun _ p => R_shb p) k (A, 0)
theorem s_X11_holds0 {om : OM} {l : Launch} {B : Nat × Nat} {h0 : Hp} {I : Nat → Int32} {J : Nat → Int64} {A a v t n : Nat → Int32} {x p : Int32} (h : x = 0) : Runs om l M_X11_holds B 0 (entL 3 [.ref 119, .int x, .int p]) [] (rH h0 I J A a v t n) (Det (some (.int 0)) (rH h0 (upd I 0 p) J A a v t n)) := by
  subst h
  have h1 := s_X11_holds (om := om) (l := l) (B := B) (h0 := h0) (I := I) (J := J) (A := A) (a := a) (v := v) (t := t) (n := n) 0 p (Or.inl rfl)
  rw [if_pos rfl] at h1
  exact h1
theorem s_X11_holds1 {om : OM} {l : Launch} {B : Nat × Nat} {h0 : Hp} {I : Nat → Int32} {J : Nat → Int64} {A a v t n : Nat → Int32} {x p : Int32} (h : x = 1) : Runs om l M_X11_holds B 0 (entL 3 [.ref 119, .int x, .int p]) [] (rH h0 I J A a v t n) (Det (some (.int 1)) (rH h0 (upd I 0 0) J A a v t n)) := by
  subst h
  have h1 := s_X11_holds (om := om) (l := l) (B := B) (h0 := h0) (I := I) (J := J) (A := A) (a := a) (v := v) (t := t) (n := n) 1 p (Or.inr rfl)
  rw [if_neg (by decide)] at h1
  exact h1
theorem s_X11_canBegin {om : OM} {l : Launch} {B : Nat × Nat} {h0 : Hp} {I : Nat → Int32} {J : Nat → Int64} {A a v t n : Nat → Int32} (hl : l.stackTraces = false) (d : Int32) : Runs om l M_X11_canBegin B 0 (entL 2 [.ref 119, .int d]) [] (rH h0 I J A a v t n) (Det (some (.int (R_in d 500 10000))) (rH h0 I J A a v t n)) := by
  show Runs om l M_X11_canBegin B 0 [some (.ref 119), some (.int d)] [] _ _
  refine r_iload_n (pc := 0) dX11_canBegin_0 rfl rfl ?_
  refine r_sipush (v := 500) (pc := 1) dX11_canBegin_1 (by decide) ?_
  refine r_sipush (v := 10000) (pc := 4) dX11_canBegin_4 (by decide) ?_
  refine q_callS (vs := [.int _, .int _, .int _]) (pc := 7) dX11_canBegin_7 rfl l_RX11_89 rfl ⟨by decide, by decide⟩ rfl (Nat.le_of_ble_eq_true rfl) hl (Nat.le_of_ble_eq_true rfl) (s_X11_in _ _ _) rfl ?_
  exact r_ireturn (S := []) (pc := 10) dX11_canBegin_10 rfl (nar_b (in01 _ _ _)) ⟨rfl, rfl⟩
theorem s_X11_canLevel {om : OM} {l : Launch} {B : Nat × Nat} {h0 : Hp} {I : Nat → Int32} {J : Nat → Int64} {A a v t n : Nat → Int32} (hl : l.stackTraces = false) (d : Int32) : Runs om l M_X11_canLevel B 0 (entL 2 [.ref 119, .int d]) [] (rH h0 I J A a v t n) (Det (some (.int (R_in d 0 (A 0)))) (rH h0 I J A a v t n)) := by
  show Runs om l M_X11_canLevel B 0 [some (.ref 119), some (.int d)] [] _ _
  refine r_iload_n (pc := 0) dX11_canLevel_0 rfl rfl ?_
  refine r_iconst (v := 0) (pc := 1) dX11_canLevel_1 (by decide) ?_
  refine r_aload_n (pc := 2) dX11_canLevel_2 rfl rfl ?_
  refine rs_get (pc := 3) dX11_canLevel_3 rfl f_RX11_7 rfl ?_
  refine r_iconst (v := 0) (pc := 6) dX11_canLevel_6 (by decide) ?_
  refine rs_ld (0) (pc := 7) dX11_canLevel_7 rfl (by omega) ?_
  refine q_callS (vs := [.int _, .int _, .int _]) (pc := 8) dX11_canLevel_8 rfl l_RX11_89 rfl ⟨by decide, by decide⟩ rfl (Nat.le_of_ble_eq_true rfl) hl (Nat.le_of_ble_eq_true rfl) (s_X11_in _ _ _) rfl ?_
  exact r_ireturn (S := []) (pc := 11) dX11_canLevel_11 rfl (nar_b (in01 _ _ _)) ⟨rfl, rfl⟩
theorem s_X11_canFlow {om : OM} {l : Launch} {B : Nat × Nat} {h0 : Hp} {I : Nat → Int32} {J : Nat → Int64} {A a v t n : Nat → Int32} (hl : l.stackTraces = false) (d : Int32) : Runs om l M_X11_canFlow B 0 (entL 2 [.ref 119, .int d]) [] (rH h0 I J A a v t n) (Det (some (.int (R_in d (-200) 200))) (rH h0 I J A a v t n)) := by
  show Runs om l M_X11_canFlow B 0 [some (.ref 119), some (.int d)] [] _ _
  refine r_iload_n (pc := 0) dX11_canFlow_0 rfl rfl ?_
  refine r_sipush (v := (-200)) (pc := 1) dX11_canFlow_1 (by decide) ?_
  refine r_sipush (v := 200) (pc := 4) dX11_canFlow_4 (by decide) ?_
  refine q_callS (vs := [.int _, .int _, .int _]) (pc := 7) dX11_canFlow_7 rfl l_RX11_89 rfl ⟨by decide, by decide⟩ rfl (Nat.le_of_ble_eq_true rfl) hl (Nat.le_of_ble_eq_true rfl) (s_X11_in _ _ _) rfl ?_
  exact r_ireturn (S := []) (pc := 10) dX11_canFlow_10 rfl (nar_b (in01 _ _ _)) ⟨rfl, rfl⟩
theorem s_X11_canFoam {om : OM} {l : Launch} {B : Nat × Nat} {h0 : Hp} {I : Nat → Int32} {J : Nat → Int64} {A a v t n : Nat → Int32} (hl : l.stackTraces = false) (d : Int32) : Runs om l M_X11_canFoam B 0 (entL 2 [.ref 119, .int d]) [] (rH h0 I J A a v t n) (Det (some (.int (R_in d 0 500))) (rH h0 I J A a v t n)) := by
  show Runs om l M_X11_canFoam B 0 [some (.ref 119), some (.int d)] [] _ _
  refine r_iload_n (pc := 0) dX11_canFoam_0 rfl rfl ?_
  refine r_iconst (v := 0) (pc := 1) dX11_canFoam_1 (by decide) ?_
  refine r_sipush (v := 500) (pc := 2) dX11_canFoam_2 (by decide) ?_
  refine q_callS (vs := [.int _, .int _, .int _]) (pc := 5) dX11_canFoam_5 rfl l_RX11_89 rfl ⟨by decide, by decide⟩ rfl (Nat.le_of_ble_eq_true rfl) hl (Nat.le_of_ble_eq_true rfl) (s_X11_in _ _ _) rfl ?_
  exact r_ireturn (S := []) (pc := 8) dX11_canFoam_8 rfl (nar_b (in01 _ _ _)) ⟨rfl, rfl⟩
theorem s_X11_isThing {om : OM} {l : Launch} {B : Nat × Nat} {h0 : Hp} {I : Nat → Int32} {J : Nat → Int64} {A a v t n : Nat → Int32} (hl : l.stackTraces = false) (d : Int32) : Runs om l M_X11_isThing B 0 (entL 2 [.ref 119, .int d]) [] (rH h0 I J A a v t n) (Det (some (.int (R_in d 0 (A 4 - 1)))) (rH h0 I J A a v t n)) := by
  show Runs om l M_X11_isThing B 0 [some (.ref 119), some (.int d)] [] _ _
  refine r_iload_n (pc := 0) dX11_isThing_0 rfl rfl ?_
  refine r_iconst (v := 0) (pc := 1) dX11_isThing_1 (by decide) ?_
  refine r_aload_n (pc := 2) dX11_isThing_2 rfl rfl ?_
  refine rs_get (pc := 3) dX11_isThing_3 rfl f_RX11_7 rfl ?_
  refine r_iconst (v := 4) (pc := 6) dX11_isThing_6 (by decide) ?_
  refine rs_ld (4) (pc := 7) dX11_isThing_7 rfl (by omega) ?_
  refine r_iconst (v := 1) (pc := 8) dX11_isThing_8 (by decide) ?_
  refine r_isub (pc := 9) dX11_isThing_9 ?_
  refine q_callS (vs := [.int _, .int _, .int _]) (pc := 10) dX11_isThing_10 rfl l_RX11_89 rfl ⟨by decide, by decide⟩ rfl (Nat.le_of_ble_eq_true rfl) hl (Nat.le_of_ble_eq_true rfl) (s_X11_in _ _ _) rfl ?_
  exact r_ireturn (S := []) (pc := 13) dX11_isThing_13 rfl (nar_b (in01 _ _ _)) ⟨rfl, rfl⟩
theorem s_X11_canLearn {om : OM} {l : Launch} {B : Nat × Nat} {h0 : Hp} {I : Nat → Int32} {J : Nat → Int64} {A a v t n : Nat → Int32} (hl : l.stackTraces = false) (d : Int32) : Runs om l M_X11_canLearn B 0 (entL 1 [.int d]) [] (rH h0 I J A a v t n) (Det (some (.int (R_in d 1 50))) (rH h0 I J A a v t n)) := by
  show Runs om l M_X11_canLearn B 0 [some (.int d)] [] _ _
  refine r_iload_n (pc := 0) dX11_canLearn_0 rfl rfl ?_
  refine r_iconst (v := 1) (pc := 1) dX11_canLearn_1 (by decide) ?_
  refine r_bipush (v := 50) (pc := 2) dX11_canLearn_2 (by decide) ?_
  refine q_callS (vs := [.int _, .int _, .int _]) (pc := 4) dX11_canLearn_4 rfl l_RX11_89 rfl ⟨by decide, by decide⟩ rfl (Nat.le_of_ble_eq_true rfl) hl (Nat.le_of_ble_eq_true rfl) (s_X11_in _ _ _) rfl ?_
  exact r_ireturn (S := []) (pc := 7) dX11_canLearn_7 rfl (nar_b (in01 _ _ _)) ⟨rfl, rfl⟩
theorem s_X11_canShoot {om : OM} {l : Launch} {B : Nat × Nat} {h0 : Hp} {I : Nat → Int32} {J : Nat → Int64} {A a v t n : Nat → Int32} (hl : l.stackTraces = false) (d : Int32) : Runs om l M_X11_canShoot B 0 (entL 1 [.int d]) [] (rH h0 I J A a v t n) (Det (some (.int (R_in d 1 500))) (rH h0 I J A a v t n)) := by
  show Runs om l M_X11_canShoot B 0 [some (.int d)] [] _ _
  refine r_iload_n (pc := 0) dX11_canShoot_0 rfl rfl ?_
  refine r_iconst (v := 1) (pc := 1) dX11_canShoot_1 (by decide) ?_
  refine r_sipush (v := 500) (pc := 2) dX11_canShoot_2 (by decide) ?_
  refine q_callS (vs := [.int _, .int _, .int _]) (pc := 5) dX11_canShoot_5 rfl l_RX11_89 rfl ⟨by decide, by decide⟩ rfl (Nat.le_of_ble_eq_true rfl) hl (Nat.le_of_ble_eq_true rfl) (s_X11_in _ _ _) rfl ?_
  exact r_ireturn (S := []) (pc := 8) dX11_canShoot_8 rfl (nar_b (in01 _ _ _)) ⟨rfl, rfl⟩
theorem s_X11_canThing {om : OM} {l : Launch} {B : Nat × Nat} {h0 : Hp} {I : Nat → Int32} {J : Nat → Int64} {A a v t n : Nat → Int32} (hl : l.stackTraces = false) (d s : Int32) : Runs om l M_X11_canThing B 0 (entL 3 [.ref 119, .int d, .int s]) [] (rH h0 I J A a v t n) (Det (some (.int (R_cThing d s))) (rH h0 I J A a v t n)) := by
  show Runs om l M_X11_canThing B 0 [some (.ref 119), some (.int d), some (.int s)] [] _ _
  refine r_iload_n (pc := 0) dX11_canThing_0 rfl rfl ?_
  refine r_iconst (v := 0) (pc := 1) dX11_canThing_1 (by decide) ?_
  refine r_sipush (v := 10000) (pc := 2) dX11_canThing_2 (by decide) ?_
  refine q_callS (vs := [.int _, .int _, .int _]) (pc := 5) dX11_canThing_5 rfl l_RX11_89 rfl ⟨by decide, by decide⟩ rfl (Nat.le_of_ble_eq_true rfl) hl (Nat.le_of_ble_eq_true rfl) (s_X11_in _ _ _) rfl ?_
  refine r_if_eq 25 (pc := 8) dX11_canThing_8 (by decide) (fun c8 => ?_) (fun c8 => ?_)
  · refine r_iconst (v := 0) (pc := 25) dX11_canThing_25 (by decide) ?_
    exact r_ireturn (S := []) (pc := 26) dX11_canThing_26 rfl rfl ⟨by rw [R_cThing]; (repeat (first | rw [if_pos (by assumption)] | rw [if_neg (by assumption)])), rfl⟩
  · refine r_iload_n (pc := 11) dX11_canThing_11 rfl rfl ?_
    refine r_iconst (v := 1) (pc := 12) dX11_canThing_12 (by decide) ?_
    refine r_bipush (v := 100) (pc := 13) dX11_canThing_13 (by decide) ?_
    refine q_callS (vs := [.int _, .int _, .int _]) (pc := 15) dX11_canThing_15 rfl l_RX11_89 rfl ⟨by decide, by decide⟩ rfl (Nat.le_of_ble_eq_true rfl) hl (Nat.le_of_ble_eq_true rfl) (s_X11_in _ _ _) rfl ?_
    refine r_if_eq 25 (pc := 18) dX11_canThing_18 (by decide) (fun c18 => ?_) (fun c18 => ?_)
    · refine r_iconst (v := 0) (pc := 25) dX11_canThing_25 (by decide) ?_
      exact r_ireturn (S := []) (pc := 26) dX11_canThing_26 rfl rfl ⟨by rw [R_cThing]; (repeat (first | rw [if_pos (by assumption)] | rw [if_neg (by assumption)])), rfl⟩
    · refine r_iconst (v := 1) (pc := 21) dX11_canThing_21 (by decide) ?_
      refine r_goto 26 (pc := 22) dX11_canThing_22 (by decide) ?_
      exact r_ireturn (S := []) (pc := 26) dX11_canThing_26 rfl rfl ⟨by rw [R_cThing]; (repeat (first | rw [if_pos (by assumption)] | rw [if_neg (by assumption)])), rfl⟩
theorem s_X11_canStir {om : OM} {l : Launch} {B : Nat × Nat} {h0 : Hp} {I : Nat → Int32} {J : Nat → Int64} {A a v t n : Nat → Int32} (hl : l.stackTraces = false) (b u x sp be : Int32) : Runs om l M_X11_canStir B 0 (entL 6 [.ref 119, .int b, .int u, .int x, .int sp, .int be]) [] (rH h0 I J A a v t n) (Det (some (.int (R_cStir b u x sp be))) (rH h0 I J A a v t n)) := by
  show Runs om l M_X11_canStir B 0 [some (.ref 119), some (.int b), some (.int u), some (.int x), some (.int sp), some (.int be)] [] _ _
  refine r_iload_n (pc := 0) dX11_canStir_0 rfl rfl ?_
  refine r_iconst (v := 0) (pc := 1) dX11_canStir_1 (by decide) ?_
  refine r_bipush (v := 6) (pc := 2) dX11_canStir_2 (by decide) ?_
  refine q_callS (vs := [.int _, .int _, .int _]) (pc := 4) dX11_canStir_4 rfl l_RX11_89 rfl ⟨by decide, by decide⟩ rfl (Nat.le_of_ble_eq_true rfl) hl (Nat.le_of_ble_eq_true rfl) (s_X11_in _ _ _) rfl ?_
  refine r_if_eq 64 (pc := 7) dX11_canStir_7 (by decide) (fun c7 => ?_) (fun c7 => ?_)
  · refine r_iconst (v := 0) (pc := 64) dX11_canStir_64 (by decide) ?_
    exact r_ireturn (S := []) (pc := 65) dX11_canStir_65 rfl rfl ⟨by rw [R_cStir]; (repeat (first | rw [if_pos (by assumption)] | rw [if_neg (by assumption)])), rfl⟩
  · refine r_iload_n (pc := 10) dX11_canStir_10 rfl rfl ?_
    refine r_iconst (v := 0) (pc := 11) dX11_canStir_11 (by decide) ?_
    refine r_sipush (v := 10000) (pc := 12) dX11_canStir_12 (by decide) ?_
    refine q_callS (vs := [.int _, .int _, .int _]) (pc := 15) dX11_canStir_15 rfl l_RX11_89 rfl ⟨by decide, by decide⟩ rfl (Nat.le_of_ble_eq_true rfl) hl (Nat.le_of_ble_eq_true rfl) (s_X11_in _ _ _) rfl ?_
    refine r_if_eq 64 (pc := 18) dX11_canStir_18 (by decide) (fun c18 => ?_) (fun c18 => ?_)
    · refine r_iconst (v := 0) (pc := 64) dX11_canStir_64 (by decide) ?_
      exact r_ireturn (S := []) (pc := 65) dX11_canStir_65 rfl rfl ⟨by rw [R_cStir]; (repeat (first | rw [if_pos (by assumption)] | rw [if_neg (by assumption)])), rfl⟩
    · refine r_iload_n (pc := 21) dX11_canStir_21 rfl rfl ?_
      refine r_iconst (v := 0) (pc := 22) dX11_canStir_22 (by decide) ?_
      refine r_sipush (v := 10000) (pc := 23) dX11_canStir_23 (by decide) ?_
      refine q_callS (vs := [.int _, .int _, .int _]) (pc := 26) dX11_canStir_26 rfl l_RX11_89 rfl ⟨by decide, by decide⟩ rfl (Nat.le_of_ble_eq_true rfl) hl (Nat.le_of_ble_eq_true rfl) (s_X11_in _ _ _) rfl ?_
      refine r_if_eq 64 (pc := 29) dX11_canStir_29 (by decide) (fun c29 => ?_) (fun c29 => ?_)
      · refine r_iconst (v := 0) (pc := 64) dX11_canStir_64 (by decide) ?_
        exact r_ireturn (S := []) (pc := 65) dX11_canStir_65 rfl rfl ⟨by rw [R_cStir]; (repeat (first | rw [if_pos (by assumption)] | rw [if_neg (by assumption)])), rfl⟩
      · refine r_iload_n (pc := 32) dX11_canStir_32 rfl rfl ?_
        refine r_iload_n (pc := 33) dX11_canStir_33 rfl rfl ?_
        refine r_icmp_le 64 (pc := 34) dX11_canStir_34 (by decide) (fun c34 => ?_) (fun c34 => ?_)
        · refine r_iconst (v := 0) (pc := 64) dX11_canStir_64 (by decide) ?_
          exact r_ireturn (S := []) (pc := 65) dX11_canStir_65 rfl rfl ⟨by rw [R_cStir]; (repeat (first | rw [if_pos (by assumption)] | rw [if_neg (by assumption)])), rfl⟩
        · refine r_iload (pc := 37) dX11_canStir_37 rfl ?_
          refine r_iconst (v := 0) (pc := 39) dX11_canStir_39 (by decide) ?_
          refine r_sipush (v := 359) (pc := 40) dX11_canStir_40 (by decide) ?_
          refine q_callS (vs := [.int _, .int _, .int _]) (pc := 43) dX11_canStir_43 rfl l_RX11_89 rfl ⟨by decide, by decide⟩ rfl (Nat.le_of_ble_eq_true rfl) hl (Nat.le_of_ble_eq_true rfl) (s_X11_in _ _ _) rfl ?_
          refine r_if_eq 64 (pc := 46) dX11_canStir_46 (by decide) (fun c46 => ?_) (fun c46 => ?_)
          · refine r_iconst (v := 0) (pc := 64) dX11_canStir_64 (by decide) ?_
            exact r_ireturn (S := []) (pc := 65) dX11_canStir_65 rfl rfl ⟨by rw [R_cStir]; (repeat (first | rw [if_pos (by assumption)] | rw [if_neg (by assumption)])), rfl⟩
          · refine r_iload (pc := 49) dX11_canStir_49 rfl ?_
            refine r_iconst (v := 0) (pc := 51) dX11_canStir_51 (by decide) ?_
            refine r_bipush (v := 90) (pc := 52) dX11_canStir_52 (by decide) ?_
            refine q_callS (vs := [.int _, .int _, .int _]) (pc := 54) dX11_canStir_54 rfl l_RX11_89 rfl ⟨by decide, by decide⟩ rfl (Nat.le_of_ble_eq_true rfl) hl (Nat.le_of_ble_eq_true rfl) (s_X11_in _ _ _) rfl ?_
            refine r_if_eq 64 (pc := 57) dX11_canStir_57 (by decide) (fun c57 => ?_) (fun c57 => ?_)
            · refine r_iconst (v := 0) (pc := 64) dX11_canStir_64 (by decide) ?_
              exact r_ireturn (S := []) (pc := 65) dX11_canStir_65 rfl rfl ⟨by rw [R_cStir]; (repeat (first | rw [if_pos (by assumption)] | rw [if_neg (by assumption)])), rfl⟩
            · refine r_iconst (v := 1) (pc := 60) dX11_canStir_60 (by decide) ?_
              refine r_goto 65 (pc := 61) dX11_canStir_61 (by decide) ?_
              exact r_ireturn (S := []) (pc := 65) dX11_canStir_65 rfl rfl ⟨by rw [R_cStir]; (repeat (first | rw [if_pos (by assumption)] | rw [if_neg (by assumption)])), rfl⟩
theorem s_X11_least {om : OM} {l : Launch} {B : Nat × Nat} {h0 : Hp} {I : Nat → Int32} {J : Nat → Int64} {A a v t n : Nat → Int32} (hl : l.stackTraces = false) (x : Int32) : Runs om l M_X11_least B 0 (entL 1 [.int x]) [] (rH h0 I J A a v t n) (Det (some (.int (R_least x))) (rH h0 I J A a v t n)) := by
  show Runs om l M_X11_least B 0 [some (.int x)] [] _ _
  refine r_iload_n (pc := 0) dX11_least_0 rfl rfl ?_
  refine r_iconst (v := 2) (pc := 1) dX11_least_1 (by decide) ?_
  refine r_icmp_eq 17 (pc := 2) dX11_least_2 (by decide) (fun c2 => ?_) (fun c2 => ?_)
  · refine r_iconst (v := 1) (pc := 17) dX11_least_17 (by decide) ?_
    refine r_goto 22 (pc := 18) dX11_least_18 (by decide) ?_
    exact r_ireturn (S := []) (pc := 22) dX11_least_22 rfl rfl ⟨by rw [R_least]; (repeat (first | rw [if_pos (by assumption)] | rw [if_neg (by assumption)])), rfl⟩
  · refine r_iload_n (pc := 5) dX11_least_5 rfl rfl ?_
    refine r_bipush (v := 6) (pc := 6) dX11_least_6 (by decide) ?_
    refine r_icmp_lt 21 (pc := 8) dX11_least_8 (by decide) (fun c8 => ?_) (fun c8 => ?_)
    · refine r_iconst (v := 0) (pc := 21) dX11_least_21 (by decide) ?_
      exact r_ireturn (S := []) (pc := 22) dX11_least_22 rfl rfl ⟨by rw [R_least]; (repeat (first | rw [if_pos (by assumption)] | rw [if_neg (by assumption)])), rfl⟩
    · refine r_iload_n (pc := 11) dX11_least_11 rfl rfl ?_
      refine r_bipush (v := 8) (pc := 12) dX11_least_12 (by decide) ?_
      refine r_icmp_gt 21 (pc := 14) dX11_least_14 (by decide) (fun c14 => ?_) (fun c14 => ?_)
      · refine r_iconst (v := 0) (pc := 21) dX11_least_21 (by decide) ?_
        exact r_ireturn (S := []) (pc := 22) dX11_least_22 rfl rfl ⟨by rw [R_least]; (repeat (first | rw [if_pos (by assumption)] | rw [if_neg (by assumption)])), rfl⟩
      · refine r_iconst (v := 1) (pc := 17) dX11_least_17 (by decide) ?_
        refine r_goto 22 (pc := 18) dX11_least_18 (by decide) ?_
        exact r_ireturn (S := []) (pc := 22) dX11_least_22 rfl rfl ⟨by rw [R_least]; (repeat (first | rw [if_pos (by assumption)] | rw [if_neg (by assumption)])), rfl⟩
theorem s_X11_most {om : OM} {l : Launch} {B : Nat × Nat} {h0 : Hp} {I : Nat → Int32} {J : Nat → Int64} {A a v t n : Nat → Int32} (k : Nat) (x : Int32) (hx : x = nI k) (hk : k ≤ 11) : Runs om l M_X11_most B 0 (entL 1 [.int x]) [] (rH h0 I J A a v t n) (Det (some (.int (R_most k))) (rH h0 I J A a v t n)) := by
  subst hx
  have hk' : k = 0 ∨ k = 1 ∨ k = 2 ∨ k = 3 ∨ k = 4 ∨ k = 5 ∨ k = 6 ∨ k = 7 ∨ k = 8 ∨ k = 9 ∨ k = 10 ∨ k = 11 := by omega
  rcases hk' with rfl | rfl | rfl | rfl | rfl | rfl | rfl | rfl | rfl | rfl | rfl | rfl
  · show Runs om l M_X11_most B 0 [some (.int 0)] [] _ _
    refine r_iload_n (pc := 0) dX11_most_0 rfl rfl ?_
    refine r_tableIn 64 (pc := 1) dX11_most_1 (by decide) (by decide) rfl (by decide) ?_
    refine r_bipush (v := 100) (pc := 64) dX11_most_64 (by decide) ?_
    exact r_ireturn (S := []) (pc := 66) dX11_most_66 rfl rfl ⟨rfl, rfl⟩
  · show Runs om l M_X11_most B 0 [some (.int 1)] [] _ _
    refine r_iload_n (pc := 0) dX11_most_0 rfl rfl ?_
    refine r_tableIn 67 (pc := 1) dX11_most_1 (by decide) (by decide) rfl (by decide) ?_
    refine r_bipush (v := 20) (pc := 67) dX11_most_67 (by decide) ?_
    exact r_ireturn (S := []) (pc := 69) dX11_most_69 rfl rfl ⟨rfl, rfl⟩
  · show Runs om l M_X11_most B 0 [some (.int 2)] [] _ _
    refine r_iload_n (pc := 0) dX11_most_0 rfl rfl ?_
    refine r_tableIn 64 (pc := 1) dX11_most_1 (by decide) (by decide) rfl (by decide) ?_
    refine r_bipush (v := 100) (pc := 64) dX11_most_64 (by decide) ?_
    exact r_ireturn (S := []) (pc := 66) dX11_most_66 rfl rfl ⟨rfl, rfl⟩
  · show Runs om l M_X11_most B 0 [some (.int 3)] [] _ _
    refine r_iload_n (pc := 0) dX11_most_0 rfl rfl ?_
    refine r_tableIn 67 (pc := 1) dX11_most_1 (by decide) (by decide) rfl (by decide) ?_
    refine r_bipush (v := 20) (pc := 67) dX11_most_67 (by decide) ?_
    exact r_ireturn (S := []) (pc := 69) dX11_most_69 rfl rfl ⟨rfl, rfl⟩
  · show Runs om l M_X11_most B 0 [some (.int 4)] [] _ _
    refine r_iload_n (pc := 0) dX11_most_0 rfl rfl ?_
    refine r_tableIn 70 (pc := 1) dX11_most_1 (by decide) (by decide) rfl (by decide) ?_
    refine r_iconst (v := 1) (pc := 70) dX11_most_70 (by decide) ?_
    exact r_ireturn (S := []) (pc := 71) dX11_most_71 rfl rfl ⟨rfl, rfl⟩
  · show Runs om l M_X11_most B 0 [some (.int 5)] [] _ _
    refine r_iload_n (pc := 0) dX11_most_0 rfl rfl ?_
    refine r_tableIn 72 (pc := 1) dX11_most_1 (by decide) (by decide) rfl (by decide) ?_
    refine r_iconst (v := 2) (pc := 72) dX11_most_72 (by decide) ?_
    exact r_ireturn (S := []) (pc := 73) dX11_most_73 rfl rfl ⟨rfl, rfl⟩
  · show Runs om l M_X11_most B 0 [some (.int 6)] [] _ _
    refine r_iload_n (pc := 0) dX11_most_0 rfl rfl ?_
    refine r_tableIn 74 (pc := 1) dX11_most_1 (by decide) (by decide) rfl (by decide) ?_
    refine r_bipush (v := 9) (pc := 74) dX11_most_74 (by decide) ?_
    exact r_ireturn (S := []) (pc := 76) dX11_most_76 rfl rfl ⟨rfl, rfl⟩
  · show Runs om l M_X11_most B 0 [some (.int 7)] [] _ _
    refine r_iload_n (pc := 0) dX11_most_0 rfl rfl ?_
    refine r_tableIn 67 (pc := 1) dX11_most_1 (by decide) (by decide) rfl (by decide) ?_
    refine r_bipush (v := 20) (pc := 67) dX11_most_67 (by decide) ?_
    exact r_ireturn (S := []) (pc := 69) dX11_most_69 rfl rfl ⟨rfl, rfl⟩
  · show Runs om l M_X11_most B 0 [some (.int 8)] [] _ _
    refine r_iload_n (pc := 0) dX11_most_0 rfl rfl ?_
    refine r_tableIn 77 (pc := 1) dX11_most_1 (by decide) (by decide) rfl (by decide) ?_
    refine r_bipush (v := 99) (pc := 77) dX11_most_77 (by decide) ?_
    exact r_ireturn (S := []) (pc := 79) dX11_most_79 rfl rfl ⟨rfl, rfl⟩
  · show Runs om l M_X11_most B 0 [some (.int 9)] [] _ _
    refine r_iload_n (pc := 0) dX11_most_0 rfl rfl ?_
    refine r_tableIn 84 (pc := 1) dX11_most_1 (by decide) (by decide) rfl (by decide) ?_
    refine r_sipush (v := 10000) (pc := 84) dX11_most_84 (by decide) ?_
    exact r_ireturn (S := []) (pc := 87) dX11_most_87 rfl rfl ⟨rfl, rfl⟩
  · show Runs om l M_X11_most B 0 [some (.int 10)] [] _ _
    refine r_iload_n (pc := 0) dX11_most_0 rfl rfl ?_
    refine r_tableIn 84 (pc := 1) dX11_most_1 (by decide) (by decide) rfl (by decide) ?_
    refine r_sipush (v := 10000) (pc := 84) dX11_most_84 (by decide) ?_
    exact r_ireturn (S := []) (pc := 87) dX11_most_87 rfl rfl ⟨rfl, rfl⟩
  · show Runs om l M_X11_most B 0 [some (.int 11)] [] _ _
    refine r_iload_n (pc := 0) dX11_most_0 rfl rfl ?_
    refine r_tableIn 80 (pc := 1) dX11_most_1 (by decide) (by decide) rfl (by decide) ?_
    refine r_sipush (v := 500) (pc := 80) dX11_most_80 (by decide) ?_
    exact r_ireturn (S := []) (pc := 83) dX11_most_83 rfl rfl ⟨rfl, rfl⟩
theorem s_X11_canSet {om : OM} {l : Launch} {B : Nat × Nat} {h0 : Hp} {I : Nat → Int32} {J : Nat → Int64} {A a v t n : Nat → Int32} (hl : l.stackTraces = false) (x d : Int32) : Runs om l M_X11_canSet B 0 (entL 3 [.ref 119, .int x, .int d]) [] (rH h0 I J A a v t n) (Det (some (.int (R_cSet A x d))) (rH h0 I J A a v t n)) := by
  show Runs om l M_X11_canSet B 0 [some (.ref 119), some (.int x), some (.int d)] [] _ _
  refine r_iload_n (pc := 0) dX11_canSet_0 rfl rfl ?_
  refine r_iconst (v := 0) (pc := 1) dX11_canSet_1 (by decide) ?_
  refine r_bipush (v := 11) (pc := 2) dX11_canSet_2 (by decide) ?_
  refine q_callS (vs := [.int _, .int _, .int _]) (pc := 4) dX11_canSet_4 rfl l_RX11_89 rfl ⟨by decide, by decide⟩ rfl (Nat.le_of_ble_eq_true rfl) hl (Nat.le_of_ble_eq_true rfl) (s_X11_in _ _ _) rfl ?_
  refine r_if_eq 25 (pc := 7) dX11_canSet_7 (by decide) (fun c7 => ?_) (fun c7 => ?_)
  · refine r_iconst (v := 0) (pc := 25) dX11_canSet_25 (by decide) ?_
    exact r_ireturn (S := []) (pc := 26) dX11_canSet_26 rfl rfl ⟨by rw [R_cSet]; (try rw [hcl]); (repeat (first | rw [if_pos (by assumption)] | rw [if_neg (by assumption)])), rfl⟩
  · obtain ⟨k, hk, -, hk1⟩ := in_ex (a := 0) (b := 11) ((in01 x 0 11).resolve_left c7) rfl rfl (by omega) (by omega)
    have hcl : cl x = k := cl_nI hk (by omega)
    refine r_iload_n (pc := 10) dX11_canSet_10 rfl rfl ?_
    refine r_iload_n (pc := 11) dX11_canSet_11 rfl rfl ?_
    refine q_callS (vs := [.int _]) (pc := 12) dX11_canSet_12 rfl l_RX11_163 rfl ⟨by decide, by decide⟩ rfl (Nat.le_of_ble_eq_true rfl) hl (Nat.le_of_ble_eq_true rfl) (s_X11_least hl _) rfl ?_
    refine r_iload_n (pc := 15) dX11_canSet_15 rfl rfl ?_
    refine q_callS (vs := [.int _]) (pc := 16) dX11_canSet_16 rfl l_RX11_166 rfl ⟨by decide, by decide⟩ rfl (Nat.le_of_ble_eq_true rfl) hl (Nat.le_of_ble_eq_true rfl) (s_X11_most k x hk hk1) rfl ?_
    refine q_callS (vs := [.int _, .int _, .int _]) (pc := 19) dX11_canSet_19 rfl l_RX11_89 rfl ⟨by decide, by decide⟩ rfl (Nat.le_of_ble_eq_true rfl) hl (Nat.le_of_ble_eq_true rfl) (s_X11_in _ _ _) rfl ?_
    refine r_if_ne 27 (pc := 22) dX11_canSet_22 (by decide) (fun c22 => ?_) (fun c22 => ?_)
    · refine r_join 74 (R_cSet2 A x d) ?_ (fun J27 => ?_)
      · exact r_ireturn (S := []) (pc := 74) dX11_canSet_74 rfl (nar_b (cs2_01 _ _ _)) ⟨by rw [R_cSet]; (try rw [hcl]); (repeat (first | rw [if_pos (by assumption)] | rw [if_neg (by assumption)])), rfl⟩
      · refine r_iload_n (pc := 27) dX11_canSet_27 rfl rfl ?_
        refine r_bipush (v := 9) (pc := 28) dX11_canSet_28 (by decide) ?_
        refine r_icmp_ne 52 (pc := 30) dX11_canSet_30 (by decide) (fun c30 => ?_) (fun c30 => ?_)
        · refine r_iload_n (pc := 52) dX11_canSet_52 rfl rfl ?_
          refine r_bipush (v := 10) (pc := 53) dX11_canSet_53 (by decide) ?_
          refine r_icmp_ne 69 (pc := 55) dX11_canSet_55 (by decide) (fun c55 => ?_) (fun c55 => ?_)
          · refine r_iconst (v := 1) (pc := 69) dX11_canSet_69 (by decide) ?_
            refine r_goto 74 (pc := 70) dX11_canSet_70 (by decide) ?_
            exact J27 _ (by rw [R_cSet2]; (repeat (first | rw [if_pos (by assumption)] | rw [if_neg (by assumption)])))
          · refine r_iload_n (pc := 58) dX11_canSet_58 rfl rfl ?_
            refine r_aload_n (pc := 59) dX11_canSet_59 rfl rfl ?_
            refine rs_get (pc := 60) dX11_canSet_60 rfl f_RX11_7 rfl ?_
            refine r_bipush (v := 21) (pc := 63) dX11_canSet_63 (by decide) ?_
            refine rs_ld (21) (pc := 65) dX11_canSet_65 rfl (by omega) ?_
            refine r_icmp_lt 73 (pc := 66) dX11_canSet_66 (by decide) (fun c66 => ?_) (fun c66 => ?_)
            · refine r_iconst (v := 0) (pc := 73) dX11_canSet_73 (by decide) ?_
              exact J27 _ (by rw [R_cSet2]; (repeat (first | rw [if_pos (by assumption)] | rw [if_neg (by assumption)])))
            · refine r_iconst (v := 1) (pc := 69) dX11_canSet_69 (by decide) ?_
              refine r_goto 74 (pc := 70) dX11_canSet_70 (by decide) ?_
              exact J27 _ (by rw [R_cSet2]; (repeat (first | rw [if_pos (by assumption)] | rw [if_neg (by assumption)])))
        · refine r_iload_n (pc := 33) dX11_canSet_33 rfl rfl ?_
          refine r_aload_n (pc := 34) dX11_canSet_34 rfl rfl ?_
          refine rs_get (pc := 35) dX11_canSet_35 rfl f_RX11_7 rfl ?_
          refine r_bipush (v := 22) (pc := 38) dX11_canSet_38 (by decide) ?_
          refine rs_ld (22) (pc := 40) dX11_canSet_40 rfl (by omega) ?_
          refine r_icmp_gt 48 (pc := 41) dX11_canSet_41 (by decide) (fun c41 => ?_) (fun c41 => ?_)
          · refine r_iconst (v := 0) (pc := 48) dX11_canSet_48 (by decide) ?_
            refine r_goto 74 (pc := 49) dX11_canSet_49 (by decide) ?_
            exact J27 _ (by rw [R_cSet2]; (repeat (first | rw [if_pos (by assumption)] | rw [if_neg (by assumption)])))
          · refine r_iconst (v := 1) (pc := 44) dX11_canSet_44 (by decide) ?_
            refine r_goto 74 (pc := 45) dX11_canSet_45 (by decide) ?_
            exact J27 _ (by rw [R_cSet2]; (repeat (first | rw [if_pos (by assumption)] | rw [if_neg (by assumption)])))
    · refine r_iconst (v := 0) (pc := 25) dX11_canSet_25 (by decide) ?_
      exact r_ireturn (S := []) (pc := 26) dX11_canSet_26 rfl rfl ⟨by rw [R_cSet]; (try rw [hcl]); (repeat (first | rw [if_pos (by assumption)] | rw [if_neg (by assumption)])), rfl⟩
theorem s_X11_adds {om : OM} {l : Launch} {B : Nat × Nat} {h0 : Hp} {I : Nat → Int32} {J : Nat → Int64} {A a v t n : Nat → Int32} (k : Nat) (h4 : A 4 = nI k) (hk : k < 6) (d s : Int32) : Runs om l M_X11_adds B 0 (entL 3 [.ref 119, .int d, .int s]) [] (rH h0 I J A a v t n) (Det (none) (rH h0 I J (R_adds A k d s) a v t n)) := by
  show Runs om l M_X11_adds B 0 [some (.ref 119), some (.int d), some (.int s)] [] _ _
  refine r_aload_n (pc := 0) dX11_adds_0 rfl rfl ?_
  refine rs_get (pc := 1) dX11_adds_1 rfl f_RX11_7 rfl ?_
  refine r_sipush (v := 134) (pc := 4) dX11_adds_4 (by decide) ?_
  refine r_iconst (v := 2) (pc := 7) dX11_adds_7 (by decide) ?_
  refine r_aload_n (pc := 8) dX11_adds_8 rfl rfl ?_
  refine rs_get (pc := 9) dX11_adds_9 rfl f_RX11_7 rfl ?_
  refine r_iconst (v := 4) (pc := 12) dX11_adds_12 (by decide) ?_
  refine rs_ld (4) (pc := 13) dX11_adds_13 rfl (by omega) ?_
  refine r_imul (pc := 14) dX11_adds_14 ?_
  refine r_iadd (pc := 15) dX11_adds_15 ?_
  refine r_iload_n (pc := 16) dX11_adds_16 rfl rfl ?_
  refine rs_st (134 + (2 * k)) (pc := 17) dX11_adds_17 (nadd rfl (nmul rfl h4)) (by omega) ?_
  refine r_aload_n (pc := 18) dX11_adds_18 rfl rfl ?_
  refine rs_get (pc := 19) dX11_adds_19 rfl f_RX11_7 rfl ?_
  refine r_sipush (v := 134) (pc := 22) dX11_adds_22 (by decide) ?_
  refine r_iconst (v := 2) (pc := 25) dX11_adds_25 (by decide) ?_
  refine r_aload_n (pc := 26) dX11_adds_26 rfl rfl ?_
  refine rs_get (pc := 27) dX11_adds_27 rfl f_RX11_7 rfl ?_
  refine r_iconst (v := 4) (pc := 30) dX11_adds_30 (by decide) ?_
  refine rs_ld (4) (pc := 31) dX11_adds_31 rfl (by omega) ?_
  refine r_imul (pc := 32) dX11_adds_32 ?_
  refine r_iadd (pc := 33) dX11_adds_33 ?_
  refine r_iconst (v := 1) (pc := 34) dX11_adds_34 (by decide) ?_
  refine r_iadd (pc := 35) dX11_adds_35 ?_
  refine r_iload_n (pc := 36) dX11_adds_36 rfl rfl ?_
  refine rs_st ((134 + (2 * k)) + 1) (pc := 37) dX11_adds_37 (nadd (nadd rfl (nmul rfl (show upd A (134 + 2 * k) d 4 = nI k by rw [upd_n (by omega)]; exact h4))) rfl) (by omega) ?_
  refine r_aload_n (pc := 38) dX11_adds_38 rfl rfl ?_
  refine rs_get (pc := 39) dX11_adds_39 rfl f_RX11_7 rfl ?_
  refine r_iconst (v := 4) (pc := 42) dX11_adds_42 (by decide) ?_
  refine r_dup2 (pc := 43) dX11_adds_43 rfl rfl ?_
  refine rs_ld (4) (pc := 44) dX11_adds_44 rfl (by omega) ?_
  refine r_iconst (v := 1) (pc := 45) dX11_adds_45 (by decide) ?_
  refine r_iadd (pc := 46) dX11_adds_46 ?_
  refine rs_st (4) (pc := 47) dX11_adds_47 rfl (by omega) ?_
  exact r_return (S := []) (pc := 48) dX11_adds_48 rfl ⟨rfl, rfl⟩
theorem s_X11_stirs {om : OM} {l : Launch} {B : Nat × Nat} {h0 : Hp} {I : Nat → Int32} {J : Nat → Int64} {A a v t n : Nat → Int32} (b u x sp be : Int32) : Runs om l M_X11_stirs B 0 (entL 6 [.ref 119, .int b, .int u, .int x, .int sp, .int be]) [] (rH h0 I J A a v t n) (Det (none) (rH h0 I J (R_stirs A b u x sp be) a v t n)) := by
  show Runs om l M_X11_stirs B 0 [some (.ref 119), some (.int b), some (.int u), some (.int x), some (.int sp), some (.int be)] [] _ _
  refine r_aload_n (pc := 0) dX11_stirs_0 rfl rfl ?_
  refine rs_get (pc := 1) dX11_stirs_1 rfl f_RX11_7 rfl ?_
  refine r_iconst (v := 5) (pc := 4) dX11_stirs_4 (by decide) ?_
  refine r_iload_n (pc := 5) dX11_stirs_5 rfl rfl ?_
  refine rs_st (5) (pc := 6) dX11_stirs_6 rfl (by omega) ?_
  refine r_aload_n (pc := 7) dX11_stirs_7 rfl rfl ?_
  refine rs_get (pc := 8) dX11_stirs_8 rfl f_RX11_7 rfl ?_
  refine r_bipush (v := 6) (pc := 11) dX11_stirs_11 (by decide) ?_
  refine r_iload_n (pc := 13) dX11_stirs_13 rfl rfl ?_
  refine rs_st (6) (pc := 14) dX11_stirs_14 rfl (by omega) ?_
  refine r_aload_n (pc := 15) dX11_stirs_15 rfl rfl ?_
  refine rs_get (pc := 16) dX11_stirs_16 rfl f_RX11_7 rfl ?_
  refine r_bipush (v := 7) (pc := 19) dX11_stirs_19 (by decide) ?_
  refine r_iload_n (pc := 21) dX11_stirs_21 rfl rfl ?_
  refine rs_st (7) (pc := 22) dX11_stirs_22 rfl (by omega) ?_
  refine r_aload_n (pc := 23) dX11_stirs_23 rfl rfl ?_
  refine rs_get (pc := 24) dX11_stirs_24 rfl f_RX11_7 rfl ?_
  refine r_bipush (v := 9) (pc := 27) dX11_stirs_27 (by decide) ?_
  refine r_iload (pc := 29) dX11_stirs_29 rfl ?_
  refine rs_st (9) (pc := 31) dX11_stirs_31 rfl (by omega) ?_
  refine r_aload_n (pc := 32) dX11_stirs_32 rfl rfl ?_
  refine rs_get (pc := 33) dX11_stirs_33 rfl f_RX11_7 rfl ?_
  refine r_bipush (v := 10) (pc := 36) dX11_stirs_36 (by decide) ?_
  refine r_iload (pc := 38) dX11_stirs_38 rfl ?_
  refine rs_st (10) (pc := 40) dX11_stirs_40 rfl (by omega) ?_
  exact r_return (S := []) (pc := 41) dX11_stirs_41 rfl ⟨rfl, rfl⟩
theorem s_X11_sets {om : OM} {l : Launch} {B : Nat × Nat} {h0 : Hp} {I : Nat → Int32} {J : Nat → Int64} {A a v t n : Nat → Int32} (k : Nat) (x d : Int32) (hx : x = nI k) (hk : k ≤ 11) : Runs om l M_X11_sets B 0 (entL 3 [.ref 119, .int x, .int d]) [] (rH h0 I J A a v t n) (Det (none) (rH h0 I J (R_sets A k d) a v t n)) := by
  show Runs om l M_X11_sets B 0 [some (.ref 119), some (.int x), some (.int d)] [] _ _
  refine r_aload_n (pc := 0) dX11_sets_0 rfl rfl ?_
  refine rs_get (pc := 1) dX11_sets_1 rfl f_RX11_7 rfl ?_
  refine r_bipush (v := 12) (pc := 4) dX11_sets_4 (by decide) ?_
  refine r_iload_n (pc := 6) dX11_sets_6 rfl rfl ?_
  refine r_iadd (pc := 7) dX11_sets_7 ?_
  refine r_iload_n (pc := 8) dX11_sets_8 rfl rfl ?_
  refine rs_st (12 + k) (pc := 9) dX11_sets_9 (nadd rfl hx) (by omega) ?_
  refine r_aload_n (pc := 10) dX11_sets_10 rfl rfl ?_
  refine rs_get (pc := 11) dX11_sets_11 rfl f_RX11_7 rfl ?_
  refine r_bipush (v := 31) (pc := 14) dX11_sets_14 (by decide) ?_
  refine r_join 50 (R_cut (upd A (12 + k) d)) ?_ (fun J16 => ?_)
  · refine rs_st (31) (pc := 50) dX11_sets_50 rfl (by omega) ?_
    exact r_return (S := []) (pc := 51) dX11_sets_51 rfl ⟨rfl, rfl⟩
  · refine r_aload_n (pc := 16) dX11_sets_16 rfl rfl ?_
    refine rs_get (pc := 17) dX11_sets_17 rfl f_RX11_7 rfl ?_
    refine r_bipush (v := 31) (pc := 20) dX11_sets_20 (by decide) ?_
    refine rs_ld (31) (pc := 22) dX11_sets_22 rfl (by omega) ?_
    refine r_aload_n (pc := 23) dX11_sets_23 rfl rfl ?_
    refine rs_get (pc := 24) dX11_sets_24 rfl f_RX11_7 rfl ?_
    refine r_bipush (v := 18) (pc := 27) dX11_sets_27 (by decide) ?_
    refine rs_ld (18) (pc := 29) dX11_sets_29 rfl (by omega) ?_
    refine r_icmp_le 43 (pc := 30) dX11_sets_30 (by decide) (fun c30 => ?_) (fun c30 => ?_)
    · refine r_aload_n (pc := 43) dX11_sets_43 rfl rfl ?_
      refine rs_get (pc := 44) dX11_sets_44 rfl f_RX11_7 rfl ?_
      refine r_bipush (v := 31) (pc := 47) dX11_sets_47 (by decide) ?_
      refine rs_ld (31) (pc := 49) dX11_sets_49 rfl (by omega) ?_
      exact J16 _ (by rw [R_cut]; (repeat (first | rw [if_pos (by assumption)] | rw [if_neg (by assumption)])))
    · refine r_aload_n (pc := 33) dX11_sets_33 rfl rfl ?_
      refine rs_get (pc := 34) dX11_sets_34 rfl f_RX11_7 rfl ?_
      refine r_bipush (v := 18) (pc := 37) dX11_sets_37 (by decide) ?_
      refine rs_ld (18) (pc := 39) dX11_sets_39 rfl (by omega) ?_
      refine r_goto 50 (pc := 40) dX11_sets_40 (by decide) ?_
      exact J16 _ (by rw [R_cut]; (repeat (first | rw [if_pos (by assumption)] | rw [if_neg (by assumption)])))
theorem s_X11_put {om : OM} {l : Launch} {B : Nat × Nat} {h0 : Hp} {I : Nat → Int32} {J : Nat → Int64} {A a v t n : Nat → Int32} (hl : l.stackTraces = false) (p c : Nat) (x y : Int32) (hx : x = nI p) (hp : p < 647) (hc : I 4 = nI c) (hc4 : c ≤ 4) : Runs om l M_X11_put B 0 (entL 4 [.ref 119, .int x, .int y]) [] (rH h0 I J A a v t n) (Det (some (.int (A p))) (rH h0 (R_saveI I) J (upd A p y) a (R_savev c A v) t n)) := by
  show Runs om l M_X11_put B 0 [some (.ref 119), some (.int x), some (.int y), none] [] _ _
  refine r_aload_n (pc := 0) dX11_put_0 rfl rfl ?_
  refine rs_call (vs := []) (pc := 1) dX11_put_1 rfl l_RX11_130 rfl rfl ⟨by decide, by decide⟩ rfl (Nat.le_of_ble_eq_true rfl) hl (Nat.le_of_ble_eq_true rfl) (s_X11_save c hc hc4) rfl ?_
  refine r_aload_n (pc := 4) dX11_put_4 rfl rfl ?_
  refine rs_get (pc := 5) dX11_put_5 rfl f_RX11_7 rfl ?_
  refine r_iload_n (pc := 8) dX11_put_8 rfl rfl ?_
  refine rs_ld (p) (pc := 9) dX11_put_9 hx (by omega) ?_
  refine q_istore_n [_, _, _, _] (pc := 10) dX11_put_10 rfl (by decide) rfl ?_
  refine r_aload_n (pc := 11) dX11_put_11 rfl rfl ?_
  refine rs_get (pc := 12) dX11_put_12 rfl f_RX11_7 rfl ?_
  refine r_iload_n (pc := 15) dX11_put_15 rfl rfl ?_
  refine r_iload_n (pc := 16) dX11_put_16 rfl rfl ?_
  refine rs_st (p) (pc := 17) dX11_put_17 hx (by omega) ?_
  refine r_iload_n (pc := 18) dX11_put_18 rfl rfl ?_
  exact r_ireturn (S := []) (pc := 19) dX11_put_19 rfl rfl ⟨rfl, rfl⟩
theorem s_X11_begin_no {om : OM} {l : Launch} {B : Nat × Nat} {h0 : Hp} {I : Nat → Int32} {J : Nat → Int64} {A a v t n : Nat → Int32} (hl : l.stackTraces = false) (d : Int32) (h : R_in d 500 10000 = 0) : Runs om l M_X11_begin B 0 (entL 3 [.ref 119, .int d]) [] (rH h0 I J A a v t n) (Det (some (.int 0)) (rH h0 (upd I 0 1) J A a v t n)) := by
  show Runs om l M_X11_begin B 0 [some (.ref 119), some (.int d), none] [] _ _
  refine r_aload_n (pc := 0) dX11_begin_0 rfl rfl ?_
  refine r_aload_n (pc := 1) dX11_begin_1 rfl rfl ?_
  refine r_iload_n (pc := 2) dX11_begin_2 rfl rfl ?_
  refine rs_call (vs := [.int _]) (pc := 3) dX11_begin_3 rfl l_RX11_127 rfl rfl ⟨by decide, by decide⟩ rfl (Nat.le_of_ble_eq_true rfl) hl (Nat.le_of_ble_eq_true rfl) (s_X11_canBegin hl _) rfl ?_
  refine r_iconst (v := 1) (pc := 6) dX11_begin_6 (by decide) ?_
  refine rs_call (vs := [.int _, .int _]) (pc := 7) dX11_begin_7 rfl l_RX11_37 rfl rfl ⟨by decide, by decide⟩ rfl (Nat.le_of_ble_eq_true rfl) hl (Nat.le_of_ble_eq_true rfl) (s_X11_holds0 h) rfl ?_
  refine r_if_ne 15 (pc := 10) dX11_begin_10 (by decide) (fun c10 => absurd (c_eqt rfl rfl (a := 0) (b := 0) (by omega) (by omega) (by omega)) c10) (fun c10 => ?_)
  refine r_iconst (v := 0) (pc := 13) dX11_begin_13 (by decide) ?_
  exact r_ireturn (S := []) (pc := 14) dX11_begin_14 rfl rfl ⟨rfl, rfl⟩
theorem s_X11_begin_yes {om : OM} {l : Launch} {B : Nat × Nat} {h0 : Hp} {I : Nat → Int32} {J : Nat → Int64} {A a v t n : Nat → Int32} (hl : l.stackTraces = false) (d : Int32) (h : R_in d 500 10000 = 1) (c : Nat) (hc : I 4 = nI c) (hc4 : c ≤ 4)  : Runs om l M_X11_begin B 0 (entL 3 [.ref 119, .int d]) [] (rH h0 I J A a v t n) (Det (some (.int (A 24))) (rH h0 (R_saveI (upd I 0 0)) J (R_begins A d) a (R_savev c A v) t n)) := by
  show Runs om l M_X11_begin B 0 [some (.ref 119), some (.int d), none] [] _ _
  refine r_aload_n (pc := 0) dX11_begin_0 rfl rfl ?_
  refine r_aload_n (pc := 1) dX11_begin_1 rfl rfl ?_
  refine r_iload_n (pc := 2) dX11_begin_2 rfl rfl ?_
  refine rs_call (vs := [.int _]) (pc := 3) dX11_begin_3 rfl l_RX11_127 rfl rfl ⟨by decide, by decide⟩ rfl (Nat.le_of_ble_eq_true rfl) hl (Nat.le_of_ble_eq_true rfl) (s_X11_canBegin hl _) rfl ?_
  refine r_iconst (v := 1) (pc := 6) dX11_begin_6 (by decide) ?_
  refine rs_call (vs := [.int _, .int _]) (pc := 7) dX11_begin_7 rfl l_RX11_37 rfl rfl ⟨by decide, by decide⟩ rfl (Nat.le_of_ble_eq_true rfl) hl (Nat.le_of_ble_eq_true rfl) (s_X11_holds1 h) rfl ?_
  refine r_if_ne 15 (pc := 10) dX11_begin_10 (by decide) (fun c10 => ?_) (fun c10 => absurd c10 (c_eqf rfl rfl (a := 1) (b := 0) (by omega) (by omega) (by omega)))
  refine r_aload_n (pc := 15) dX11_begin_15 rfl rfl ?_
  refine rs_call (vs := []) (pc := 16) dX11_begin_16 rfl l_RX11_130 rfl rfl ⟨by decide, by decide⟩ rfl (Nat.le_of_ble_eq_true rfl) hl (Nat.le_of_ble_eq_true rfl) (s_X11_save c (by rw [upd_n (by decide)]; exact hc) hc4) rfl ?_
  refine r_aload_n (pc := 19) dX11_begin_19 rfl rfl ?_
  refine rs_get (pc := 20) dX11_begin_20 rfl f_RX11_7 rfl ?_
  refine r_bipush (v := 24) (pc := 23) dX11_begin_23 (by decide) ?_
  refine rs_ld (24) (pc := 25) dX11_begin_25 rfl (by omega) ?_
  refine q_istore_n [_, _, _] (pc := 26) dX11_begin_26 rfl (by decide) rfl ?_
  refine r_aload_n (pc := 27) dX11_begin_27 rfl rfl ?_
  refine r_iload_n (pc := 28) dX11_begin_28 rfl rfl ?_
  refine rs_call (vs := [.int _]) (pc := 29) dX11_begin_29 rfl l_RX11_26 rfl rfl ⟨by decide, by decide⟩ rfl (Nat.le_of_ble_eq_true rfl) hl (Nat.le_of_ble_eq_true rfl) (s_X11_begins _) rfl ?_
  refine r_iload_n (pc := 32) dX11_begin_32 rfl rfl ?_
  exact r_ireturn (S := []) (pc := 33) dX11_begin_33 rfl rfl ⟨rfl, rfl⟩
theorem s_X11_setLevel_no {om : OM} {l : Launch} {B : Nat × Nat} {h0 : Hp} {I : Nat → Int32} {J : Nat → Int64} {A a v t n : Nat → Int32} (hl : l.stackTraces = false) (d : Int32) (h : R_in d 0 (A 0) = 0) : Runs om l M_X11_setLevel B 0 (entL 2 [.ref 119, .int d]) [] (rH h0 I J A a v t n) (Det (some (.int 0)) (rH h0 (upd I 0 1) J A a v t n)) := by
  show Runs om l M_X11_setLevel B 0 [some (.ref 119), some (.int d)] [] _ _
  refine r_aload_n (pc := 0) dX11_setLevel_0 rfl rfl ?_
  refine r_aload_n (pc := 1) dX11_setLevel_1 rfl rfl ?_
  refine r_iload_n (pc := 2) dX11_setLevel_2 rfl rfl ?_
  refine rs_call (vs := [.int _]) (pc := 3) dX11_setLevel_3 rfl l_RX11_133 rfl rfl ⟨by decide, by decide⟩ rfl (Nat.le_of_ble_eq_true rfl) hl (Nat.le_of_ble_eq_true rfl) (s_X11_canLevel hl _) rfl ?_
  refine r_iconst (v := 1) (pc := 6) dX11_setLevel_6 (by decide) ?_
  refine rs_call (vs := [.int _, .int _]) (pc := 7) dX11_setLevel_7 rfl l_RX11_37 rfl rfl ⟨by decide, by decide⟩ rfl (Nat.le_of_ble_eq_true rfl) hl (Nat.le_of_ble_eq_true rfl) (s_X11_holds0 h) rfl ?_
  refine r_if_eq 22 (pc := 10) dX11_setLevel_10 (by decide) (fun c10 => ?_) (fun c10 => absurd (c_eqt rfl rfl (a := 0) (b := 0) (by omega) (by omega) (by omega)) c10)
  refine r_iconst (v := 0) (pc := 22) dX11_setLevel_22 (by decide) ?_
  exact r_ireturn (S := []) (pc := 23) dX11_setLevel_23 rfl rfl ⟨rfl, rfl⟩
theorem s_X11_setLevel_yes {om : OM} {l : Launch} {B : Nat × Nat} {h0 : Hp} {I : Nat → Int32} {J : Nat → Int64} {A a v t n : Nat → Int32} (hl : l.stackTraces = false) (d : Int32) (h : R_in d 0 (A 0) = 1) (c : Nat) (hc : I 4 = nI c) (hc4 : c ≤ 4)  : Runs om l M_X11_setLevel B 0 (entL 2 [.ref 119, .int d]) [] (rH h0 I J A a v t n) (Det (some (.int (A 1))) (rH h0 (R_saveI (upd I 0 0)) J (upd A 1 d) a (R_savev c A v) t n)) := by
  show Runs om l M_X11_setLevel B 0 [some (.ref 119), some (.int d)] [] _ _
  refine r_aload_n (pc := 0) dX11_setLevel_0 rfl rfl ?_
  refine r_aload_n (pc := 1) dX11_setLevel_1 rfl rfl ?_
  refine r_iload_n (pc := 2) dX11_setLevel_2 rfl rfl ?_
  refine rs_call (vs := [.int _]) (pc := 3) dX11_setLevel_3 rfl l_RX11_133 rfl rfl ⟨by decide, by decide⟩ rfl (Nat.le_of_ble_eq_true rfl) hl (Nat.le_of_ble_eq_true rfl) (s_X11_canLevel hl _) rfl ?_
  refine r_iconst (v := 1) (pc := 6) dX11_setLevel_6 (by decide) ?_
  refine rs_call (vs := [.int _, .int _]) (pc := 7) dX11_setLevel_7 rfl l_RX11_37 rfl rfl ⟨by decide, by decide⟩ rfl (Nat.le_of_ble_eq_true rfl) hl (Nat.le_of_ble_eq_true rfl) (s_X11_holds1 h) rfl ?_
  refine r_if_eq 22 (pc := 10) dX11_setLevel_10 (by decide) (fun c10 => absurd c10 (c_eqf rfl rfl (a := 1) (b := 0) (by omega) (by omega) (by omega))) (fun c10 => ?_)
  refine r_aload_n (pc := 13) dX11_setLevel_13 rfl rfl ?_
  refine r_iconst (v := 1) (pc := 14) dX11_setLevel_14 (by decide) ?_
  refine r_iload_n (pc := 15) dX11_setLevel_15 rfl rfl ?_
  refine rs_call (vs := [.int _, .int _]) (pc := 16) dX11_setLevel_16 rfl l_RX11_136 rfl rfl ⟨by decide, by decide⟩ rfl (Nat.le_of_ble_eq_true rfl) hl (Nat.le_of_ble_eq_true rfl) (s_X11_put hl 1 c _ _ rfl (by decide) (by rw [upd_n (by decide)]; exact hc) hc4) rfl ?_
  refine r_goto 23 (pc := 19) dX11_setLevel_19 (by decide) ?_
  exact r_ireturn (S := []) (pc := 23) dX11_setLevel_23 rfl rfl ⟨rfl, rfl⟩
theorem s_X11_setFlow_no {om : OM} {l : Launch} {B : Nat × Nat} {h0 : Hp} {I : Nat → Int32} {J : Nat → Int64} {A a v t n : Nat → Int32} (hl : l.stackTraces = false) (d : Int32) (h : R_in d (-200) 200 = 0) : Runs om l M_X11_setFlow B 0 (entL 2 [.ref 119, .int d]) [] (rH h0 I J A a v t n) (Det (some (.int 0)) (rH h0 (upd I 0 1) J A a v t n)) := by
  show Runs om l M_X11_setFlow B 0 [some (.ref 119), some (.int d)] [] _ _
  refine r_aload_n (pc := 0) dX11_setFlow_0 rfl rfl ?_
  refine r_aload_n (pc := 1) dX11_setFlow_1 rfl rfl ?_
  refine r_iload_n (pc := 2) dX11_setFlow_2 rfl rfl ?_
  refine rs_call (vs := [.int _]) (pc := 3) dX11_setFlow_3 rfl l_RX11_139 rfl rfl ⟨by decide, by decide⟩ rfl (Nat.le_of_ble_eq_true rfl) hl (Nat.le_of_ble_eq_true rfl) (s_X11_canFlow hl _) rfl ?_
  refine r_iconst (v := 1) (pc := 6) dX11_setFlow_6 (by decide) ?_
  refine rs_call (vs := [.int _, .int _]) (pc := 7) dX11_setFlow_7 rfl l_RX11_37 rfl rfl ⟨by decide, by decide⟩ rfl (Nat.le_of_ble_eq_true rfl) hl (Nat.le_of_ble_eq_true rfl) (s_X11_holds0 h) rfl ?_
  refine r_if_eq 22 (pc := 10) dX11_setFlow_10 (by decide) (fun c10 => ?_) (fun c10 => absurd (c_eqt rfl rfl (a := 0) (b := 0) (by omega) (by omega) (by omega)) c10)
  refine r_iconst (v := 0) (pc := 22) dX11_setFlow_22 (by decide) ?_
  exact r_ireturn (S := []) (pc := 23) dX11_setFlow_23 rfl rfl ⟨rfl, rfl⟩
theorem s_X11_setFlow_yes {om : OM} {l : Launch} {B : Nat × Nat} {h0 : Hp} {I : Nat → Int32} {J : Nat → Int64} {A a v t n : Nat → Int32} (hl : l.stackTraces = false) (d : Int32) (h : R_in d (-200) 200 = 1) (c : Nat) (hc : I 4 = nI c) (hc4 : c ≤ 4)  : Runs om l M_X11_setFlow B 0 (entL 2 [.ref 119, .int d]) [] (rH h0 I J A a v t n) (Det (some (.int (A 2))) (rH h0 (R_saveI (upd I 0 0)) J (upd A 2 d) a (R_savev c A v) t n)) := by
  show Runs om l M_X11_setFlow B 0 [some (.ref 119), some (.int d)] [] _ _
  refine r_aload_n (pc := 0) dX11_setFlow_0 rfl rfl ?_
  refine r_aload_n (pc := 1) dX11_setFlow_1 rfl rfl ?_
  refine r_iload_n (pc := 2) dX11_setFlow_2 rfl rfl ?_
  refine rs_call (vs := [.int _]) (pc := 3) dX11_setFlow_3 rfl l_RX11_139 rfl rfl ⟨by decide, by decide⟩ rfl (Nat.le_of_ble_eq_true rfl) hl (Nat.le_of_ble_eq_true rfl) (s_X11_canFlow hl _) rfl ?_
  refine r_iconst (v := 1) (pc := 6) dX11_setFlow_6 (by decide) ?_
  refine rs_call (vs := [.int _, .int _]) (pc := 7) dX11_setFlow_7 rfl l_RX11_37 rfl rfl ⟨by decide, by decide⟩ rfl (Nat.le_of_ble_eq_true rfl) hl (Nat.le_of_ble_eq_true rfl) (s_X11_holds1 h) rfl ?_
  refine r_if_eq 22 (pc := 10) dX11_setFlow_10 (by decide) (fun c10 => absurd c10 (c_eqf rfl rfl (a := 1) (b := 0) (by omega) (by omega) (by omega))) (fun c10 => ?_)
  refine r_aload_n (pc := 13) dX11_setFlow_13 rfl rfl ?_
  refine r_iconst (v := 2) (pc := 14) dX11_setFlow_14 (by decide) ?_
  refine r_iload_n (pc := 15) dX11_setFlow_15 rfl rfl ?_
  refine rs_call (vs := [.int _, .int _]) (pc := 16) dX11_setFlow_16 rfl l_RX11_136 rfl rfl ⟨by decide, by decide⟩ rfl (Nat.le_of_ble_eq_true rfl) hl (Nat.le_of_ble_eq_true rfl) (s_X11_put hl 2 c _ _ rfl (by decide) (by rw [upd_n (by decide)]; exact hc) hc4) rfl ?_
  refine r_goto 23 (pc := 19) dX11_setFlow_19 (by decide) ?_
  exact r_ireturn (S := []) (pc := 23) dX11_setFlow_23 rfl rfl ⟨rfl, rfl⟩
theorem s_X11_setFoam_no {om : OM} {l : Launch} {B : Nat × Nat} {h0 : Hp} {I : Nat → Int32} {J : Nat → Int64} {A a v t n : Nat → Int32} (hl : l.stackTraces = false) (d : Int32) (h : R_in d 0 500 = 0) : Runs om l M_X11_setFoam B 0 (entL 2 [.ref 119, .int d]) [] (rH h0 I J A a v t n) (Det (some (.int 0)) (rH h0 (upd I 0 1) J A a v t n)) := by
  show Runs om l M_X11_setFoam B 0 [some (.ref 119), some (.int d)] [] _ _
  refine r_aload_n (pc := 0) dX11_setFoam_0 rfl rfl ?_
  refine r_aload_n (pc := 1) dX11_setFoam_1 rfl rfl ?_
  refine r_iload_n (pc := 2) dX11_setFoam_2 rfl rfl ?_
  refine rs_call (vs := [.int _]) (pc := 3) dX11_setFoam_3 rfl l_RX11_142 rfl rfl ⟨by decide, by decide⟩ rfl (Nat.le_of_ble_eq_true rfl) hl (Nat.le_of_ble_eq_true rfl) (s_X11_canFoam hl _) rfl ?_
  refine r_iconst (v := 1) (pc := 6) dX11_setFoam_6 (by decide) ?_
  refine rs_call (vs := [.int _, .int _]) (pc := 7) dX11_setFoam_7 rfl l_RX11_37 rfl rfl ⟨by decide, by decide⟩ rfl (Nat.le_of_ble_eq_true rfl) hl (Nat.le_of_ble_eq_true rfl) (s_X11_holds0 h) rfl ?_
  refine r_if_eq 22 (pc := 10) dX11_setFoam_10 (by decide) (fun c10 => ?_) (fun c10 => absurd (c_eqt rfl rfl (a := 0) (b := 0) (by omega) (by omega) (by omega)) c10)
  refine r_iconst (v := 0) (pc := 22) dX11_setFoam_22 (by decide) ?_
  exact r_ireturn (S := []) (pc := 23) dX11_setFoam_23 rfl rfl ⟨rfl, rfl⟩
theorem s_X11_setFoam_yes {om : OM} {l : Launch} {B : Nat × Nat} {h0 : Hp} {I : Nat → Int32} {J : Nat → Int64} {A a v t n : Nat → Int32} (hl : l.stackTraces = false) (d : Int32) (h : R_in d 0 500 = 1) (c : Nat) (hc : I 4 = nI c) (hc4 : c ≤ 4)  : Runs om l M_X11_setFoam B 0 (entL 2 [.ref 119, .int d]) [] (rH h0 I J A a v t n) (Det (some (.int (A 3))) (rH h0 (R_saveI (upd I 0 0)) J (upd A 3 d) a (R_savev c A v) t n)) := by
  show Runs om l M_X11_setFoam B 0 [some (.ref 119), some (.int d)] [] _ _
  refine r_aload_n (pc := 0) dX11_setFoam_0 rfl rfl ?_
  refine r_aload_n (pc := 1) dX11_setFoam_1 rfl rfl ?_
  refine r_iload_n (pc := 2) dX11_setFoam_2 rfl rfl ?_
  refine rs_call (vs := [.int _]) (pc := 3) dX11_setFoam_3 rfl l_RX11_142 rfl rfl ⟨by decide, by decide⟩ rfl (Nat.le_of_ble_eq_true rfl) hl (Nat.le_of_ble_eq_true rfl) (s_X11_canFoam hl _) rfl ?_
  refine r_iconst (v := 1) (pc := 6) dX11_setFoam_6 (by decide) ?_
  refine rs_call (vs := [.int _, .int _]) (pc := 7) dX11_setFoam_7 rfl l_RX11_37 rfl rfl ⟨by decide, by decide⟩ rfl (Nat.le_of_ble_eq_true rfl) hl (Nat.le_of_ble_eq_true rfl) (s_X11_holds1 h) rfl ?_
  refine r_if_eq 22 (pc := 10) dX11_setFoam_10 (by decide) (fun c10 => absurd c10 (c_eqf rfl rfl (a := 1) (b := 0) (by omega) (by omega) (by omega))) (fun c10 => ?_)
  refine r_aload_n (pc := 13) dX11_setFoam_13 rfl rfl ?_
  refine r_iconst (v := 3) (pc := 14) dX11_setFoam_14 (by decide) ?_
  refine r_iload_n (pc := 15) dX11_setFoam_15 rfl rfl ?_
  refine rs_call (vs := [.int _, .int _]) (pc := 16) dX11_setFoam_16 rfl l_RX11_136 rfl rfl ⟨by decide, by decide⟩ rfl (Nat.le_of_ble_eq_true rfl) hl (Nat.le_of_ble_eq_true rfl) (s_X11_put hl 3 c _ _ rfl (by decide) (by rw [upd_n (by decide)]; exact hc) hc4) rfl ?_
  refine r_goto 23 (pc := 19) dX11_setFoam_19 (by decide) ?_
  exact r_ireturn (S := []) (pc := 23) dX11_setFoam_23 rfl rfl ⟨rfl, rfl⟩
theorem s_X11_setStirrer_no {om : OM} {l : Launch} {B : Nat × Nat} {h0 : Hp} {I : Nat → Int32} {J : Nat → Int64} {A a v t n : Nat → Int32} (hl : l.stackTraces = false) (b u x sp be : Int32) (h : R_cStir b u x sp be = 0) : Runs om l M_X11_setStirrer B 0 (entL 7 [.ref 119, .int b, .int u, .int x, .int sp, .int be]) [] (rH h0 I J A a v t n) (Det (some (.int 0)) (rH h0 (upd I 0 1) J A a v t n)) := by
  show Runs om l M_X11_setStirrer B 0 [some (.ref 119), some (.int b), some (.int u), some (.int x), some (.int sp), some (.int be), none] [] _ _
  refine r_aload_n (pc := 0) dX11_setStirrer_0 rfl rfl ?_
  refine r_aload_n (pc := 1) dX11_setStirrer_1 rfl rfl ?_
  refine r_iload_n (pc := 2) dX11_setStirrer_2 rfl rfl ?_
  refine r_iload_n (pc := 3) dX11_setStirrer_3 rfl rfl ?_
  refine r_iload_n (pc := 4) dX11_setStirrer_4 rfl rfl ?_
  refine r_iload (pc := 5) dX11_setStirrer_5 rfl ?_
  refine r_iload (pc := 7) dX11_setStirrer_7 rfl ?_
  refine rs_call (vs := [.int _, .int _, .int _, .int _, .int _]) (pc := 9) dX11_setStirrer_9 rfl l_RX11_155 rfl rfl ⟨by decide, by decide⟩ rfl (Nat.le_of_ble_eq_true rfl) hl (Nat.le_of_ble_eq_true rfl) (s_X11_canStir hl _ _ _ _ _) rfl ?_
  refine r_iconst (v := 1) (pc := 12) dX11_setStirrer_12 (by decide) ?_
  refine rs_call (vs := [.int _, .int _]) (pc := 13) dX11_setStirrer_13 rfl l_RX11_37 rfl rfl ⟨by decide, by decide⟩ rfl (Nat.le_of_ble_eq_true rfl) hl (Nat.le_of_ble_eq_true rfl) (s_X11_holds0 h) rfl ?_
  refine r_if_ne 21 (pc := 16) dX11_setStirrer_16 (by decide) (fun c16 => absurd (c_eqt rfl rfl (a := 0) (b := 0) (by omega) (by omega) (by omega)) c16) (fun c16 => ?_)
  refine r_iconst (v := 0) (pc := 19) dX11_setStirrer_19 (by decide) ?_
  exact r_ireturn (S := []) (pc := 20) dX11_setStirrer_20 rfl rfl ⟨rfl, rfl⟩
theorem s_X11_setStirrer_yes {om : OM} {l : Launch} {B : Nat × Nat} {h0 : Hp} {I : Nat → Int32} {J : Nat → Int64} {A a v t n : Nat → Int32} (hl : l.stackTraces = false) (b u x sp be : Int32) (h : R_cStir b u x sp be = 1) (c : Nat) (hc : I 4 = nI c) (hc4 : c ≤ 4)  : Runs om l M_X11_setStirrer B 0 (entL 7 [.ref 119, .int b, .int u, .int x, .int sp, .int be]) [] (rH h0 I J A a v t n) (Det (some (.int (A 5))) (rH h0 (R_saveI (upd I 0 0)) J (R_stirs A b u x sp be) a (R_savev c A v) t n)) := by
  show Runs om l M_X11_setStirrer B 0 [some (.ref 119), some (.int b), some (.int u), some (.int x), some (.int sp), some (.int be), none] [] _ _
  refine r_aload_n (pc := 0) dX11_setStirrer_0 rfl rfl ?_
  refine r_aload_n (pc := 1) dX11_setStirrer_1 rfl rfl ?_
  refine r_iload_n (pc := 2) dX11_setStirrer_2 rfl rfl ?_
  refine r_iload_n (pc := 3) dX11_setStirrer_3 rfl rfl ?_
  refine r_iload_n (pc := 4) dX11_setStirrer_4 rfl rfl ?_
  refine r_iload (pc := 5) dX11_setStirrer_5 rfl ?_
  refine r_iload (pc := 7) dX11_setStirrer_7 rfl ?_
  refine rs_call (vs := [.int _, .int _, .int _, .int _, .int _]) (pc := 9) dX11_setStirrer_9 rfl l_RX11_155 rfl rfl ⟨by decide, by decide⟩ rfl (Nat.le_of_ble_eq_true rfl) hl (Nat.le_of_ble_eq_true rfl) (s_X11_canStir hl _ _ _ _ _) rfl ?_
  refine r_iconst (v := 1) (pc := 12) dX11_setStirrer_12 (by decide) ?_
  refine rs_call (vs := [.int _, .int _]) (pc := 13) dX11_setStirrer_13 rfl l_RX11_37 rfl rfl ⟨by decide, by decide⟩ rfl (Nat.le_of_ble_eq_true rfl) hl (Nat.le_of_ble_eq_true rfl) (s_X11_holds1 h) rfl ?_
  refine r_if_ne 21 (pc := 16) dX11_setStirrer_16 (by decide) (fun c16 => ?_) (fun c16 => absurd c16 (c_eqf rfl rfl (a := 1) (b := 0) (by omega) (by omega) (by omega)))
  refine r_aload_n (pc := 21) dX11_setStirrer_21 rfl rfl ?_
  refine rs_call (vs := []) (pc := 22) dX11_setStirrer_22 rfl l_RX11_130 rfl rfl ⟨by decide, by decide⟩ rfl (Nat.le_of_ble_eq_true rfl) hl (Nat.le_of_ble_eq_true rfl) (s_X11_save c (by rw [upd_n (by decide)]; exact hc) hc4) rfl ?_
  refine r_aload_n (pc := 25) dX11_setStirrer_25 rfl rfl ?_
  refine rs_get (pc := 26) dX11_setStirrer_26 rfl f_RX11_7 rfl ?_
  refine r_iconst (v := 5) (pc := 29) dX11_setStirrer_29 (by decide) ?_
  refine rs_ld (5) (pc := 30) dX11_setStirrer_30 rfl (by omega) ?_
  refine q_istore [_, _, _, _, _, _, _] (pc := 31) dX11_setStirrer_31 (by decide) rfl ?_
  refine r_aload_n (pc := 33) dX11_setStirrer_33 rfl rfl ?_
  refine r_iload_n (pc := 34) dX11_setStirrer_34 rfl rfl ?_
  refine r_iload_n (pc := 35) dX11_setStirrer_35 rfl rfl ?_
  refine r_iload_n (pc := 36) dX11_setStirrer_36 rfl rfl ?_
  refine r_iload (pc := 37) dX11_setStirrer_37 rfl ?_
  refine r_iload (pc := 39) dX11_setStirrer_39 rfl ?_
  refine rs_call (vs := [.int _, .int _, .int _, .int _, .int _]) (pc := 41) dX11_setStirrer_41 rfl l_RX11_159 rfl rfl ⟨by decide, by decide⟩ rfl (Nat.le_of_ble_eq_true rfl) hl (Nat.le_of_ble_eq_true rfl) (s_X11_stirs _ _ _ _ _) rfl ?_
  refine r_iload (pc := 44) dX11_setStirrer_44 rfl ?_
  exact r_ireturn (S := []) (pc := 46) dX11_setStirrer_46 rfl rfl ⟨rfl, rfl⟩
theorem s_X11_set_no {om : OM} {l : Launch} {B : Nat × Nat} {h0 : Hp} {I : Nat → Int32} {J : Nat → Int64} {A a v t n : Nat → Int32} (hl : l.stackTraces = false) (x d : Int32) (h : R_cSet A x d = 0) : Runs om l M_X11_set B 0 (entL 4 [.ref 119, .int x, .int d]) [] (rH h0 I J A a v t n) (Det (some (.int 0)) (rH h0 (upd I 0 1) J A a v t n)) := by
  show Runs om l M_X11_set B 0 [some (.ref 119), some (.int x), some (.int d), none] [] _ _
  refine r_aload_n (pc := 0) dX11_set_0 rfl rfl ?_
  refine r_aload_n (pc := 1) dX11_set_1 rfl rfl ?_
  refine r_iload_n (pc := 2) dX11_set_2 rfl rfl ?_
  refine r_iload_n (pc := 3) dX11_set_3 rfl rfl ?_
  refine rs_call (vs := [.int _, .int _]) (pc := 4) dX11_set_4 rfl l_RX11_169 rfl rfl ⟨by decide, by decide⟩ rfl (Nat.le_of_ble_eq_true rfl) hl (Nat.le_of_ble_eq_true rfl) (s_X11_canSet hl _ _) rfl ?_
  refine r_iconst (v := 1) (pc := 7) dX11_set_7 (by decide) ?_
  refine rs_call (vs := [.int _, .int _]) (pc := 8) dX11_set_8 rfl l_RX11_37 rfl rfl ⟨by decide, by decide⟩ rfl (Nat.le_of_ble_eq_true rfl) hl (Nat.le_of_ble_eq_true rfl) (s_X11_holds0 h) rfl ?_
  refine r_if_ne 16 (pc := 11) dX11_set_11 (by decide) (fun c11 => absurd (c_eqt rfl rfl (a := 0) (b := 0) (by omega) (by omega) (by omega)) c11) (fun c11 => ?_)
  refine r_iconst (v := 0) (pc := 14) dX11_set_14 (by decide) ?_
  exact r_ireturn (S := []) (pc := 15) dX11_set_15 rfl rfl ⟨rfl, rfl⟩
theorem s_X11_set_yes {om : OM} {l : Launch} {B : Nat × Nat} {h0 : Hp} {I : Nat → Int32} {J : Nat → Int64} {A a v t n : Nat → Int32} (hl : l.stackTraces = false) (x d : Int32) (h : R_cSet A x d = 1) (c : Nat) (hc : I 4 = nI c) (hc4 : c ≤ 4) (k : Nat) (hk : x = nI k) (hk1 : k ≤ 11) : Runs om l M_X11_set B 0 (entL 4 [.ref 119, .int x, .int d]) [] (rH h0 I J A a v t n) (Det (some (.int (A (12 + k)))) (rH h0 (R_saveI (upd I 0 0)) J (R_sets A k d) a (R_savev c A v) t n)) := by
  show Runs om l M_X11_set B 0 [some (.ref 119), some (.int x), some (.int d), none] [] _ _
  refine r_aload_n (pc := 0) dX11_set_0 rfl rfl ?_
  refine r_aload_n (pc := 1) dX11_set_1 rfl rfl ?_
  refine r_iload_n (pc := 2) dX11_set_2 rfl rfl ?_
  refine r_iload_n (pc := 3) dX11_set_3 rfl rfl ?_
  refine rs_call (vs := [.int _, .int _]) (pc := 4) dX11_set_4 rfl l_RX11_169 rfl rfl ⟨by decide, by decide⟩ rfl (Nat.le_of_ble_eq_true rfl) hl (Nat.le_of_ble_eq_true rfl) (s_X11_canSet hl _ _) rfl ?_
  refine r_iconst (v := 1) (pc := 7) dX11_set_7 (by decide) ?_
  refine rs_call (vs := [.int _, .int _]) (pc := 8) dX11_set_8 rfl l_RX11_37 rfl rfl ⟨by decide, by decide⟩ rfl (Nat.le_of_ble_eq_true rfl) hl (Nat.le_of_ble_eq_true rfl) (s_X11_holds1 h) rfl ?_
  refine r_if_ne 16 (pc := 11) dX11_set_11 (by decide) (fun c11 => ?_) (fun c11 => absurd c11 (c_eqf rfl rfl (a := 1) (b := 0) (by omega) (by omega) (by omega)))
  refine r_aload_n (pc := 16) dX11_set_16 rfl rfl ?_
  refine rs_call (vs := []) (pc := 17) dX11_set_17 rfl l_RX11_130 rfl rfl ⟨by decide, by decide⟩ rfl (Nat.le_of_ble_eq_true rfl) hl (Nat.le_of_ble_eq_true rfl) (s_X11_save c (by rw [upd_n (by decide)]; exact hc) hc4) rfl ?_
  refine r_aload_n (pc := 20) dX11_set_20 rfl rfl ?_
  refine rs_get (pc := 21) dX11_set_21 rfl f_RX11_7 rfl ?_
  refine r_bipush (v := 12) (pc := 24) dX11_set_24 (by decide) ?_
  refine r_iload_n (pc := 26) dX11_set_26 rfl rfl ?_
  refine r_iadd (pc := 27) dX11_set_27 ?_
  refine rs_ld (12 + k) (pc := 28) dX11_set_28 (nadd rfl hk) (by omega) ?_
  refine q_istore_n [_, _, _, _] (pc := 29) dX11_set_29 rfl (by decide) rfl ?_
  refine r_aload_n (pc := 30) dX11_set_30 rfl rfl ?_
  refine r_iload_n (pc := 31) dX11_set_31 rfl rfl ?_
  refine r_iload_n (pc := 32) dX11_set_32 rfl rfl ?_
  refine rs_call (vs := [.int _, .int _]) (pc := 33) dX11_set_33 rfl l_RX11_172 rfl rfl ⟨by decide, by decide⟩ rfl (Nat.le_of_ble_eq_true rfl) hl (Nat.le_of_ble_eq_true rfl) (s_X11_sets k _ _ hk hk1) rfl ?_
  refine r_iload_n (pc := 36) dX11_set_36 rfl rfl ?_
  exact r_ireturn (S := []) (pc := 37) dX11_set_37 rfl rfl ⟨rfl, rfl⟩
