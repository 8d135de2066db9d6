/-! things, s, masks, learning, shooting -/
def R_shl (A : Nat → Int32) (lo k : Nat) : Nat → Int32 := fun j => if lo ≤ j ∧ j < k then A (j + 2) else A j
theorem R_shl_0 {A : Nat → Int32} {lo : Nat} : R_shl A lo lo = A := funext fun j => if_neg (by omega)
theorem R_shl_s {A : Nat → Int32} {lo k : Nat} (h : lo ≤ k) : upd (R_shl A lo k) k (R_shl A lo k (k + 2)) = R_shl A lo (k + 1) := by
  funext j
  unfold upd R_shl
  by_cases h1 : j = k
  · subst h1; rw [if_pos rfl, if_neg (by omega), if_pos (by omega)]
  · rw [if_neg h1]
    by_cases h2 : lo ≤ j ∧ j < k
    · rw [if_pos h2, if_pos (by omega)]
    · rw [if_neg h2, if_neg (by omega)]
def R_rm (A : Nat → Int32) (k x : Nat) : Nat → Int32 := R_shl (upd A 4 (A 4 - 1)) (134 + 2 * x) (134 + 2 * (k - 1))
def R_nn (x : Int32) : Int32 := if x < 0 then 0 else 1
def R_unm (A : Nat → Int32) (k : Nat) : Nat → Int32 := fun j => if 146 ≤ j ∧ j < 146 + k then 0 else A j
theorem R_unm_0 {A : Nat → Int32} : R_unm A 0 = A := funext fun j => if_neg (by omega)
theorem R_unm_s {A : Nat → Int32} {k : Nat} : upd (R_unm A k) (146 + k) 0 = R_unm A (k + 1) := by
  funext j
  unfold upd R_unm
  by_cases h1 : j = 146 + k
  · subst h1; rw [if_pos rfl, if_pos (by omega)]
  · rw [if_neg h1]
    by_cases h2 : 146 ≤ j ∧ j < 146 + k
    · rw [if_pos h2, if_pos (by omega)]
    · rw [if_neg h2, if_neg (by omega)]
theorem lrb_st {X : Nat → Int32} {k j : Nat} (hj : j < 146) : R_lrb k X j = X j := by
  unfold R_lrb
  split
  · rfl
  · split
    · rfl
    · exact upd_n (by omega)
theorem lr_it {X : Nat → Int32} {j : Nat} (hj : j < 146) (k : Nat) : itN R_lrb k X j = X j := by
  induction k with
  | zero => rfl
  | succ k ih => rw [itN_s, lrb_st hj, ih]
theorem lr_st {A : Nat → Int32} {j : Nat} (hj : j < 146) : R_lr A j = R_fires A j := by
  unfold R_lr
  exact lr_it hj _
theorem WF_lr {A : Nat → Int32} (h : WF A) : WF (R_lr A) := by
  have h1 := WF_fires h
  refine WF_of h1 (fun j hj => lr_st (by omega)) ?_ ?_ ?_ ?_ ?_
  · rw [lr_st (by omega)]; exact h1.l1
  · rw [lr_st (by omega)]; exact h1.K31
  · rw [lr_st (by omega)]; exact h1.K41
  · rw [lr_st (by omega)]; exact h1.Ka
  · rw [lr_st (by omega)]; exact h1.Kb
theorem learns_0 {A : Nat → Int32} : R_learns A 0 = A := rfl
theorem learns_s {A : Nat → Int32} {k : Nat} : R_learns A (k + 1) = R_lr (R_learns A k) := by simp only [R_learns, itN_s]
theorem shoots_0 {A : Nat → Int32} : R_shoots A 0 = (A, 0) := rfl
theorem shoots_s {A : Nat → Int32} {k : Nat} : R_shoots A (k + 1) = R_shb (R_shoots A k) := by simp only [R_shoots, itN_s]
theorem WF_learns {A : Nat → Int32} (h : WF A) (k : Nat) : WF (R_learns A k) := by
  induction k with
  | zero => exact h
  | succ k ih => rw [learns_s]; exact WF_lr ih
theorem WF_shoots {A : Nat → Int32} (h : WF A) (k : Nat) : WF (R_shoots A k).1 := by
  induction k with
  | zero => exact h
  | succ k ih => rw [shoots_s, R_shb]; dsimp only; exact WF_shot ih
theorem s_X11_addThing_no {om : OM} {l : Launch} {B : Nat × Nat} {h0 : Hp} {I : Nat → Int32} {J : Nat → Int64} {A a v t n : Nat → Int32} (hl : l.stackTraces = false) (d s : Int32) (h : R_cThing d s = 0) : Runs om l M_X11_addThing B 0 (entL 3 [.ref 119, .int d, .int s]) [] (rH h0 I J A a v t n) (Det (some (.int 0)) (rH h0 (upd I 0 1) J A a v t n)) := by
  show Runs om l M_X11_addThing B 0 [some (.ref 119), some (.int d), some (.int s)] [] _ _
  refine r_aload_n (pc := 0) dX11_addThing_0 rfl rfl ?_
  refine r_aload_n (pc := 1) dX11_addThing_1 rfl rfl ?_
  refine r_iload_n (pc := 2) dX11_addThing_2 rfl rfl ?_
  refine r_iload_n (pc := 3) dX11_addThing_3 rfl rfl ?_
  refine rs_call (vs := [.int _, .int _]) (pc := 4) dX11_addThing_4 rfl l_RX11_145 rfl rfl ⟨by decide, by decide⟩ rfl (Nat.le_of_ble_eq_true rfl) hl (Nat.le_of_ble_eq_true rfl) (s_X11_canThing hl _ _) rfl ?_
  refine r_iconst (v := 1) (pc := 7) dX11_addThing_7 (by decide) ?_
  refine rs_call (vs := [.int _, .int _]) (pc := 8) dX11_addThing_8 rfl l_RX11_37 rfl rfl ⟨by decide, by decide⟩ rfl (Nat.le_of_ble_eq_true rfl) hl (Nat.le_of_ble_eq_true rfl) (s_X11_holds0 h) rfl ?_
  refine r_if_eq 38 (pc := 11) dX11_addThing_11 (by decide) (fun c11 => ?_) (fun c11 => absurd (c_eqt rfl rfl (a := 0) (b := 0) (by omega) (by omega) (by omega)) c11)
  refine r_iconst (v := 0) (pc := 38) dX11_addThing_38 (by decide) ?_
  exact r_ireturn (S := []) (pc := 39) dX11_addThing_39 rfl rfl ⟨rfl, rfl⟩
theorem s_X11_addThing_no2 {om : OM} {l : Launch} {B : Nat × Nat} {h0 : Hp} {I : Nat → Int32} {J : Nat → Int64} {A a v t n : Nat → Int32} (hl : l.stackTraces = false) (d s : Int32) (h : R_cThing d s = 1) (h4 : A 4 = 6) : Runs om l M_X11_addThing B 0 (entL 3 [.ref 119, .int d, .int s]) [] (rH h0 I J A a v t n) (Det (some (.int 0)) (rH h0 (upd (upd I 0 0) 0 2) J A a v t n)) := by
  show Runs om l M_X11_addThing B 0 [some (.ref 119), some (.int d), some (.int s)] [] _ _
  refine r_aload_n (pc := 0) dX11_addThing_0 rfl rfl ?_
  refine r_aload_n (pc := 1) dX11_addThing_1 rfl rfl ?_
  refine r_iload_n (pc := 2) dX11_addThing_2 rfl rfl ?_
  refine r_iload_n (pc := 3) dX11_addThing_3 rfl rfl ?_
  refine rs_call (vs := [.int _, .int _]) (pc := 4) dX11_addThing_4 rfl l_RX11_145 rfl rfl ⟨by decide, by decide⟩ rfl (Nat.le_of_ble_eq_true rfl) hl (Nat.le_of_ble_eq_true rfl) (s_X11_canThing hl _ _) rfl ?_
  refine r_iconst (v := 1) (pc := 7) dX11_addThing_7 (by decide) ?_
  refine rs_call (vs := [.int _, .int _]) (pc := 8) dX11_addThing_8 rfl l_RX11_37 rfl rfl ⟨by decide, by decide⟩ rfl (Nat.le_of_ble_eq_true rfl) hl (Nat.le_of_ble_eq_true rfl) (s_X11_holds1 h) rfl ?_
  refine r_if_eq 38 (pc := 11) dX11_addThing_11 (by decide) (fun c11 => absurd c11 (c_eqf rfl rfl (a := 1) (b := 0) (by omega) (by omega) (by omega))) (fun c11 => ?_)
  refine r_aload_n (pc := 14) dX11_addThing_14 rfl rfl ?_
  refine r_aload_n (pc := 15) dX11_addThing_15 rfl rfl ?_
  refine rs_get (pc := 16) dX11_addThing_16 rfl f_RX11_7 rfl ?_
  refine r_iconst (v := 4) (pc := 19) dX11_addThing_19 (by decide) ?_
  refine rs_ld (4) (pc := 20) dX11_addThing_20 rfl (by omega) ?_
  refine r_bipush (v := 6) (pc := 21) dX11_addThing_21 (by decide) ?_
  refine r_icmp_ge 30 (pc := 23) dX11_addThing_23 (by decide) (fun c23 => ?_) (fun c23 => absurd (c_get h4 rfl (a := 6) (b := 6) (by omega) (by omega) (by omega)) c23)
  refine r_iconst (v := 0) (pc := 30) dX11_addThing_30 (by decide) ?_
  refine r_iconst (v := 2) (pc := 31) dX11_addThing_31 (by decide) ?_
  refine rs_call (vs := [.int _, .int _]) (pc := 32) dX11_addThing_32 rfl l_RX11_37 rfl rfl ⟨by decide, by decide⟩ rfl (Nat.le_of_ble_eq_true rfl) hl (Nat.le_of_ble_eq_true rfl) (s_X11_holds0 rfl) rfl ?_
  refine r_if_ne 40 (pc := 35) dX11_addThing_35 (by decide) (fun c35 => absurd (c_eqt rfl rfl (a := 0) (b := 0) (by omega) (by omega) (by omega)) c35) (fun c35 => ?_)
  refine r_iconst (v := 0) (pc := 38) dX11_addThing_38 (by decide) ?_
  exact r_ireturn (S := []) (pc := 39) dX11_addThing_39 rfl rfl ⟨rfl, rfl⟩
theorem s_X11_addThing_yes {om : OM} {l : Launch} {B : Nat × Nat} {h0 : Hp} {I : Nat → Int32} {J : Nat → Int64} {A a v t n : Nat → Int32} (hl : l.stackTraces = false) (d s : Int32) (h : R_cThing d s = 1) (k : Nat) (h4 : A 4 = nI k) (hk : k < 6) (c : Nat) (hc : I 4 = nI c) (hc4 : c ≤ 4) : Runs om l M_X11_addThing B 0 (entL 3 [.ref 119, .int d, .int s]) [] (rH h0 I J A a v t n) (Det (some (.int (R_adds A k d s 4 - 1))) (rH h0 (R_saveI (upd (upd I 0 0) 0 0)) J (R_adds A k d s) a (R_savev c A v) t n)) := by
  show Runs om l M_X11_addThing B 0 [some (.ref 119), some (.int d), some (.int s)] [] _ _
  refine r_aload_n (pc := 0) dX11_addThing_0 rfl rfl ?_
  refine r_aload_n (pc := 1) dX11_addThing_1 rfl rfl ?_
  refine r_iload_n (pc := 2) dX11_addThing_2 rfl rfl ?_
  refine r_iload_n (pc := 3) dX11_addThing_3 rfl rfl ?_
  refine rs_call (vs := [.int _, .int _]) (pc := 4) dX11_addThing_4 rfl l_RX11_145 rfl rfl ⟨by decide, by decide⟩ rfl (Nat.le_of_ble_eq_true rfl) hl (Nat.le_of_ble_eq_true rfl) (s_X11_canThing hl _ _) rfl ?_
  refine r_iconst (v := 1) (pc := 7) dX11_addThing_7 (by decide) ?_
  refine rs_call (vs := [.int _, .int _]) (pc := 8) dX11_addThing_8 rfl l_RX11_37 rfl rfl ⟨by decide, by decide⟩ rfl (Nat.le_of_ble_eq_true rfl) hl (Nat.le_of_ble_eq_true rfl) (s_X11_holds1 h) rfl ?_
  refine r_if_eq 38 (pc := 11) dX11_addThing_11 (by decide) (fun c11 => absurd c11 (c_eqf rfl rfl (a := 1) (b := 0) (by omega) (by omega) (by omega))) (fun c11 => ?_)
  refine r_aload_n (pc := 14) dX11_addThing_14 rfl rfl ?_
  refine r_aload_n (pc := 15) dX11_addThing_15 rfl rfl ?_
  refine rs_get (pc := 16) dX11_addThing_16 rfl f_RX11_7 rfl ?_
  refine r_iconst (v := 4) (pc := 19) dX11_addThing_19 (by decide) ?_
  refine rs_ld (4) (pc := 20) dX11_addThing_20 rfl (by omega) ?_
  refine r_bipush (v := 6) (pc := 21) dX11_addThing_21 (by decide) ?_
  refine r_icmp_ge 30 (pc := 23) dX11_addThing_23 (by decide) (fun c23 => absurd c23 (c_gef h4 rfl (a := k) (b := 6) (by omega) (by omega) (by omega))) (fun c23 => ?_)
  refine r_iconst (v := 1) (pc := 26) dX11_addThing_26 (by decide) ?_
  refine r_goto 31 (pc := 27) dX11_addThing_27 (by decide) ?_
  refine r_iconst (v := 2) (pc := 31) dX11_addThing_31 (by decide) ?_
  refine rs_call (vs := [.int _, .int _]) (pc := 32) dX11_addThing_32 rfl l_RX11_37 rfl rfl ⟨by decide, by decide⟩ rfl (Nat.le_of_ble_eq_true rfl) hl (Nat.le_of_ble_eq_true rfl) (s_X11_holds1 rfl) rfl ?_
  refine r_if_ne 40 (pc := 35) dX11_addThing_35 (by decide) (fun c35 => ?_) (fun c35 => absurd c35 (c_eqf rfl rfl (a := 1) (b := 0) (by omega) (by omega) (by omega)))
  refine r_aload_n (pc := 40) dX11_addThing_40 rfl rfl ?_
  refine rs_call (vs := []) (pc := 41) dX11_addThing_41 rfl l_RX11_130 rfl rfl ⟨by decide, by decide⟩ rfl (Nat.le_of_ble_eq_true rfl) hl (Nat.le_of_ble_eq_true rfl) (s_X11_save c (by rw [upd_n (by decide), upd_n (by decide)]; exact hc) hc4) rfl ?_
  refine r_aload_n (pc := 44) dX11_addThing_44 rfl rfl ?_
  refine r_iload_n (pc := 45) dX11_addThing_45 rfl rfl ?_
  refine r_iload_n (pc := 46) dX11_addThing_46 rfl rfl ?_
  refine rs_call (vs := [.int _, .int _]) (pc := 47) dX11_addThing_47 rfl l_RX11_148 rfl rfl ⟨by decide, by decide⟩ rfl (Nat.le_of_ble_eq_true rfl) hl (Nat.le_of_ble_eq_true rfl) (s_X11_adds k h4 hk _ _) rfl ?_
  refine r_aload_n (pc := 50) dX11_addThing_50 rfl rfl ?_
  refine rs_get (pc := 51) dX11_addThing_51 rfl f_RX11_7 rfl ?_
  refine r_iconst (v := 4) (pc := 54) dX11_addThing_54 (by decide) ?_
  refine rs_ld (4) (pc := 55) dX11_addThing_55 rfl (by omega) ?_
  refine r_iconst (v := 1) (pc := 56) dX11_addThing_56 (by decide) ?_
  refine r_isub (pc := 57) dX11_addThing_57 ?_
  exact r_ireturn (S := []) (pc := 58) dX11_addThing_58 rfl rfl ⟨rfl, rfl⟩
theorem lp_rmt {om : OM} {l : Launch} {B : Nat × Nat} {h0 : Hp} {I : Nat → Int32} {J : Nat → Int64} {A a v t n : Nat → Int32} {Post : Out → Hp → Prop} (x : Int32) (lo K E : Nat) (hlo : 134 ≤ lo) (hK : A 4 = nI K) (hK6 : K ≤ 5) (hE : E = 134 + 2 * K) : ∀ (n9 k : Nat) (g : Nat → Int32), k + n9 = E → g = R_shl A lo k → lo ≤ k → Runs om l M_X11_removeThing B 73 [some (.ref 119), some (.int x), some (.int (nI E))] [] (rH h0 I J (R_shl A lo E) a v t n) Post → Runs om l M_X11_removeThing B 37 [some (.ref 119), some (.int x), some (.int (nI k))] [] (rH h0 I J g a v t n) Post := by
  intro n9
  induction n9 with
  | zero =>
    intro k g hk e_g hy KK
    have h4g : g 4 = nI K := by rw [e_g]; unfold R_shl; rw [if_neg (by omega)]; exact hK
    have e9 : k = E := by omega
    refine r_iload_n (pc := 37) dX11_removeThing_37 rfl rfl ?_
    refine r_sipush (v := 134) (pc := 38) dX11_removeThing_38 (by decide) ?_
    refine r_iconst (v := 2) (pc := 41) dX11_removeThing_41 (by decide) ?_
    refine r_aload_n (pc := 42) dX11_removeThing_42 rfl rfl ?_
    refine rs_get (pc := 43) dX11_removeThing_43 rfl f_RX11_7 rfl ?_
    refine r_iconst (v := 4) (pc := 46) dX11_removeThing_46 (by decide) ?_
    refine rs_ld (4) (pc := 47) dX11_removeThing_47 rfl (by omega) ?_
    refine r_imul (pc := 48) dX11_removeThing_48 ?_
    refine r_iadd (pc := 49) dX11_removeThing_49 ?_
    refine r_icmp_ge 73 (pc := 50) dX11_removeThing_50 (by decide) (fun c50 => ?_) (fun c50 => absurd (c_get rfl (nadd rfl (nmul rfl h4g)) (a := k) (b := 134 + (2 * K)) (by omega) (by omega) (by omega)) c50)
    subst e9
    subst e_g
    exact KK
  | succ n9 ih =>
    intro k g hk e_g hy KK
    have h4g : g 4 = nI K := by rw [e_g]; unfold R_shl; rw [if_neg (by omega)]; exact hK
    refine r_iload_n (pc := 37) dX11_removeThing_37 rfl rfl ?_
    refine r_sipush (v := 134) (pc := 38) dX11_removeThing_38 (by decide) ?_
    refine r_iconst (v := 2) (pc := 41) dX11_removeThing_41 (by decide) ?_
    refine r_aload_n (pc := 42) dX11_removeThing_42 rfl rfl ?_
    refine rs_get (pc := 43) dX11_removeThing_43 rfl f_RX11_7 rfl ?_
    refine r_iconst (v := 4) (pc := 46) dX11_removeThing_46 (by decide) ?_
    refine rs_ld (4) (pc := 47) dX11_removeThing_47 rfl (by omega) ?_
    refine r_imul (pc := 48) dX11_removeThing_48 ?_
    refine r_iadd (pc := 49) dX11_removeThing_49 ?_
    refine r_icmp_ge 73 (pc := 50) dX11_removeThing_50 (by decide) (fun c50 => absurd c50 (c_gef rfl (nadd rfl (nmul rfl h4g)) (a := k) (b := 134 + (2 * K)) (by omega) (by omega) (by omega))) (fun c50 => ?_)
    refine r_aload_n (pc := 53) dX11_removeThing_53 rfl rfl ?_
    refine rs_get (pc := 54) dX11_removeThing_54 rfl f_RX11_7 rfl ?_
    refine r_iload_n (pc := 57) dX11_removeThing_57 rfl rfl ?_
    refine r_aload_n (pc := 58) dX11_removeThing_58 rfl rfl ?_
    refine rs_get (pc := 59) dX11_removeThing_59 rfl f_RX11_7 rfl ?_
    refine r_iload_n (pc := 62) dX11_removeThing_62 rfl rfl ?_
    refine r_iconst (v := 2) (pc := 63) dX11_removeThing_63 (by decide) ?_
    refine r_iadd (pc := 64) dX11_removeThing_64 ?_
    refine rs_ld (k + 2) (pc := 65) dX11_removeThing_65 (nadd rfl rfl) (by omega) ?_
    refine rs_st (k) (pc := 66) dX11_removeThing_66 rfl (by omega) ?_
    refine q_iinc (nI (k + 1)) [_, _, _] (pc := 67) dX11_removeThing_67 rfl (by decide) (ninc 1 rfl) rfl ?_
    refine r_goto 37 (pc := 70) dX11_removeThing_70 (by decide) ?_
    exact ih (k + 1) _ (by omega) (by rw [e_g]; exact R_shl_s hy) (by omega) KK
theorem s_X11_removeThing_no {om : OM} {l : Launch} {B : Nat × Nat} {h0 : Hp} {I : Nat → Int32} {J : Nat → Int64} {A a v t n : Nat → Int32} (hl : l.stackTraces = false) (d : Int32) (h : R_in d 0 (A 4 - 1) = 0) : Runs om l M_X11_removeThing B 0 (entL 3 [.ref 119, .int d]) [] (rH h0 I J A a v t n) (Det (some (.int 0)) (rH h0 (upd I 0 1) J A a v t n)) := by
  show Runs om l M_X11_removeThing B 0 [some (.ref 119), some (.int d), none] [] _ _
  refine r_aload_n (pc := 0) dX11_removeThing_0 rfl rfl ?_
  refine r_aload_n (pc := 1) dX11_removeThing_1 rfl rfl ?_
  refine r_iload_n (pc := 2) dX11_removeThing_2 rfl rfl ?_
  refine rs_call (vs := [.int _]) (pc := 3) dX11_removeThing_3 rfl l_RX11_152 rfl rfl ⟨by decide, by decide⟩ rfl (Nat.le_of_ble_eq_true rfl) hl (Nat.le_of_ble_eq_true rfl) (s_X11_isThing hl _) rfl ?_
  refine r_iconst (v := 1) (pc := 6) dX11_removeThing_6 (by decide) ?_
  refine rs_call (vs := [.int _, .int _]) (pc := 7) dX11_removeThing_7 rfl l_RX11_37 rfl rfl ⟨by decide, by decide⟩ rfl (Nat.le_of_ble_eq_true rfl) hl (Nat.le_of_ble_eq_true rfl) (s_X11_holds0 h) rfl ?_
  refine r_if_ne 15 (pc := 10) dX11_removeThing_10 (by decide) (fun c10 => absurd (c_eqt rfl rfl (a := 0) (b := 0) (by omega) (by omega) (by omega)) c10) (fun c10 => ?_)
  refine r_iconst (v := 0) (pc := 13) dX11_removeThing_13 (by decide) ?_
  exact r_ireturn (S := []) (pc := 14) dX11_removeThing_14 rfl rfl ⟨rfl, rfl⟩
theorem s_X11_removeThing_yes {om : OM} {l : Launch} {B : Nat × Nat} {h0 : Hp} {I : Nat → Int32} {J : Nat → Int64} {A a v t n : Nat → Int32} (hl : l.stackTraces = false) (d : Int32) (h : R_in d 0 (A 4 - 1) = 1) (c : Nat) (hc : I 4 = nI c) (hc4 : c ≤ 4) (k x : Nat) (h4 : A 4 = nI k) (hk : k ≤ 6) (hx : d = nI x) (hxk : x < k) : Runs om l M_X11_removeThing B 0 (entL 3 [.ref 119, .int d]) [] (rH h0 I J A a v t n) (Det (some (.int (R_rm A k x 4))) (rH h0 (R_saveI (upd I 0 0)) J (R_rm A k x) a (R_savev c A v) t n)) := by
  show Runs om l M_X11_removeThing B 0 [some (.ref 119), some (.int d), none] [] _ _
  refine r_aload_n (pc := 0) dX11_removeThing_0 rfl rfl ?_
  refine r_aload_n (pc := 1) dX11_removeThing_1 rfl rfl ?_
  refine r_iload_n (pc := 2) dX11_removeThing_2 rfl rfl ?_
  refine rs_call (vs := [.int _]) (pc := 3) dX11_removeThing_3 rfl l_RX11_152 rfl rfl ⟨by decide, by decide⟩ rfl (Nat.le_of_ble_eq_true rfl) hl (Nat.le_of_ble_eq_true rfl) (s_X11_isThing hl _) rfl ?_
  refine r_iconst (v := 1) (pc := 6) dX11_removeThing_6 (by decide) ?_
  refine rs_call (vs := [.int _, .int _]) (pc := 7) dX11_removeThing_7 rfl l_RX11_37 rfl rfl ⟨by decide, by decide⟩ rfl (Nat.le_of_ble_eq_true rfl) hl (Nat.le_of_ble_eq_true rfl) (s_X11_holds1 h) rfl ?_
  refine r_if_ne 15 (pc := 10) dX11_removeThing_10 (by decide) (fun c10 => ?_) (fun c10 => absurd c10 (c_eqf rfl rfl (a := 1) (b := 0) (by omega) (by omega) (by omega)))
  refine r_aload_n (pc := 15) dX11_removeThing_15 rfl rfl ?_
  refine rs_call (vs := []) (pc := 16) dX11_removeThing_16 rfl l_RX11_130 rfl rfl ⟨by decide, by decide⟩ rfl (Nat.le_of_ble_eq_true rfl) hl (Nat.le_of_ble_eq_true rfl) (s_X11_save c (by rw [upd_n (by decide)]; exact hc) hc4) rfl ?_
  refine r_aload_n (pc := 19) dX11_removeThing_19 rfl rfl ?_
  refine rs_get (pc := 20) dX11_removeThing_20 rfl f_RX11_7 rfl ?_
  refine r_iconst (v := 4) (pc := 23) dX11_removeThing_23 (by decide) ?_
  refine r_dup2 (pc := 24) dX11_removeThing_24 rfl rfl ?_
  refine rs_ld (4) (pc := 25) dX11_removeThing_25 rfl (by omega) ?_
  refine r_iconst (v := 1) (pc := 26) dX11_removeThing_26 (by decide) ?_
  refine r_isub (pc := 27) dX11_removeThing_27 ?_
  refine rs_st (4) (pc := 28) dX11_removeThing_28 rfl (by omega) ?_
  have h4b : upd A 4 (A 4 - 1) 4 = nI (k - 1) := by rw [upd_s, h4]; exact nsub rfl rfl (by omega)
  refine r_sipush (v := 134) (pc := 29) dX11_removeThing_29 (by decide) ?_
  refine r_iconst (v := 2) (pc := 32) dX11_removeThing_32 (by decide) ?_
  refine r_iload_n (pc := 33) dX11_removeThing_33 rfl rfl ?_
  refine r_imul (pc := 34) dX11_removeThing_34 ?_
  refine r_iadd (pc := 35) dX11_removeThing_35 ?_
  refine q_istore_n [_, _, _] (pc := 36) dX11_removeThing_36 rfl (by decide) rfl ?_
  rw [show (134 : Int32) + 2 * d = nI (134 + 2 * x) from nadd rfl (nmul rfl hx)]
  refine lp_rmt d (134 + 2 * x) (k - 1) (134 + 2 * (k - 1)) (by omega) h4b (by omega) rfl (2 * (k - 1 - x)) (134 + 2 * x) _ (by omega) R_shl_0.symm (Nat.le_refl _) ?_
  refine r_aload_n (pc := 73) dX11_removeThing_73 rfl rfl ?_
  refine rs_get (pc := 74) dX11_removeThing_74 rfl f_RX11_7 rfl ?_
  refine r_iconst (v := 4) (pc := 77) dX11_removeThing_77 (by decide) ?_
  refine rs_ld (4) (pc := 78) dX11_removeThing_78 rfl (by omega) ?_
  exact r_ireturn (S := []) (pc := 79) dX11_removeThing_79 rfl rfl ⟨rfl, rfl⟩
theorem s_X11_setS_no {om : OM} {l : Launch} {B : Nat × Nat} {h0 : Hp} {I : Nat → Int32} {J : Nat → Int64} {A a v t n : Nat → Int32} (hl : l.stackTraces = false) (d : Int32) (h : R_nn d = 0) : Runs om l M_X11_setS B 0 (entL 2 [.ref 119, .int d]) [] (rH h0 I J A a v t n) (Det (some (.int 0)) (rH h0 (upd I 0 1) J A a v t n)) := by
  show Runs om l M_X11_setS B 0 [some (.ref 119), some (.int d)] [] _ _
  refine r_aload_n (pc := 0) dX11_setS_0 rfl rfl ?_
  refine r_join 10 (R_nn d) ?_ (fun J1 => ?_)
  · refine r_iconst (v := 1) (pc := 10) dX11_setS_10 (by decide) ?_
    refine rs_call (vs := [.int _, .int _]) (pc := 11) dX11_setS_11 rfl l_RX11_37 rfl rfl ⟨by decide, by decide⟩ rfl (Nat.le_of_ble_eq_true rfl) hl (Nat.le_of_ble_eq_true rfl) (s_X11_holds0 h) rfl ?_
    refine r_if_eq 27 (pc := 14) dX11_setS_14 (by decide) (fun c14 => ?_) (fun c14 => absurd (c_eqt rfl rfl (a := 0) (b := 0) (by omega) (by omega) (by omega)) c14)
    refine r_iconst (v := 0) (pc := 27) dX11_setS_27 (by decide) ?_
    exact r_ireturn (S := []) (pc := 28) dX11_setS_28 rfl rfl ⟨rfl, rfl⟩
  · refine r_iload_n (pc := 1) dX11_setS_1 rfl rfl ?_
    refine r_if_lt 9 (pc := 2) dX11_setS_2 (by decide) (fun c2 => ?_) (fun c2 => ?_)
    · refine r_iconst (v := 0) (pc := 9) dX11_setS_9 (by decide) ?_
      exact J1 _ (by rw [R_nn]; (repeat (first | rw [if_pos (by assumption)] | rw [if_neg (by assumption)])))
    · refine r_iconst (v := 1) (pc := 5) dX11_setS_5 (by decide) ?_
      refine r_goto 10 (pc := 6) dX11_setS_6 (by decide) ?_
      exact J1 _ (by rw [R_nn]; (repeat (first | rw [if_pos (by assumption)] | rw [if_neg (by assumption)])))
theorem s_X11_setS_yes {om : OM} {l : Launch} {B : Nat × Nat} {h0 : Hp} {I : Nat → Int32} {J : Nat → Int64} {A a v t n : Nat → Int32} (hl : l.stackTraces = false) (d : Int32) (h : R_nn d = 1) (c : Nat) (hc : I 4 = nI c) (hc4 : c ≤ 4)  : Runs om l M_X11_setS B 0 (entL 2 [.ref 119, .int d]) [] (rH h0 I J A a v t n) (Det (some (.int (A 11))) (rH h0 (R_saveI (upd I 0 0)) J (upd A 11 d) a (R_savev c A v) t n)) := by
  show Runs om l M_X11_setS B 0 [some (.ref 119), some (.int d)] [] _ _
  refine r_aload_n (pc := 0) dX11_setS_0 rfl rfl ?_
  refine r_join 10 (R_nn d) ?_ (fun J1 => ?_)
  · refine r_iconst (v := 1) (pc := 10) dX11_setS_10 (by decide) ?_
    refine rs_call (vs := [.int _, .int _]) (pc := 11) dX11_setS_11 rfl l_RX11_37 rfl rfl ⟨by decide, by decide⟩ rfl (Nat.le_of_ble_eq_true rfl) hl (Nat.le_of_ble_eq_true rfl) (s_X11_holds1 h) rfl ?_
    refine r_if_eq 27 (pc := 14) dX11_setS_14 (by decide) (fun c14 => absurd c14 (c_eqf rfl rfl (a := 1) (b := 0) (by omega) (by omega) (by omega))) (fun c14 => ?_)
    refine r_aload_n (pc := 17) dX11_setS_17 rfl rfl ?_
    refine r_bipush (v := 11) (pc := 18) dX11_setS_18 (by decide) ?_
    refine r_iload_n (pc := 20) dX11_setS_20 rfl rfl ?_
    refine rs_call (vs := [.int _, .int _]) (pc := 21) dX11_setS_21 rfl l_RX11_136 rfl rfl ⟨by decide, by decide⟩ rfl (Nat.le_of_ble_eq_true rfl) hl (Nat.le_of_ble_eq_true rfl) (s_X11_put hl 11 c _ _ rfl (by decide) (by rw [upd_n (by decide)]; exact hc) hc4) rfl ?_
    refine r_goto 28 (pc := 24) dX11_setS_24 (by decide) ?_
    exact r_ireturn (S := []) (pc := 28) dX11_setS_28 rfl rfl ⟨rfl, rfl⟩
  · refine r_iload_n (pc := 1) dX11_setS_1 rfl rfl ?_
    refine r_if_lt 9 (pc := 2) dX11_setS_2 (by decide) (fun c2 => ?_) (fun c2 => ?_)
    · refine r_iconst (v := 0) (pc := 9) dX11_setS_9 (by decide) ?_
      exact J1 _ (by rw [R_nn]; (repeat (first | rw [if_pos (by assumption)] | rw [if_neg (by assumption)])))
    · refine r_iconst (v := 1) (pc := 5) dX11_setS_5 (by decide) ?_
      refine r_goto 10 (pc := 6) dX11_setS_6 (by decide) ?_
      exact J1 _ (by rw [R_nn]; (repeat (first | rw [if_pos (by assumption)] | rw [if_neg (by assumption)])))
theorem s_X11_mask_no {om : OM} {l : Launch} {B : Nat × Nat} {h0 : Hp} {I : Nat → Int32} {J : Nat → Int64} {A a v t n : Nat → Int32} (hl : l.stackTraces = false) (d b : Int32) (h : R_in d 0 10000 = 0) : Runs om l M_X11_mask B 0 (entL 3 [.ref 119, .int d, .int b]) [] (rH h0 I J A a v t n) (Det (some (.int 0)) (rH h0 (upd I 0 1) J A a v t n)) := by
  show Runs om l M_X11_mask B 0 [some (.ref 119), some (.int d), some (.int b)] [] _ _
  refine r_aload_n (pc := 0) dX11_mask_0 rfl rfl ?_
  refine r_iload_n (pc := 1) dX11_mask_1 rfl rfl ?_
  refine r_iconst (v := 0) (pc := 2) dX11_mask_2 (by decide) ?_
  refine r_sipush (v := 10000) (pc := 3) dX11_mask_3 (by decide) ?_
  refine q_callS (vs := [.int _, .int _, .int _]) (pc := 6) dX11_mask_6 rfl l_RX11_89 rfl ⟨by decide, by decide⟩ rfl (Nat.le_of_ble_eq_true rfl) hl (Nat.le_of_ble_eq_true rfl) (s_X11_in _ _ _) rfl ?_
  refine r_iconst (v := 1) (pc := 9) dX11_mask_9 (by decide) ?_
  refine rs_call (vs := [.int _, .int _]) (pc := 10) dX11_mask_10 rfl l_RX11_37 rfl rfl ⟨by decide, by decide⟩ rfl (Nat.le_of_ble_eq_true rfl) hl (Nat.le_of_ble_eq_true rfl) (s_X11_holds0 h) rfl ?_
  refine r_if_eq 40 (pc := 13) dX11_mask_13 (by decide) (fun c13 => ?_) (fun c13 => absurd (c_eqt rfl rfl (a := 0) (b := 0) (by omega) (by omega) (by omega)) c13)
  refine r_iconst (v := 0) (pc := 40) dX11_mask_40 (by decide) ?_
  exact r_ireturn (S := []) (pc := 41) dX11_mask_41 rfl rfl ⟨rfl, rfl⟩
theorem s_X11_mask_yes {om : OM} {l : Launch} {B : Nat × Nat} {h0 : Hp} {I : Nat → Int32} {J : Nat → Int64} {A a v t n : Nat → Int32} (hl : l.stackTraces = false) (d b : Int32) (h : R_in d 0 10000 = 1) (c : Nat) (hc : I 4 = nI c) (hc4 : c ≤ 4) (x : Nat) (hx : d = nI x) (hx1 : x ≤ 10000) : Runs om l M_X11_mask B 0 (entL 3 [.ref 119, .int d, .int b]) [] (rH h0 I J A a v t n) (Det (some (.int (A (146 + x / 20)))) (rH h0 (R_saveI (upd I 0 0)) J (upd A (146 + x / 20) (R_one b)) a (R_savev c A v) t n)) := by
  show Runs om l M_X11_mask B 0 [some (.ref 119), some (.int d), some (.int b)] [] _ _
  refine r_aload_n (pc := 0) dX11_mask_0 rfl rfl ?_
  refine r_iload_n (pc := 1) dX11_mask_1 rfl rfl ?_
  refine r_iconst (v := 0) (pc := 2) dX11_mask_2 (by decide) ?_
  refine r_sipush (v := 10000) (pc := 3) dX11_mask_3 (by decide) ?_
  refine q_callS (vs := [.int _, .int _, .int _]) (pc := 6) dX11_mask_6 rfl l_RX11_89 rfl ⟨by decide, by decide⟩ rfl (Nat.le_of_ble_eq_true rfl) hl (Nat.le_of_ble_eq_true rfl) (s_X11_in _ _ _) rfl ?_
  refine r_iconst (v := 1) (pc := 9) dX11_mask_9 (by decide) ?_
  refine rs_call (vs := [.int _, .int _]) (pc := 10) dX11_mask_10 rfl l_RX11_37 rfl rfl ⟨by decide, by decide⟩ rfl (Nat.le_of_ble_eq_true rfl) hl (Nat.le_of_ble_eq_true rfl) (s_X11_holds1 h) rfl ?_
  refine r_if_eq 40 (pc := 13) dX11_mask_13 (by decide) (fun c13 => absurd c13 (c_eqf rfl rfl (a := 1) (b := 0) (by omega) (by omega) (by omega))) (fun c13 => ?_)
  refine r_aload_n (pc := 16) dX11_mask_16 rfl rfl ?_
  refine r_sipush (v := 146) (pc := 17) dX11_mask_17 (by decide) ?_
  refine r_iload_n (pc := 20) dX11_mask_20 rfl rfl ?_
  refine r_bipush (v := 20) (pc := 21) dX11_mask_21 (by decide) ?_
  refine r_idiv (pc := 23) dX11_mask_23 (by decide) ?_
  refine r_iadd (pc := 24) dX11_mask_24 ?_
  refine r_join 34 (R_one b) ?_ (fun J25 => ?_)
  · refine rs_call (vs := [.int _, .int _]) (pc := 34) dX11_mask_34 rfl l_RX11_136 rfl rfl ⟨by decide, by decide⟩ rfl (Nat.le_of_ble_eq_true rfl) hl (Nat.le_of_ble_eq_true rfl) (s_X11_put hl (146 + x / 20) c _ _ (nadd rfl (ndiv hx rfl (by omega) (by omega) (by omega))) (by omega) (by rw [upd_n (by decide)]; exact hc) hc4) rfl ?_
    refine r_goto 41 (pc := 37) dX11_mask_37 (by decide) ?_
    exact r_ireturn (S := []) (pc := 41) dX11_mask_41 rfl rfl ⟨rfl, rfl⟩
  · refine r_iload_n (pc := 25) dX11_mask_25 rfl rfl ?_
    refine r_if_eq 33 (pc := 26) dX11_mask_26 (by decide) (fun c26 => ?_) (fun c26 => ?_)
    · refine r_iconst (v := 0) (pc := 33) dX11_mask_33 (by decide) ?_
      exact J25 _ (by rw [R_one]; (repeat (first | rw [if_pos (by assumption)] | rw [if_neg (by assumption)])))
    · refine r_iconst (v := 1) (pc := 29) dX11_mask_29 (by decide) ?_
      refine r_goto 34 (pc := 30) dX11_mask_30 (by decide) ?_
      exact J25 _ (by rw [R_one]; (repeat (first | rw [if_pos (by assumption)] | rw [if_neg (by assumption)])))
theorem lp_lr {om : OM} {l : Launch} {B : Nat × Nat} {h0 : Hp} {I : Nat → Int32} {J : Nat → Int64} {A a v t n : Nat → Int32} {Post : Out → Hp → Prop} (d nq : Int32) (K D : Nat) (hK : A 41 = nI K) (hK15 : K ≤ 15) (hD : A 0 = nI D) (hD1 : D ≤ 10000) (hnn : ∀ e, e < K → 0 ≤ A (42 + 4 * e + 1)) : ∀ (n9 k : Nat) (g : Nat → Int32), k + n9 = K → g = itN R_lrb k A → Runs om l M_X11_learns B 89 [some (.ref 119), some (.int d), some (.int nq), some (.int (nI K)), none] [] (rH h0 I J (itN R_lrb K A) a v t n) Post → Runs om l M_X11_learns B 13 [some (.ref 119), some (.int d), some (.int nq), some (.int (nI k)), none] [] (rH h0 I J g a v t n) Post := by
  intro n9
  induction n9 with
  | zero =>
    intro k g hk e_g KK
    have hst : ∀ j, j < 146 → g j = A j := fun j hj => by rw [e_g]; exact lr_it hj k
    have h41g : g 41 = nI K := (hst 41 (by omega)).trans hK
    have hDg : g 0 = nI D := (hst 0 (by omega)).trans hD
    have e9 : k = K := by omega
    refine r_iload_n (pc := 13) dX11_learns_13 rfl rfl ?_
    refine r_aload_n (pc := 14) dX11_learns_14 rfl rfl ?_
    refine rs_get (pc := 15) dX11_learns_15 rfl f_RX11_7 rfl ?_
    refine r_bipush (v := 41) (pc := 18) dX11_learns_18 (by decide) ?_
    refine rs_ld (41) (pc := 20) dX11_learns_20 rfl (by omega) ?_
    refine r_icmp_ge 89 (pc := 21) dX11_learns_21 (by decide) (fun c21 => ?_) (fun c21 => absurd (c_get rfl h41g (a := k) (b := K) (by omega) (by omega) (by omega)) c21)
    subst e9
    subst e_g
    exact KK
  | succ n9 ih =>
    intro k g hk e_g KK
    have hst : ∀ j, j < 146 → g j = A j := fun j hj => by rw [e_g]; exact lr_it hj k
    have h41g : g 41 = nI K := (hst 41 (by omega)).trans hK
    have hDg : g 0 = nI D := (hst 0 (by omega)).trans hD
    obtain ⟨x, hx31, hx⟩ := nn_ex (hnn k (by omega))
    have hgx := (hst _ (by omega)).trans hx
    refine r_iload_n (pc := 13) dX11_learns_13 rfl rfl ?_
    refine r_aload_n (pc := 14) dX11_learns_14 rfl rfl ?_
    refine rs_get (pc := 15) dX11_learns_15 rfl f_RX11_7 rfl ?_
    refine r_bipush (v := 41) (pc := 18) dX11_learns_18 (by decide) ?_
    refine rs_ld (41) (pc := 20) dX11_learns_20 rfl (by omega) ?_
    refine r_icmp_ge 89 (pc := 21) dX11_learns_21 (by decide) (fun c21 => absurd c21 (c_gef rfl h41g (a := k) (b := K) (by omega) (by omega) (by omega))) (fun c21 => ?_)
    refine r_bipush (v := 42) (pc := 24) dX11_learns_24 (by decide) ?_
    refine r_iconst (v := 4) (pc := 26) dX11_learns_26 (by decide) ?_
    refine r_iload_n (pc := 27) dX11_learns_27 rfl rfl ?_
    refine r_imul (pc := 28) dX11_learns_28 ?_
    refine r_iadd (pc := 29) dX11_learns_29 ?_
    refine q_istore [_, _, _, _, _] (pc := 30) dX11_learns_30 (by decide) rfl ?_
    refine r_aload_n (pc := 32) dX11_learns_32 rfl rfl ?_
    refine rs_get (pc := 33) dX11_learns_33 rfl f_RX11_7 rfl ?_
    refine r_iload (pc := 36) dX11_learns_36 rfl ?_
    refine rs_ld (42 + (4 * k)) (pc := 38) dX11_learns_38 (nadd rfl (nmul rfl rfl)) (by omega) ?_
    refine r_iconst (v := 2) (pc := 39) dX11_learns_39 (by decide) ?_
    refine r_icmp_ge 83 (pc := 40) dX11_learns_40 (by decide) (fun c40 => ?_) (fun c40 => ?_)
    · refine q_iinc (nI (k + 1)) [_, _, _, _, _] (pc := 83) dX11_learns_83 rfl (by decide) (ninc 1 rfl) rfl ?_
      refine r_goto 13 (pc := 86) dX11_learns_86 (by decide) ?_
      refine r_wk [some _, some _, some _, some _, none] ⟨rfl, ⟨rfl, ⟨rfl, ⟨rfl, trivial⟩⟩⟩⟩ ?_
      exact ih (k + 1) _ (by omega) (by rw [itN_s, R_lrb, ← e_g]; (repeat (first | rw [if_pos (by assumption)] | rw [if_neg (by assumption)])); try (rw [cl_nI hgx hx31])) KK
    · refine r_aload_n (pc := 43) dX11_learns_43 rfl rfl ?_
      refine rs_get (pc := 44) dX11_learns_44 rfl f_RX11_7 rfl ?_
      refine r_iload (pc := 47) dX11_learns_47 rfl ?_
      refine r_iconst (v := 1) (pc := 49) dX11_learns_49 (by decide) ?_
      refine r_iadd (pc := 50) dX11_learns_50 ?_
      refine rs_ld ((42 + (4 * k)) + 1) (pc := 51) dX11_learns_51 (nadd (nadd rfl (nmul rfl rfl)) rfl) (by omega) ?_
      refine r_aload_n (pc := 52) dX11_learns_52 rfl rfl ?_
      refine rs_get (pc := 53) dX11_learns_53 rfl f_RX11_7 rfl ?_
      refine r_iconst (v := 0) (pc := 56) dX11_learns_56 (by decide) ?_
      refine rs_ld (0) (pc := 57) dX11_learns_57 rfl (by omega) ?_
      refine r_icmp_gt 83 (pc := 58) dX11_learns_58 (by decide) (fun c58 => ?_) (fun c58 => ?_)
      · refine q_iinc (nI (k + 1)) [_, _, _, _, _] (pc := 83) dX11_learns_83 rfl (by decide) (ninc 1 rfl) rfl ?_
        refine r_goto 13 (pc := 86) dX11_learns_86 (by decide) ?_
        refine r_wk [some _, some _, some _, some _, none] ⟨rfl, ⟨rfl, ⟨rfl, ⟨rfl, trivial⟩⟩⟩⟩ ?_
        exact ih (k + 1) _ (by omega) (by rw [itN_s, R_lrb, ← e_g]; (repeat (first | rw [if_pos (by assumption)] | rw [if_neg (by assumption)])); try (rw [cl_nI hgx hx31])) KK
      · have hxD : x ≤ D := n_nlt hgx hDg hx31 (by omega) c58
        refine r_aload_n (pc := 61) dX11_learns_61 rfl rfl ?_
        refine rs_get (pc := 62) dX11_learns_62 rfl f_RX11_7 rfl ?_
        refine r_sipush (v := 146) (pc := 65) dX11_learns_65 (by decide) ?_
        refine r_aload_n (pc := 68) dX11_learns_68 rfl rfl ?_
        refine rs_get (pc := 69) dX11_learns_69 rfl f_RX11_7 rfl ?_
        refine r_iload (pc := 72) dX11_learns_72 rfl ?_
        refine r_iconst (v := 1) (pc := 74) dX11_learns_74 (by decide) ?_
        refine r_iadd (pc := 75) dX11_learns_75 ?_
        refine rs_ld ((42 + (4 * k)) + 1) (pc := 76) dX11_learns_76 (nadd (nadd rfl (nmul rfl rfl)) rfl) (by omega) ?_
        refine r_bipush (v := 20) (pc := 77) dX11_learns_77 (by decide) ?_
        refine r_idiv (pc := 79) dX11_learns_79 (by decide) ?_
        refine r_iadd (pc := 80) dX11_learns_80 ?_
        refine r_iconst (v := 1) (pc := 81) dX11_learns_81 (by decide) ?_
        refine rs_st (146 + (x / 20)) (pc := 82) dX11_learns_82 (nadd rfl (ndiv hgx rfl (by omega) (by omega) (by omega))) (by omega) ?_
        refine q_iinc (nI (k + 1)) [_, _, _, _, _] (pc := 83) dX11_learns_83 rfl (by decide) (ninc 1 rfl) rfl ?_
        refine r_goto 13 (pc := 86) dX11_learns_86 (by decide) ?_
        refine r_wk [some _, some _, some _, some _, none] ⟨rfl, ⟨rfl, ⟨rfl, ⟨rfl, trivial⟩⟩⟩⟩ ?_
        exact ih (k + 1) _ (by omega) (by rw [itN_s, R_lrb, ← e_g]; (repeat (first | rw [if_pos (by assumption)] | rw [if_neg (by assumption)])); try (rw [cl_nI hgx hx31])) KK
theorem lp_learns {om : OM} {l : Launch} {B : Nat × Nat} {h0 : Hp} {I : Nat → Int32} {J : Nat → Int64} {A a v t n : Nat → Int32} {Post : Out → Hp → Prop} (hl : l.stackTraces = false) (d : Int32) (K : Nat) (hd : d = nI K) (hK : K ≤ 500) (hw : WF A) : ∀ (n9 k : Nat) (g : Nat → Int32), k + n9 = K → g = R_learns A k → Runs om l M_X11_learns B 95 [some (.ref 119), some (.int d), some (.int (nI K)), none, none] [] (rH h0 I J (R_learns A K) a v t n) Post → Runs om l M_X11_learns B 2 [some (.ref 119), some (.int d), some (.int (nI k)), none, none] [] (rH h0 I J g a v t n) Post := by
  intro n9
  induction n9 with
  | zero =>
    intro k g hk e_g KK
    have hwg : WF g := by rw [e_g]; exact WF_learns hw k
    have hF := WF_fires hwg
    obtain ⟨K4, h4, hK4⟩ := hwg.K4
    obtain ⟨K5, h5, hK5⟩ := hwg.K5
    obtain ⟨K41, h41, hK41⟩ := hF.K41
    obtain ⟨D, hD, hD1⟩ := hF.D
    have hnn0 := fires_DI hwg
    have hnn : ∀ e, e < K41 → 0 ≤ R_fires g (42 + 4 * e + 1) := fun e he => hnn0 e (by rw [cl_nI h41 (by omega)]; exact he)
    have e9 : k = K := by omega
    refine r_iload_n (pc := 2) dX11_learns_2 rfl rfl ?_
    refine r_iload_n (pc := 3) dX11_learns_3 rfl rfl ?_
    refine r_icmp_ge 95 (pc := 4) dX11_learns_4 (by decide) (fun c4 => ?_) (fun c4 => absurd (c_get rfl hd (a := k) (b := K) (by omega) (by omega) (by omega)) c4)
    subst e9
    subst e_g
    exact KK
  | succ n9 ih =>
    intro k g hk e_g KK
    have hwg : WF g := by rw [e_g]; exact WF_learns hw k
    have hF := WF_fires hwg
    obtain ⟨K4, h4, hK4⟩ := hwg.K4
    obtain ⟨K5, h5, hK5⟩ := hwg.K5
    obtain ⟨K41, h41, hK41⟩ := hF.K41
    obtain ⟨D, hD, hD1⟩ := hF.D
    have hnn0 := fires_DI hwg
    have hnn : ∀ e, e < K41 → 0 ≤ R_fires g (42 + 4 * e + 1) := fun e he => hnn0 e (by rw [cl_nI h41 (by omega)]; exact he)
    refine r_iload_n (pc := 2) dX11_learns_2 rfl rfl ?_
    refine r_iload_n (pc := 3) dX11_learns_3 rfl rfl ?_
    refine r_icmp_ge 95 (pc := 4) dX11_learns_4 (by decide) (fun c4 => absurd c4 (c_gef rfl hd (a := k) (b := K) (by omega) (by omega) (by omega))) (fun c4 => ?_)
    refine r_aload_n (pc := 7) dX11_learns_7 rfl rfl ?_
    refine rs_call (vs := []) (pc := 8) dX11_learns_8 rfl l_RX11_106 rfl rfl ⟨by decide, by decide⟩ rfl (Nat.le_of_ble_eq_true rfl) hl (Nat.le_of_ble_eq_true rfl) (s_X11_fires hl K4 K5 h4 hK4 h5 hK5) rfl ?_
    refine r_iconst (v := 0) (pc := 11) dX11_learns_11 (by decide) ?_
    refine q_istore_n [_, _, _, _, _] (pc := 12) dX11_learns_12 rfl (by decide) rfl ?_
    refine r_wk [some _, some _, some _, some _, none] ⟨rfl, rfl, rfl, rfl, trivial⟩ ?_
    refine lp_lr (A := R_fires g) d _ K41 D h41 hK41 hD hD1 hnn K41 0 _ (by omega) rfl ?_
    refine q_iinc (nI (k + 1)) [_, _, _, _, _] (pc := 89) dX11_learns_89 rfl (by decide) (ninc 1 rfl) rfl ?_
    refine r_goto 2 (pc := 92) dX11_learns_92 (by decide) ?_
    refine r_wk [some _, some _, some _, none, none] ⟨rfl, ⟨rfl, ⟨rfl, trivial⟩⟩⟩ ?_
    exact ih (k + 1) _ (by omega) (by rw [learns_s, ← e_g]; unfold R_lr; rw [cl_nI h41 (by omega)]) KK
theorem s_X11_learns {om : OM} {l : Launch} {B : Nat × Nat} {h0 : Hp} {I : Nat → Int32} {J : Nat → Int64} {A a v t n : Nat → Int32} (hl : l.stackTraces = false) (K : Nat) (d : Int32) (hd : d = nI K) (hK : K ≤ 500) (hw : WF A) : Runs om l M_X11_learns B 0 (entL 5 [.ref 119, .int d]) [] (rH h0 I J A a v t n) (Det (none) (rH h0 I J (R_learns A K) a v t n)) := by
  show Runs om l M_X11_learns B 0 [some (.ref 119), some (.int d), none, none, none] [] _ _
  refine r_iconst (v := 0) (pc := 0) dX11_learns_0 (by decide) ?_
  refine q_istore_n [_, _, _, _, _] (pc := 1) dX11_learns_1 rfl (by decide) rfl ?_
  refine lp_learns hl d K hd hK hw K 0 _ (by omega) (by rw [learns_0]) ?_
  exact r_return (S := []) (pc := 95) dX11_learns_95 rfl ⟨rfl, rfl⟩
theorem s_X11_learn_no {om : OM} {l : Launch} {B : Nat × Nat} {h0 : Hp} {I : Nat → Int32} {J : Nat → Int64} {A a v t n : Nat → Int32} (hl : l.stackTraces = false) (d : Int32) (h : R_in d 1 50 = 0) : Runs om l M_X11_learn B 0 (entL 2 [.ref 119, .int d]) [] (rH h0 I J A a v t n) (Det (some (.int 0)) (rH h0 (upd I 0 1) J A a v t n)) := by
  show Runs om l M_X11_learn B 0 [some (.ref 119), some (.int d)] [] _ _
  refine r_aload_n (pc := 0) dX11_learn_0 rfl rfl ?_
  refine r_iload_n (pc := 1) dX11_learn_1 rfl rfl ?_
  refine q_callS (vs := [.int _]) (pc := 2) dX11_learn_2 rfl l_RX11_175 rfl ⟨by decide, by decide⟩ rfl (Nat.le_of_ble_eq_true rfl) hl (Nat.le_of_ble_eq_true rfl) (s_X11_canLearn hl _) rfl ?_
  refine r_iconst (v := 1) (pc := 5) dX11_learn_5 (by decide) ?_
  refine rs_call (vs := [.int _, .int _]) (pc := 6) dX11_learn_6 rfl l_RX11_37 rfl rfl ⟨by decide, by decide⟩ rfl (Nat.le_of_ble_eq_true rfl) hl (Nat.le_of_ble_eq_true rfl) (s_X11_holds0 h) rfl ?_
  refine r_if_ne 14 (pc := 9) dX11_learn_9 (by decide) (fun c9 => absurd (c_eqt rfl rfl (a := 0) (b := 0) (by omega) (by omega) (by omega)) c9) (fun c9 => ?_)
  refine r_iconst (v := 0) (pc := 12) dX11_learn_12 (by decide) ?_
  exact r_ireturn (S := []) (pc := 13) dX11_learn_13 rfl rfl ⟨rfl, rfl⟩
theorem s_X11_learn_yes {om : OM} {l : Launch} {B : Nat × Nat} {h0 : Hp} {I : Nat → Int32} {J : Nat → Int64} {A a v t n : Nat → Int32} (hl : l.stackTraces = false) (d : Int32) (h : R_in d 1 50 = 1) (c : Nat) (hc : I 4 = nI c) (hc4 : c ≤ 4) (K : Nat) (hd : d = nI K) (hK : K ≤ 500) (hw : WF A) : Runs om l M_X11_learn B 0 (entL 2 [.ref 119, .int d]) [] (rH h0 I J A a v t n) (Det (some (.int (R_mkd (R_learns A K) 501))) (rH h0 (R_saveI (upd I 0 0)) J (R_learns A K) a (R_savev c A v) t n)) := by
  show Runs om l M_X11_learn B 0 [some (.ref 119), some (.int d)] [] _ _
  refine r_aload_n (pc := 0) dX11_learn_0 rfl rfl ?_
  refine r_iload_n (pc := 1) dX11_learn_1 rfl rfl ?_
  refine q_callS (vs := [.int _]) (pc := 2) dX11_learn_2 rfl l_RX11_175 rfl ⟨by decide, by decide⟩ rfl (Nat.le_of_ble_eq_true rfl) hl (Nat.le_of_ble_eq_true rfl) (s_X11_canLearn hl _) rfl ?_
  refine r_iconst (v := 1) (pc := 5) dX11_learn_5 (by decide) ?_
  refine rs_call (vs := [.int _, .int _]) (pc := 6) dX11_learn_6 rfl l_RX11_37 rfl rfl ⟨by decide, by decide⟩ rfl (Nat.le_of_ble_eq_true rfl) hl (Nat.le_of_ble_eq_true rfl) (s_X11_holds1 h) rfl ?_
  refine r_if_ne 14 (pc := 9) dX11_learn_9 (by decide) (fun c9 => ?_) (fun c9 => absurd c9 (c_eqf rfl rfl (a := 1) (b := 0) (by omega) (by omega) (by omega)))
  refine r_aload_n (pc := 14) dX11_learn_14 rfl rfl ?_
  refine rs_call (vs := []) (pc := 15) dX11_learn_15 rfl l_RX11_130 rfl rfl ⟨by decide, by decide⟩ rfl (Nat.le_of_ble_eq_true rfl) hl (Nat.le_of_ble_eq_true rfl) (s_X11_save c (by rw [upd_n (by decide)]; exact hc) hc4) rfl ?_
  refine r_aload_n (pc := 18) dX11_learn_18 rfl rfl ?_
  refine r_iload_n (pc := 19) dX11_learn_19 rfl rfl ?_
  refine rs_call (vs := [.int _]) (pc := 20) dX11_learn_20 rfl l_RX11_178 rfl rfl ⟨by decide, by decide⟩ rfl (Nat.le_of_ble_eq_true rfl) hl (Nat.le_of_ble_eq_true rfl) (s_X11_learns hl K _ hd hK hw) rfl ?_
  refine r_aload_n (pc := 23) dX11_learn_23 rfl rfl ?_
  refine rs_call (vs := []) (pc := 24) dX11_learn_24 rfl l_RX11_181 rfl rfl ⟨by decide, by decide⟩ rfl (Nat.le_of_ble_eq_true rfl) hl (Nat.le_of_ble_eq_true rfl) (s_X11_masked) rfl ?_
  exact r_ireturn (S := []) (pc := 27) dX11_learn_27 rfl rfl ⟨rfl, rfl⟩
theorem lp_shoots {om : OM} {l : Launch} {B : Nat × Nat} {h0 : Hp} {I : Nat → Int32} {J : Nat → Int64} {A a v t n : Nat → Int32} {Post : Out → Hp → Prop} (hl : l.stackTraces = false) (d : Int32) (K : Nat) (hd : d = nI K) (hK : K ≤ 500) (hw : WF A) : ∀ (n9 k : Nat) (g : Nat → Int32) (nn : Int32), k + n9 = K → g = (R_shoots A k).1 → nn = (R_shoots A k).2 → Runs om l M_X11_shoots B 30 [some (.ref 119), some (.int d), some (.int ((R_shoots A K).2)), some (.int (nI K))] [] (rH h0 I J ((R_shoots A K).1) a v t n) Post → Runs om l M_X11_shoots B 4 [some (.ref 119), some (.int d), some (.int nn), some (.int (nI k))] [] (rH h0 I J g a v t n) Post := by
  intro n9
  induction n9 with
  | zero =>
    intro k g nn hk e_g e_nn KK
    have hwg : WF g := by rw [e_g]; exact WF_shoots hw k
    have e9 : k = K := by omega
    refine r_iload_n (pc := 4) dX11_shoots_4 rfl rfl ?_
    refine r_iload_n (pc := 5) dX11_shoots_5 rfl rfl ?_
    refine r_icmp_ge 30 (pc := 6) dX11_shoots_6 (by decide) (fun c6 => ?_) (fun c6 => absurd (c_get rfl hd (a := k) (b := K) (by omega) (by omega) (by omega)) c6)
    subst e9
    subst e_g
    subst e_nn
    exact KK
  | succ n9 ih =>
    intro k g nn hk e_g e_nn KK
    have hwg : WF g := by rw [e_g]; exact WF_shoots hw k
    refine r_iload_n (pc := 4) dX11_shoots_4 rfl rfl ?_
    refine r_iload_n (pc := 5) dX11_shoots_5 rfl rfl ?_
    refine r_icmp_ge 30 (pc := 6) dX11_shoots_6 (by decide) (fun c6 => absurd c6 (c_gef rfl hd (a := k) (b := K) (by omega) (by omega) (by omega))) (fun c6 => ?_)
    refine r_iload_n (pc := 9) dX11_shoots_9 rfl rfl ?_
    refine r_aload_n (pc := 10) dX11_shoots_10 rfl rfl ?_
    refine rs_call (vs := []) (pc := 11) dX11_shoots_11 rfl l_RX11_184 rfl rfl ⟨by decide, by decide⟩ rfl (Nat.le_of_ble_eq_true rfl) hl (Nat.le_of_ble_eq_true rfl) (s_X11_shot hl hwg) rfl ?_
    refine r_joinE (S := [.int nn]) 22 (R_one (R_shot g).2) ?_ (fun J14 => ?_)
    · refine r_iadd (pc := 22) dX11_shoots_22 ?_
      refine q_istore_n [_, _, _, _] (pc := 23) dX11_shoots_23 rfl (by decide) rfl ?_
      refine q_iinc (nI (k + 1)) [_, _, _, _] (pc := 24) dX11_shoots_24 rfl (by decide) (ninc 1 rfl) rfl ?_
      refine r_goto 4 (pc := 27) dX11_shoots_27 (by decide) ?_
      exact ih (k + 1) _ _ (by omega) (by rw [shoots_s, R_shb, ← e_g]) (by rw [shoots_s, R_shb, ← e_g, ← e_nn]) KK
    · refine r_if_eq 21 (pc := 14) dX11_shoots_14 (by decide) (fun c14 => ?_) (fun c14 => ?_)
      · refine r_iconst (v := 0) (pc := 21) dX11_shoots_21 (by decide) ?_
        exact J14 _ (by first | rw [R_one, if_pos c14] | rw [R_one, if_neg c14])
      · refine r_iconst (v := 1) (pc := 17) dX11_shoots_17 (by decide) ?_
        refine r_goto 22 (pc := 18) dX11_shoots_18 (by decide) ?_
        exact J14 _ (by first | rw [R_one, if_pos c14] | rw [R_one, if_neg c14])
theorem s_X11_shoots {om : OM} {l : Launch} {B : Nat × Nat} {h0 : Hp} {I : Nat → Int32} {J : Nat → Int64} {A a v t n : Nat → Int32} (hl : l.stackTraces = false) (K : Nat) (d : Int32) (hd : d = nI K) (hK : K ≤ 500) (hw : WF A) : Runs om l M_X11_shoots B 0 (entL 4 [.ref 119, .int d]) [] (rH h0 I J A a v t n) (Det (some (.int (R_shoots A K).2)) (rH h0 I J ((R_shoots A K).1) a v t n)) := by
  show Runs om l M_X11_shoots B 0 [some (.ref 119), some (.int d), none, none] [] _ _
  refine r_iconst (v := 0) (pc := 0) dX11_shoots_0 (by decide) ?_
  refine q_istore_n [_, _, _, _] (pc := 1) dX11_shoots_1 rfl (by decide) rfl ?_
  refine r_iconst (v := 0) (pc := 2) dX11_shoots_2 (by decide) ?_
  refine q_istore_n [_, _, _, _] (pc := 3) dX11_shoots_3 rfl (by decide) rfl ?_
  refine lp_shoots hl d K hd hK hw K 0 _ _ (by omega) (by rw [shoots_0]) (by rw [shoots_0]) ?_
  refine r_iload_n (pc := 30) dX11_shoots_30 rfl rfl ?_
  exact r_ireturn (S := []) (pc := 31) dX11_shoots_31 rfl rfl ⟨rfl, rfl⟩
theorem s_X11_shoot_no {om : OM} {l : Launch} {B : Nat × Nat} {h0 : Hp} {I : Nat → Int32} {J : Nat → Int64} {A a v t n : Nat → Int32} (hl : l.stackTraces = false) (d : Int32) (h : R_in d 1 500 = 0) : Runs om l M_X11_shoot B 0 (entL 2 [.ref 119, .int d]) [] (rH h0 I J A a v t n) (Det (some (.int 0)) (rH h0 (upd I 0 1) J A a v t n)) := by
  show Runs om l M_X11_shoot B 0 [some (.ref 119), some (.int d)] [] _ _
  refine r_aload_n (pc := 0) dX11_shoot_0 rfl rfl ?_
  refine r_iload_n (pc := 1) dX11_shoot_1 rfl rfl ?_
  refine q_callS (vs := [.int _]) (pc := 2) dX11_shoot_2 rfl l_RX11_188 rfl ⟨by decide, by decide⟩ rfl (Nat.le_of_ble_eq_true rfl) hl (Nat.le_of_ble_eq_true rfl) (s_X11_canShoot hl _) rfl ?_
  refine r_iconst (v := 1) (pc := 5) dX11_shoot_5 (by decide) ?_
  refine rs_call (vs := [.int _, .int _]) (pc := 6) dX11_shoot_6 rfl l_RX11_37 rfl rfl ⟨by decide, by decide⟩ rfl (Nat.le_of_ble_eq_true rfl) hl (Nat.le_of_ble_eq_true rfl) (s_X11_holds0 h) rfl ?_
  refine r_if_ne 14 (pc := 9) dX11_shoot_9 (by decide) (fun c9 => absurd (c_eqt rfl rfl (a := 0) (b := 0) (by omega) (by omega) (by omega)) c9) (fun c9 => ?_)
  refine r_iconst (v := 0) (pc := 12) dX11_shoot_12 (by decide) ?_
  exact r_ireturn (S := []) (pc := 13) dX11_shoot_13 rfl rfl ⟨rfl, rfl⟩
theorem s_X11_shoot_yes {om : OM} {l : Launch} {B : Nat × Nat} {h0 : Hp} {I : Nat → Int32} {J : Nat → Int64} {A a v t n : Nat → Int32} (hl : l.stackTraces = false) (d : Int32) (h : R_in d 1 500 = 1) (c : Nat) (hc : I 4 = nI c) (hc4 : c ≤ 4) (K : Nat) (hd : d = nI K) (hK : K ≤ 500) (hw : WF A) : Runs om l M_X11_shoot B 0 (entL 2 [.ref 119, .int d]) [] (rH h0 I J A a v t n) (Det (some (.int (R_shoots A K).2)) (rH h0 (R_saveI (upd I 0 0)) J ((R_shoots A K).1) a (R_savev c A v) t n)) := by
  show Runs om l M_X11_shoot B 0 [some (.ref 119), some (.int d)] [] _ _
  refine r_aload_n (pc := 0) dX11_shoot_0 rfl rfl ?_
  refine r_iload_n (pc := 1) dX11_shoot_1 rfl rfl ?_
  refine q_callS (vs := [.int _]) (pc := 2) dX11_shoot_2 rfl l_RX11_188 rfl ⟨by decide, by decide⟩ rfl (Nat.le_of_ble_eq_true rfl) hl (Nat.le_of_ble_eq_true rfl) (s_X11_canShoot hl _) rfl ?_
  refine r_iconst (v := 1) (pc := 5) dX11_shoot_5 (by decide) ?_
  refine rs_call (vs := [.int _, .int _]) (pc := 6) dX11_shoot_6 rfl l_RX11_37 rfl rfl ⟨by decide, by decide⟩ rfl (Nat.le_of_ble_eq_true rfl) hl (Nat.le_of_ble_eq_true rfl) (s_X11_holds1 h) rfl ?_
  refine r_if_ne 14 (pc := 9) dX11_shoot_9 (by decide) (fun c9 => ?_) (fun c9 => absurd c9 (c_eqf rfl rfl (a := 1) (b := 0) (by omega) (by omega) (by omega)))
  refine r_aload_n (pc := 14) dX11_shoot_14 rfl rfl ?_
  refine rs_call (vs := []) (pc := 15) dX11_shoot_15 rfl l_RX11_130 rfl rfl ⟨by decide, by decide⟩ rfl (Nat.le_of_ble_eq_true rfl) hl (Nat.le_of_ble_eq_true rfl) (s_X11_save c (by rw [upd_n (by decide)]; exact hc) hc4) rfl ?_
  refine r_aload_n (pc := 18) dX11_shoot_18 rfl rfl ?_
  refine r_iload_n (pc := 19) dX11_shoot_19 rfl rfl ?_
  refine rs_call (vs := [.int _]) (pc := 20) dX11_shoot_20 rfl l_RX11_191 rfl rfl ⟨by decide, by decide⟩ rfl (Nat.le_of_ble_eq_true rfl) hl (Nat.le_of_ble_eq_true rfl) (s_X11_shoots hl K _ hd hK hw) rfl ?_
  exact r_ireturn (S := []) (pc := 23) dX11_shoot_23 rfl rfl ⟨rfl, rfl⟩
theorem lp_forget {om : OM} {l : Launch} {B : Nat × Nat} {h0 : Hp} {I : Nat → Int32} {J : Nat → Int64} {A a v t n : Nat → Int32} {Post : Out → Hp → Prop} (d : Int32) : ∀ (n9 k : Nat) (g : Nat → Int32), k + n9 = 501 → g = R_unm A k → Runs om l M_X11_forget B 40 [some (.ref 119), some (.int d), some (.int (nI 501))] [] (rH h0 I J (R_unm A 501) a v t n) Post → Runs om l M_X11_forget B 16 [some (.ref 119), some (.int d), some (.int (nI k))] [] (rH h0 I J g a v t n) Post := by
  intro n9
  induction n9 with
  | zero =>
    intro k g hk e_g KK
    subst e_g
    have e9 : k = 501 := by omega
    subst e9
    refine r_iload_n (pc := 16) dX11_forget_16 rfl rfl ?_
    refine r_sipush (v := 501) (pc := 17) dX11_forget_17 (by decide) ?_
    refine r_icmp_ge 40 (pc := 20) dX11_forget_20 (by decide) (fun c20 => ?_) (fun c20 => absurd (c_get rfl rfl (a := 501) (b := 501) (by omega) (by omega) (by omega)) c20)
    exact KK
  | succ n9 ih =>
    intro k g hk e_g KK
    subst e_g
    refine r_iload_n (pc := 16) dX11_forget_16 rfl rfl ?_
    refine r_sipush (v := 501) (pc := 17) dX11_forget_17 (by decide) ?_
    refine r_icmp_ge 40 (pc := 20) dX11_forget_20 (by decide) (fun c20 => absurd c20 (c_gef rfl rfl (a := k) (b := 501) (by omega) (by omega) (by omega))) (fun c20 => ?_)
    refine r_aload_n (pc := 23) dX11_forget_23 rfl rfl ?_
    refine rs_get (pc := 24) dX11_forget_24 rfl f_RX11_7 rfl ?_
    refine r_sipush (v := 146) (pc := 27) dX11_forget_27 (by decide) ?_
    refine r_iload_n (pc := 30) dX11_forget_30 rfl rfl ?_
    refine r_iadd (pc := 31) dX11_forget_31 ?_
    refine r_iconst (v := 0) (pc := 32) dX11_forget_32 (by decide) ?_
    refine rs_st (146 + k) (pc := 33) dX11_forget_33 (nadd rfl rfl) (by omega) ?_
    refine q_iinc (nI (k + 1)) [_, _, _] (pc := 34) dX11_forget_34 rfl (by decide) (ninc 1 rfl) rfl ?_
    refine r_goto 16 (pc := 37) dX11_forget_37 (by decide) ?_
    exact ih (k + 1) _ (by omega) R_unm_s KK
theorem s_X11_forget {om : OM} {l : Launch} {B : Nat × Nat} {h0 : Hp} {I : Nat → Int32} {J : Nat → Int64} {A a v t n : Nat → Int32} (hl : l.stackTraces = false) (c : Nat) (hc : I 4 = nI c) (hc4 : c ≤ 4) : Runs om l M_X11_forget B 0 (entL 3 [.ref 119]) [] (rH h0 I J A a v t n) (Det (some (.int (R_mkd A 501))) (rH h0 (R_saveI (upd I 0 0)) J (R_unm A 501) a (R_savev c A v) t n)) := by
  show Runs om l M_X11_forget B 0 [some (.ref 119), none, none] [] _ _
  refine r_aload_n (pc := 0) dX11_forget_0 rfl rfl ?_
  refine r_iconst (v := 0) (pc := 1) dX11_forget_1 (by decide) ?_
  refine rs_putI _ (pc := 2) dX11_forget_2 rfl f_RX11_30 (by decide) (mfs_0 _) ?_
  refine r_aload_n (pc := 5) dX11_forget_5 rfl rfl ?_
  refine rs_call (vs := []) (pc := 6) dX11_forget_6 rfl l_RX11_130 rfl rfl ⟨by decide, by decide⟩ rfl (Nat.le_of_ble_eq_true rfl) hl (Nat.le_of_ble_eq_true rfl) (s_X11_save c (by rw [upd_n (by decide)]; exact hc) hc4) rfl ?_
  refine r_aload_n (pc := 9) dX11_forget_9 rfl rfl ?_
  refine rs_call (vs := []) (pc := 10) dX11_forget_10 rfl l_RX11_181 rfl rfl ⟨by decide, by decide⟩ rfl (Nat.le_of_ble_eq_true rfl) hl (Nat.le_of_ble_eq_true rfl) (s_X11_masked) rfl ?_
  refine q_istore_n [_, _, _] (pc := 13) dX11_forget_13 rfl (by decide) rfl ?_
  refine r_iconst (v := 0) (pc := 14) dX11_forget_14 (by decide) ?_
  refine q_istore_n [_, _, _] (pc := 15) dX11_forget_15 rfl (by decide) rfl ?_
  refine lp_forget _ 501 0 _ (by omega) R_unm_0.symm ?_
  refine r_iload_n (pc := 40) dX11_forget_40 rfl rfl ?_
  exact r_ireturn (S := []) (pc := 41) dX11_forget_41 rfl rfl ⟨rfl, rfl⟩
