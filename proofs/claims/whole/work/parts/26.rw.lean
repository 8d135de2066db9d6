/-! commands: the text and its reading -/
theorem upd_id {f : Nat → Int32} {k : Nat} {x : Int32} (h : f k = x) : upd f k x = f := by
  funext j
  unfold upd
  by_cases hj : j = k
  · rw [if_pos hj, hj, h]
  · rw [if_neg hj]
theorem upd_upd {f : Nat → Int32} {k : Nat} {x y : Int32} : upd (upd f k x) k y = upd f k y := by
  funext j
  unfold upd
  by_cases hj : j = k
  · rw [if_pos hj, if_pos hj]
  · rw [if_neg hj, if_neg hj, if_neg hj]
theorem updJ_s {f : Nat → Int64} {k : Nat} {x : Int64} : updJ f k x k = x := if_pos rfl
theorem updJ_n {f : Nat → Int64} {k j : Nat} {x : Int64} (h : j ≠ k) : updJ f k x j = f j := if_neg h
theorem updJ_upd {f : Nat → Int64} {k : Nat} {x y : Int64} : updJ (updJ f k x) k y = updJ f k y := by
  funext j
  unfold updJ
  by_cases hj : j = k
  · rw [if_pos hj, if_pos hj]
  · rw [if_neg hj, if_neg hj, if_neg hj]
def R_an (t : Nat → Int32) (ln p : Nat) (lo hi : Int32) : Int32 := if ln ≤ p then 0 else if R_in (t p) lo hi = 0 then 0 else 1
theorem an01 (t : Nat → Int32) (ln p : Nat) (lo hi : Int32) : R_an t ln p lo hi = 0 ∨ R_an t ln p lo hi = 1 := by
  unfold R_an
  split
  · exact Or.inl rfl
  · split
    · exact Or.inl rfl
    · exact Or.inr rfl
theorem an_lt {t : Nat → Int32} {ln p : Nat} {lo hi : Int32} (h : ¬ R_an t ln p lo hi = 0) : p < ln := by
  unfold R_an at h
  by_cases h1 : ln ≤ p
  · rw [if_pos h1] at h; exact absurd rfl h
  · omega
/-- past the spaces -/
def R_sp (t : Nat → Int32) (ln : Nat) : Nat → Nat → Nat
  | 0, p => p
  | m + 1, p => if R_an t ln p 32 32 = 0 then p else R_sp t ln m (p + 1)
theorem sp_le {t : Nat → Int32} {ln : Nat} : ∀ m p, p ≤ R_sp t ln m p ∧ R_sp t ln m p ≤ p + m := by
  intro m
  induction m with
  | zero => exact fun p => ⟨Nat.le_refl _, Nat.le_refl _⟩
  | succ m ih =>
    intro p
    rw [R_sp]
    split
    · exact ⟨Nat.le_refl _, by omega⟩
    · have := ih (p + 1)
      omega
def R_many2 (w : Int64) : Int32 := if lg_cmp w 10793230 = 0 then 2 else if lg_cmp w 14006 = 0 then 2 else if lg_cmp w 35097859 = 0 then 5 else -1
def R_many3 (w : Int64) : Int32 := if lg_cmp w 35097859 = 0 then 5 else -1
def R_many (w : Int64) : Int32 := if lg_cmp w 394778 = 0 then 1 else if lg_cmp w 6491892 = 0 then 1 else if lg_cmp w 127274 = 0 then 1 else if lg_cmp w 129073 = 0 then 1 else if lg_cmp w 6476936 = 0 then 1 else if lg_cmp w 10266203 = 0 then 1 else R_many2 w
theorem s_X11_type_no {om : OM} {l : Launch} {B : Nat × Nat} {h0 : Hp} {I : Nat → Int32} {J : Nat → Int64} {A a v t n : Nat → Int32} (hl : l.stackTraces = false) (x : Int32) (h : R_in x 0 127 = 0) : Runs om l M_X11_type B 0 (entL 2 [.ref 119, .int x]) [] (rH h0 I J A a v t n) (Det (some (.int 0)) (rH h0 (upd I 0 1) J A a v t n)) := by
  show Runs om l M_X11_type B 0 [some (.ref 119), some (.int x)] [] _ _
  refine r_aload_n (pc := 0) dX11_type_0 rfl rfl ?_
  refine r_iload_n (pc := 1) dX11_type_1 rfl rfl ?_
  refine r_iconst (v := 0) (pc := 2) dX11_type_2 (by decide) ?_
  refine r_bipush (v := 127) (pc := 3) dX11_type_3 (by decide) ?_
  refine q_callS (vs := [.int _, .int _, .int _]) (pc := 5) dX11_type_5 rfl l_RX11_89 rfl ⟨by decide, by decide⟩ rfl (Nat.le_of_ble_eq_true rfl) hl (Nat.le_of_ble_eq_true rfl) (s_X11_in _ _ _) rfl ?_
  refine r_iconst (v := 1) (pc := 8) dX11_type_8 (by decide) ?_
  refine rs_call (vs := [.int _, .int _]) (pc := 9) dX11_type_9 rfl l_RX11_37 rfl rfl ⟨by decide, by decide⟩ rfl (Nat.le_of_ble_eq_true rfl) hl (Nat.le_of_ble_eq_true rfl) (s_X11_holds0 h) rfl ?_
  refine r_if_eq 38 (pc := 12) dX11_type_12 (by decide) (fun c12 => ?_) (fun c12 => absurd (c_eqt rfl rfl (a := 0) (b := 0) (by omega) (by omega) (by omega)) c12)
  refine r_iconst (v := 0) (pc := 38) dX11_type_38 (by decide) ?_
  exact r_ireturn (S := []) (pc := 39) dX11_type_39 rfl rfl ⟨rfl, rfl⟩
theorem s_X11_type_no2 {om : OM} {l : Launch} {B : Nat × Nat} {h0 : Hp} {I : Nat → Int32} {J : Nat → Int64} {A a v t n : Nat → Int32} (hl : l.stackTraces = false) (x : Int32) (h : R_in x 0 127 = 1) (h6 : I 6 = nI 150) : Runs om l M_X11_type B 0 (entL 2 [.ref 119, .int x]) [] (rH h0 I J A a v t n) (Det (some (.int 0)) (rH h0 (upd (upd I 0 0) 0 2) J A a v t n)) := by
  show Runs om l M_X11_type B 0 [some (.ref 119), some (.int x)] [] _ _
  refine r_aload_n (pc := 0) dX11_type_0 rfl rfl ?_
  refine r_iload_n (pc := 1) dX11_type_1 rfl rfl ?_
  refine r_iconst (v := 0) (pc := 2) dX11_type_2 (by decide) ?_
  refine r_bipush (v := 127) (pc := 3) dX11_type_3 (by decide) ?_
  refine q_callS (vs := [.int _, .int _, .int _]) (pc := 5) dX11_type_5 rfl l_RX11_89 rfl ⟨by decide, by decide⟩ rfl (Nat.le_of_ble_eq_true rfl) hl (Nat.le_of_ble_eq_true rfl) (s_X11_in _ _ _) rfl ?_
  refine r_iconst (v := 1) (pc := 8) dX11_type_8 (by decide) ?_
  refine rs_call (vs := [.int _, .int _]) (pc := 9) dX11_type_9 rfl l_RX11_37 rfl rfl ⟨by decide, by decide⟩ rfl (Nat.le_of_ble_eq_true rfl) hl (Nat.le_of_ble_eq_true rfl) (s_X11_holds1 h) rfl ?_
  refine r_if_eq 38 (pc := 12) dX11_type_12 (by decide) (fun c12 => absurd c12 (c_eqf rfl rfl (a := 1) (b := 0) (by omega) (by omega) (by omega))) (fun c12 => ?_)
  refine r_aload_n (pc := 15) dX11_type_15 rfl rfl ?_
  refine r_aload_n (pc := 16) dX11_type_16 rfl rfl ?_
  refine rs_get (pc := 17) dX11_type_17 rfl f_RX11_211 rfl ?_
  refine r_sipush (v := 150) (pc := 20) dX11_type_20 (by decide) ?_
  refine r_icmp_ge 30 (pc := 23) dX11_type_23 (by decide) (fun c23 => ?_) (fun c23 => absurd (c_get (by first | exact h6 | (rw [upd_n (by decide)]; exact h6) | (rw [upd_n (by decide), upd_n (by decide)]; exact h6)) rfl (a := 150) (b := 150) (by omega) (by omega) (by omega)) c23)
  refine r_iconst (v := 0) (pc := 30) dX11_type_30 (by decide) ?_
  refine r_iconst (v := 2) (pc := 31) dX11_type_31 (by decide) ?_
  refine rs_call (vs := [.int _, .int _]) (pc := 32) dX11_type_32 rfl l_RX11_37 rfl rfl ⟨by decide, by decide⟩ rfl (Nat.le_of_ble_eq_true rfl) hl (Nat.le_of_ble_eq_true rfl) (s_X11_holds0 rfl) rfl ?_
  refine r_if_ne 40 (pc := 35) dX11_type_35 (by decide) (fun c35 => absurd (c_eqt rfl rfl (a := 0) (b := 0) (by omega) (by omega) (by omega)) c35) (fun c35 => ?_)
  refine r_iconst (v := 0) (pc := 38) dX11_type_38 (by decide) ?_
  exact r_ireturn (S := []) (pc := 39) dX11_type_39 rfl rfl ⟨rfl, rfl⟩
theorem s_X11_type_yes {om : OM} {l : Launch} {B : Nat × Nat} {h0 : Hp} {I : Nat → Int32} {J : Nat → Int64} {A a v t n : Nat → Int32} (hl : l.stackTraces = false) (x : Int32) (h : R_in x 0 127 = 1) (ln : Nat) (h6 : I 6 = nI ln) (hln : ln < 150) : Runs om l M_X11_type B 0 (entL 2 [.ref 119, .int x]) [] (rH h0 I J A a v t n) (Det (some (.int (I 6 + 1))) (rH h0 (upd (upd I 0 0) 6 (I 6 + 1)) J A a v (upd t ln (vp_nar .byte x.toInt8.toInt32)) n)) := by
  show Runs om l M_X11_type B 0 [some (.ref 119), some (.int x)] [] _ _
  refine r_aload_n (pc := 0) dX11_type_0 rfl rfl ?_
  refine r_iload_n (pc := 1) dX11_type_1 rfl rfl ?_
  refine r_iconst (v := 0) (pc := 2) dX11_type_2 (by decide) ?_
  refine r_bipush (v := 127) (pc := 3) dX11_type_3 (by decide) ?_
  refine q_callS (vs := [.int _, .int _, .int _]) (pc := 5) dX11_type_5 rfl l_RX11_89 rfl ⟨by decide, by decide⟩ rfl (Nat.le_of_ble_eq_true rfl) hl (Nat.le_of_ble_eq_true rfl) (s_X11_in _ _ _) rfl ?_
  refine r_iconst (v := 1) (pc := 8) dX11_type_8 (by decide) ?_
  refine rs_call (vs := [.int _, .int _]) (pc := 9) dX11_type_9 rfl l_RX11_37 rfl rfl ⟨by decide, by decide⟩ rfl (Nat.le_of_ble_eq_true rfl) hl (Nat.le_of_ble_eq_true rfl) (s_X11_holds1 h) rfl ?_
  refine r_if_eq 38 (pc := 12) dX11_type_12 (by decide) (fun c12 => absurd c12 (c_eqf rfl rfl (a := 1) (b := 0) (by omega) (by omega) (by omega))) (fun c12 => ?_)
  refine r_aload_n (pc := 15) dX11_type_15 rfl rfl ?_
  refine r_aload_n (pc := 16) dX11_type_16 rfl rfl ?_
  refine rs_get (pc := 17) dX11_type_17 rfl f_RX11_211 rfl ?_
  refine r_sipush (v := 150) (pc := 20) dX11_type_20 (by decide) ?_
  refine r_icmp_ge 30 (pc := 23) dX11_type_23 (by decide) (fun c23 => absurd c23 (c_gef (by first | exact h6 | (rw [upd_n (by decide)]; exact h6) | (rw [upd_n (by decide), upd_n (by decide)]; exact h6)) rfl (a := ln) (b := 150) (by omega) (by omega) (by omega))) (fun c23 => ?_)
  refine r_iconst (v := 1) (pc := 26) dX11_type_26 (by decide) ?_
  refine r_goto 31 (pc := 27) dX11_type_27 (by decide) ?_
  refine r_iconst (v := 2) (pc := 31) dX11_type_31 (by decide) ?_
  refine rs_call (vs := [.int _, .int _]) (pc := 32) dX11_type_32 rfl l_RX11_37 rfl rfl ⟨by decide, by decide⟩ rfl (Nat.le_of_ble_eq_true rfl) hl (Nat.le_of_ble_eq_true rfl) (s_X11_holds1 rfl) rfl ?_
  refine r_if_ne 40 (pc := 35) dX11_type_35 (by decide) (fun c35 => ?_) (fun c35 => absurd c35 (c_eqf rfl rfl (a := 1) (b := 0) (by omega) (by omega) (by omega)))
  refine r_aload_n (pc := 40) dX11_type_40 rfl rfl ?_
  refine rs_get (pc := 41) dX11_type_41 rfl f_RX11_19 rfl ?_
  refine r_aload_n (pc := 44) dX11_type_44 rfl rfl ?_
  refine rs_get (pc := 45) dX11_type_45 rfl f_RX11_211 rfl ?_
  refine r_iload_n (pc := 48) dX11_type_48 rfl rfl ?_
  refine r_i2b (pc := 49) dX11_type_49 ?_
  refine rs_stt (ln) (pc := 50) dX11_type_50 (by first | exact h6 | (rw [upd_n (by decide)]; exact h6) | (rw [upd_n (by decide), upd_n (by decide)]; exact h6)) (by omega) ?_
  refine r_aload_n (pc := 51) dX11_type_51 rfl rfl ?_
  refine r_dup (pc := 52) dX11_type_52 rfl ?_
  refine rs_get (pc := 53) dX11_type_53 rfl f_RX11_211 rfl ?_
  refine r_iconst (v := 1) (pc := 56) dX11_type_56 (by decide) ?_
  refine r_iadd (pc := 57) dX11_type_57 ?_
  refine rs_putI _ (pc := 58) dX11_type_58 rfl f_RX11_211 (by decide) (mfs_6 _) ?_
  refine r_aload_n (pc := 61) dX11_type_61 rfl rfl ?_
  refine rs_get (pc := 62) dX11_type_62 rfl f_RX11_211 rfl ?_
  exact r_ireturn (S := []) (pc := 65) dX11_type_65 rfl rfl ⟨by rw [upd_s, upd_n (by decide), upd_n (by decide)], by rw [upd_n (by decide), upd_n (by decide), upd_upd]⟩
theorem s_X11_clearCommands {om : OM} {l : Launch} {B : Nat × Nat} {h0 : Hp} {I : Nat → Int32} {J : Nat → Int64} {A a v t n : Nat → Int32} (hl : l.stackTraces = false)  : Runs om l M_X11_clearCommands B 0 (entL 2 [.ref 119]) [] (rH h0 I J A a v t n) (Det (some (.int (I 6))) (rH h0 (upd (upd I 0 0) 6 0) J A a v t n)) := by
  show Runs om l M_X11_clearCommands B 0 [some (.ref 119), none] [] _ _
  refine r_aload_n (pc := 0) dX11_clearCommands_0 rfl rfl ?_
  refine r_iconst (v := 0) (pc := 1) dX11_clearCommands_1 (by decide) ?_
  refine rs_putI _ (pc := 2) dX11_clearCommands_2 rfl f_RX11_30 (by decide) (mfs_0 _) ?_
  refine r_aload_n (pc := 5) dX11_clearCommands_5 rfl rfl ?_
  refine rs_get (pc := 6) dX11_clearCommands_6 rfl f_RX11_211 rfl ?_
  refine q_istore_n [_, _] (pc := 9) dX11_clearCommands_9 rfl (by decide) rfl ?_
  refine r_aload_n (pc := 10) dX11_clearCommands_10 rfl rfl ?_
  refine r_iconst (v := 0) (pc := 11) dX11_clearCommands_11 (by decide) ?_
  refine rs_putI _ (pc := 12) dX11_clearCommands_12 rfl f_RX11_211 (by decide) (mfs_6 _) ?_
  refine r_iload_n (pc := 15) dX11_clearCommands_15 rfl rfl ?_
  exact r_ireturn (S := []) (pc := 16) dX11_clearCommands_16 rfl rfl ⟨by rw [upd_n (by decide)], rfl⟩
theorem s_X11_isAt {om : OM} {l : Launch} {B : Nat × Nat} {h0 : Hp} {I : Nat → Int32} {J : Nat → Int64} {A a v t n : Nat → Int32} (hl : l.stackTraces = false) (p ln : Nat) (x y : Int32) (h7 : I 7 = nI p) (h6 : I 6 = nI ln) (hp : p ≤ 1000) (hln : ln ≤ 150) : Runs om l M_X11_isAt B 0 (entL 3 [.ref 119, .int x, .int y]) [] (rH h0 I J A a v t n) (Det (some (.int (R_an t ln p x y))) (rH h0 I J A a v t n)) := by
  show Runs om l M_X11_isAt B 0 [some (.ref 119), some (.int x), some (.int y)] [] _ _
  have hle : (I 6 ≤ I 7) ↔ (ln ≤ p) := by rw [h6, h7]; exact nI_leI (by omega) (by omega)
  refine r_aload_n (pc := 0) dX11_isAt_0 rfl rfl ?_
  refine rs_get (pc := 1) dX11_isAt_1 rfl f_RX11_214 rfl ?_
  refine r_aload_n (pc := 4) dX11_isAt_4 rfl rfl ?_
  refine rs_get (pc := 5) dX11_isAt_5 rfl f_RX11_211 rfl ?_
  refine r_icmp_ge 32 (pc := 8) dX11_isAt_8 (by decide) (fun c8 => ?_) (fun c8 => ?_)
  · refine r_iconst (v := 0) (pc := 32) dX11_isAt_32 (by decide) ?_
    exact r_ireturn (S := []) (pc := 33) dX11_isAt_33 rfl (nar_b (by first | exact Or.inl rfl | exact Or.inr rfl)) ⟨by rw [R_an]; simp only [← hle]; (repeat (first | rw [if_pos (by assumption)] | rw [if_neg (by assumption)])), rfl⟩
  · have hpl : p < ln := by have h9 : ¬ ln ≤ p := fun z => c8 (hle.mpr z); omega
    refine r_aload_n (pc := 11) dX11_isAt_11 rfl rfl ?_
    refine rs_get (pc := 12) dX11_isAt_12 rfl f_RX11_19 rfl ?_
    refine r_aload_n (pc := 15) dX11_isAt_15 rfl rfl ?_
    refine rs_get (pc := 16) dX11_isAt_16 rfl f_RX11_214 rfl ?_
    refine rs_ldt (p) (pc := 19) dX11_isAt_19 h7 (by omega) ?_
    refine r_iload_n (pc := 20) dX11_isAt_20 rfl rfl ?_
    refine r_iload_n (pc := 21) dX11_isAt_21 rfl rfl ?_
    refine q_callS (vs := [.int _, .int _, .int _]) (pc := 22) dX11_isAt_22 rfl l_RX11_89 rfl ⟨by decide, by decide⟩ rfl (Nat.le_of_ble_eq_true rfl) hl (Nat.le_of_ble_eq_true rfl) (s_X11_in _ _ _) rfl ?_
    refine r_if_eq 32 (pc := 25) dX11_isAt_25 (by decide) (fun c25 => ?_) (fun c25 => ?_)
    · refine r_iconst (v := 0) (pc := 32) dX11_isAt_32 (by decide) ?_
      exact r_ireturn (S := []) (pc := 33) dX11_isAt_33 rfl (nar_b (by first | exact Or.inl rfl | exact Or.inr rfl)) ⟨by rw [R_an]; simp only [← hle]; (repeat (first | rw [if_pos (by assumption)] | rw [if_neg (by assumption)])), rfl⟩
    · refine r_iconst (v := 1) (pc := 28) dX11_isAt_28 (by decide) ?_
      refine r_goto 33 (pc := 29) dX11_isAt_29 (by decide) ?_
      exact r_ireturn (S := []) (pc := 33) dX11_isAt_33 rfl (nar_b (by first | exact Or.inl rfl | exact Or.inr rfl)) ⟨by rw [R_an]; simp only [← hle]; (repeat (first | rw [if_pos (by assumption)] | rw [if_neg (by assumption)])), rfl⟩
theorem lp_sp {om : OM} {l : Launch} {B : Nat × Nat} {h0 : Hp} {I : Nat → Int32} {J : Nat → Int64} {A a v t n : Nat → Int32} {Post : Out → Hp → Prop} (hl : l.stackTraces = false) (ln : Nat) (hln : ln ≤ 150) : ∀ (m p : Nat) (I : Nat → Int32), p + m = ln → I 7 = nI p → I 6 = nI ln → Runs om l M_X11_spaces B 24 [some (.ref 119)] [] (rH h0 (upd I 7 (nI (R_sp t ln m p))) J A a v t n) Post → Runs om l M_X11_spaces B 0 [some (.ref 119)] [] (rH h0 I J A a v t n) Post := by
  intro m
  induction m with
  | zero =>
    intro p I hm h7 h6 KK
    rw [R_sp, upd_id h7] at KK
    refine r_aload_n (pc := 0) dX11_spaces_0 rfl rfl ?_
    refine r_bipush (v := 32) (pc := 1) dX11_spaces_1 (by decide) ?_
    refine r_bipush (v := 32) (pc := 3) dX11_spaces_3 (by decide) ?_
    refine rs_call (vs := [.int _, .int _]) (pc := 5) dX11_spaces_5 rfl l_RX11_217 rfl rfl ⟨by decide, by decide⟩ rfl (Nat.le_of_ble_eq_true rfl) hl (Nat.le_of_ble_eq_true rfl) (s_X11_isAt hl p ln _ _ h7 h6 (by omega) hln) rfl ?_
    refine r_if_eq 24 (pc := 8) dX11_spaces_8 (by decide) (fun c8 => ?_) (fun c8 => absurd (an_lt c8) (by omega))
    exact KK
  | succ m ih =>
    intro p I hm h7 h6 KK
    refine r_aload_n (pc := 0) dX11_spaces_0 rfl rfl ?_
    refine r_bipush (v := 32) (pc := 1) dX11_spaces_1 (by decide) ?_
    refine r_bipush (v := 32) (pc := 3) dX11_spaces_3 (by decide) ?_
    refine rs_call (vs := [.int _, .int _]) (pc := 5) dX11_spaces_5 rfl l_RX11_217 rfl rfl ⟨by decide, by decide⟩ rfl (Nat.le_of_ble_eq_true rfl) hl (Nat.le_of_ble_eq_true rfl) (s_X11_isAt hl p ln _ _ h7 h6 (by omega) hln) rfl ?_
    refine r_if_eq 24 (pc := 8) dX11_spaces_8 (by decide) (fun c8 => ?_) (fun c8 => ?_)
    · rw [R_sp, if_pos (by assumption), upd_id h7] at KK
      exact KK
    · refine r_aload_n (pc := 11) dX11_spaces_11 rfl rfl ?_
      refine r_dup (pc := 12) dX11_spaces_12 rfl ?_
      refine rs_get (pc := 13) dX11_spaces_13 rfl f_RX11_214 rfl ?_
      refine r_iconst (v := 1) (pc := 16) dX11_spaces_16 (by decide) ?_
      refine r_iadd (pc := 17) dX11_spaces_17 ?_
      refine rs_putI _ (pc := 18) dX11_spaces_18 rfl f_RX11_214 (by decide) (mfs_7 _) ?_
      refine r_goto 0 (pc := 21) dX11_spaces_21 (by decide) ?_
      rw [R_sp, if_neg (by assumption)] at KK
      exact ih (p + 1) _ (by omega) (by rw [upd_s, h7]; exact nI_1 p) (by rw [upd_n (by decide)]; exact h6) (by rw [upd_upd]; exact KK)
theorem s_X11_spaces {om : OM} {l : Launch} {B : Nat × Nat} {h0 : Hp} {I : Nat → Int32} {J : Nat → Int64} {A a v t n : Nat → Int32} (hl : l.stackTraces = false) (p ln : Nat) (h7 : I 7 = nI p) (h6 : I 6 = nI ln) (hp : p ≤ ln) (hln : ln ≤ 150) : Runs om l M_X11_spaces B 0 (entL 1 [.ref 119]) [] (rH h0 I J A a v t n) (Det none (rH h0 (upd I 7 (nI (R_sp t ln (ln - p) p))) J A a v t n)) := by
  show Runs om l M_X11_spaces B 0 [some (.ref 119)] [] _ _
  refine lp_sp (I := I) hl ln hln (ln - p) p I (by omega) h7 h6 ?_
  exact r_return (S := []) (pc := 24) dX11_spaces_24 rfl ⟨rfl, rfl⟩
theorem s_X11_manyOf {om : OM} {l : Launch} {B : Nat × Nat} {h0 : Hp} {I : Nat → Int32} {J : Nat → Int64} {A a v t n : Nat → Int32} (x : Int64) : Runs om l M_X11_manyOf B 0 (entL 2 [.long x]) [] (rH h0 I J A a v t n) (Det (some (.int (R_many x))) (rH h0 I J A a v t n)) := by
  show Runs om l M_X11_manyOf B 0 [some (.long x), none] [] _ _
  refine r_lload_n (pc := 0) dX11_manyOf_0 rfl rfl ?_
  refine r_ldc2 (pc := 1) dX11_manyOf_1 rfl k_RX11_220 ?_
  refine r_lcmp (pc := 4) dX11_manyOf_4 ?_
  refine r_if_eq 48 (pc := 5) dX11_manyOf_5 (by decide) (fun c5 => ?_) (fun c5 => ?_)
  · refine r_iconst (v := 1) (pc := 48) dX11_manyOf_48 (by decide) ?_
    exact r_ireturn (S := []) (pc := 49) dX11_manyOf_49 rfl rfl ⟨by rw [R_many]; (repeat (first | rw [if_pos (by assumption)] | rw [if_neg (by assumption)])); (try (rw [R_many2]; (repeat (first | rw [if_pos (by assumption)] | rw [if_neg (by assumption)])))); (try rfl), rfl⟩
  · refine r_lload_n (pc := 8) dX11_manyOf_8 rfl rfl ?_
    refine r_ldc2 (pc := 9) dX11_manyOf_9 rfl k_RX11_222 ?_
    refine r_lcmp (pc := 12) dX11_manyOf_12 ?_
    refine r_if_eq 48 (pc := 13) dX11_manyOf_13 (by decide) (fun c13 => ?_) (fun c13 => ?_)
    · refine r_iconst (v := 1) (pc := 48) dX11_manyOf_48 (by decide) ?_
      exact r_ireturn (S := []) (pc := 49) dX11_manyOf_49 rfl rfl ⟨by rw [R_many]; (repeat (first | rw [if_pos (by assumption)] | rw [if_neg (by assumption)])); (try (rw [R_many2]; (repeat (first | rw [if_pos (by assumption)] | rw [if_neg (by assumption)])))); (try rfl), rfl⟩
    · refine r_lload_n (pc := 16) dX11_manyOf_16 rfl rfl ?_
      refine r_ldc2 (pc := 17) dX11_manyOf_17 rfl k_RX11_224 ?_
      refine r_lcmp (pc := 20) dX11_manyOf_20 ?_
      refine r_if_eq 48 (pc := 21) dX11_manyOf_21 (by decide) (fun c21 => ?_) (fun c21 => ?_)
      · refine r_iconst (v := 1) (pc := 48) dX11_manyOf_48 (by decide) ?_
        exact r_ireturn (S := []) (pc := 49) dX11_manyOf_49 rfl rfl ⟨by rw [R_many]; (repeat (first | rw [if_pos (by assumption)] | rw [if_neg (by assumption)])); (try (rw [R_many2]; (repeat (first | rw [if_pos (by assumption)] | rw [if_neg (by assumption)])))); (try rfl), rfl⟩
      · refine r_lload_n (pc := 24) dX11_manyOf_24 rfl rfl ?_
        refine r_ldc2 (pc := 25) dX11_manyOf_25 rfl k_RX11_226 ?_
        refine r_lcmp (pc := 28) dX11_manyOf_28 ?_
        refine r_if_eq 48 (pc := 29) dX11_manyOf_29 (by decide) (fun c29 => ?_) (fun c29 => ?_)
        · refine r_iconst (v := 1) (pc := 48) dX11_manyOf_48 (by decide) ?_
          exact r_ireturn (S := []) (pc := 49) dX11_manyOf_49 rfl rfl ⟨by rw [R_many]; (repeat (first | rw [if_pos (by assumption)] | rw [if_neg (by assumption)])); (try (rw [R_many2]; (repeat (first | rw [if_pos (by assumption)] | rw [if_neg (by assumption)])))); (try rfl), rfl⟩
        · refine r_lload_n (pc := 32) dX11_manyOf_32 rfl rfl ?_
          refine r_ldc2 (pc := 33) dX11_manyOf_33 rfl k_RX11_228 ?_
          refine r_lcmp (pc := 36) dX11_manyOf_36 ?_
          refine r_if_eq 48 (pc := 37) dX11_manyOf_37 (by decide) (fun c37 => ?_) (fun c37 => ?_)
          · refine r_iconst (v := 1) (pc := 48) dX11_manyOf_48 (by decide) ?_
            exact r_ireturn (S := []) (pc := 49) dX11_manyOf_49 rfl rfl ⟨by rw [R_many]; (repeat (first | rw [if_pos (by assumption)] | rw [if_neg (by assumption)])); (try (rw [R_many2]; (repeat (first | rw [if_pos (by assumption)] | rw [if_neg (by assumption)])))); (try rfl), rfl⟩
          · refine r_lload_n (pc := 40) dX11_manyOf_40 rfl rfl ?_
            refine r_ldc2 (pc := 41) dX11_manyOf_41 rfl k_RX11_230 ?_
            refine r_lcmp (pc := 44) dX11_manyOf_44 ?_
            refine r_if_ne 50 (pc := 45) dX11_manyOf_45 (by decide) (fun c45 => ?_) (fun c45 => ?_)
            · refine r_lload_n (pc := 50) dX11_manyOf_50 rfl rfl ?_
              refine r_ldc2 (pc := 51) dX11_manyOf_51 rfl k_RX11_232 ?_
              refine r_lcmp (pc := 54) dX11_manyOf_54 ?_
              refine r_if_eq 66 (pc := 55) dX11_manyOf_55 (by decide) (fun c55 => ?_) (fun c55 => ?_)
              · refine r_iconst (v := 2) (pc := 66) dX11_manyOf_66 (by decide) ?_
                refine r_goto 83 (pc := 67) dX11_manyOf_67 (by decide) ?_
                exact r_ireturn (S := []) (pc := 83) dX11_manyOf_83 rfl rfl ⟨by rw [R_many]; (repeat (first | rw [if_pos (by assumption)] | rw [if_neg (by assumption)])); (try (rw [R_many2]; (repeat (first | rw [if_pos (by assumption)] | rw [if_neg (by assumption)])))); (try rfl), rfl⟩
              · refine r_lload_n (pc := 58) dX11_manyOf_58 rfl rfl ?_
                refine r_ldc2 (pc := 59) dX11_manyOf_59 rfl k_RX11_234 ?_
                refine r_lcmp (pc := 62) dX11_manyOf_62 ?_
                refine r_if_ne 70 (pc := 63) dX11_manyOf_63 (by decide) (fun c63 => ?_) (fun c63 => ?_)
                · refine r_join 83 (R_many3 x) ?_ (fun J70 => ?_)
                  · exact r_ireturn (S := []) (pc := 83) dX11_manyOf_83 rfl rfl ⟨by rw [R_many]; (repeat (first | rw [if_pos (by assumption)] | rw [if_neg (by assumption)])); (try (rw [R_many2]; (repeat (first | rw [if_pos (by assumption)] | rw [if_neg (by assumption)])))); (try rfl), rfl⟩
                  · refine r_lload_n (pc := 70) dX11_manyOf_70 rfl rfl ?_
                    refine r_ldc2 (pc := 71) dX11_manyOf_71 rfl k_RX11_236 ?_
                    refine r_lcmp (pc := 74) dX11_manyOf_74 ?_
                    refine r_if_ne 82 (pc := 75) dX11_manyOf_75 (by decide) (fun c75 => ?_) (fun c75 => ?_)
                    · refine r_iconst (v := (-1)) (pc := 82) dX11_manyOf_82 (by decide) ?_
                      exact J70 _ (by rw [R_many3]; (repeat (first | rw [if_pos (by assumption)] | rw [if_neg (by assumption)])))
                    · refine r_iconst (v := 5) (pc := 78) dX11_manyOf_78 (by decide) ?_
                      refine r_goto 83 (pc := 79) dX11_manyOf_79 (by decide) ?_
                      exact J70 _ (by rw [R_many3]; (repeat (first | rw [if_pos (by assumption)] | rw [if_neg (by assumption)])))
                · refine r_iconst (v := 2) (pc := 66) dX11_manyOf_66 (by decide) ?_
                  refine r_goto 83 (pc := 67) dX11_manyOf_67 (by decide) ?_
                  exact r_ireturn (S := []) (pc := 83) dX11_manyOf_83 rfl rfl ⟨by rw [R_many]; (repeat (first | rw [if_pos (by assumption)] | rw [if_neg (by assumption)])); (try (rw [R_many2]; (repeat (first | rw [if_pos (by assumption)] | rw [if_neg (by assumption)])))); (try rfl), rfl⟩
            · refine r_iconst (v := 1) (pc := 48) dX11_manyOf_48 (by decide) ?_
              exact r_ireturn (S := []) (pc := 49) dX11_manyOf_49 rfl rfl ⟨by rw [R_many]; (repeat (first | rw [if_pos (by assumption)] | rw [if_neg (by assumption)])); (try (rw [R_many2]; (repeat (first | rw [if_pos (by assumption)] | rw [if_neg (by assumption)])))); (try rfl), rfl⟩
theorem s_X11_mixes {om : OM} {l : Launch} {B : Nat × Nat} {h0 : Hp} {I : Nat → Int32} {J : Nat → Int64} {A a v t n : Nat → Int32} (x : Int32) : Runs om l M_X11_mixes B 0 (entL 2 [.ref 119, .int x]) [] (rH h0 I J A a v t n) (Det (none) (rH h0 I (updJ J 10 (31 * J 10 + x.toInt64)) A a v t n)) := by
  show Runs om l M_X11_mixes B 0 [some (.ref 119), some (.int x)] [] _ _
  refine r_aload_n (pc := 0) dX11_mixes_0 rfl rfl ?_
  refine r_ldc2 (pc := 1) dX11_mixes_1 rfl k_RX11_265 ?_
  refine r_aload_n (pc := 4) dX11_mixes_4 rfl rfl ?_
  refine rs_get (pc := 5) dX11_mixes_5 rfl f_RX11_267 rfl ?_
  refine r_lmul (pc := 8) dX11_mixes_8 ?_
  refine r_iload_n (pc := 9) dX11_mixes_9 rfl rfl ?_
  refine r_i2l (pc := 10) dX11_mixes_10 ?_
  refine r_ladd (pc := 11) dX11_mixes_11 ?_
  refine rs_putJ _ (pc := 12) dX11_mixes_12 rfl f_RX11_267 (by decide) (mfs_10 _) ?_
  exact r_return (S := []) (pc := 15) dX11_mixes_15 rfl ⟨rfl, rfl⟩
theorem s_X11_mixH {om : OM} {l : Launch} {B : Nat × Nat} {h0 : Hp} {I : Nat → Int32} {J : Nat → Int64} {A a v t n : Nat → Int32} (hh : Int64) (x : Int32) : Runs om l M_X11_mixes B 0 (entL 2 [.ref 119, .int x]) [] (rH h0 I (updJ J 10 hh) A a v t n) (Det none (rH h0 I (updJ J 10 (31 * hh + x.toInt64)) A a v t n)) := by
  have h1 := s_X11_mixes (om := om) (l := l) (B := B) (h0 := h0) (I := I) (J := updJ J 10 hh) (A := A) (a := a) (v := v) (t := t) (n := n) x
  rw [updJ_s, updJ_upd] at h1
  exact h1
