theorem s_X11_thrown {om : OM} {l : Launch} {B : Nat × Nat} {h0 : Hp} {I : Nat → Int32} {J : Nat → Int64} {A a v t n : Nat → Int32}  : Runs om l M_X11_thrown B 0 (entL 1 [.ref 119]) [] (rH h0 I J A a v t n) (Det (some (.int (I 0))) (rH h0 I J A a v t n)) := by
  show Runs om l M_X11_thrown B 0 [some (.ref 119)] [] _ _
  refine r_aload_n (pc := 0) dX11_thrown_0 rfl rfl ?_
  refine rs_get (pc := 1) dX11_thrown_1 rfl f_RX11_30 rfl ?_
  exact r_ireturn (S := []) (pc := 4) dX11_thrown_4 rfl rfl ⟨rfl, rfl⟩
theorem s_X11_in {om : OM} {l : Launch} {B : Nat × Nat} {h0 : Hp} {I : Nat → Int32} {J : Nat → Int64} {A a v t n : Nat → Int32} (x lo hi : Int32) : Runs om l M_X11_in B 0 (entL 3 [.int x, .int lo, .int hi]) [] (rH h0 I J A a v t n) (Det (some (.int (R_in x lo hi))) (rH h0 I J A a v t n)) := by
  show Runs om l M_X11_in B 0 [some (.int x), some (.int lo), some (.int hi)] [] _ _
  refine r_iload_n (pc := 0) dX11_in_0 rfl rfl ?_
  refine r_iload_n (pc := 1) dX11_in_1 rfl rfl ?_
  refine r_icmp_lt 14 (pc := 2) dX11_in_2 (by decide) (fun c2 => ?_) (fun c2 => ?_)
  · refine r_iconst (v := 0) (pc := 14) dX11_in_14 (by decide) ?_
    exact r_ireturn (S := []) (pc := 15) dX11_in_15 rfl rfl ⟨by simp [R_in, *], rfl⟩
  · refine r_iload_n (pc := 5) dX11_in_5 rfl rfl ?_
    refine r_iload_n (pc := 6) dX11_in_6 rfl rfl ?_
    refine r_icmp_gt 14 (pc := 7) dX11_in_7 (by decide) (fun c7 => ?_) (fun c7 => ?_)
    · refine r_iconst (v := 0) (pc := 14) dX11_in_14 (by decide) ?_
      exact r_ireturn (S := []) (pc := 15) dX11_in_15 rfl rfl ⟨by simp [R_in, *], rfl⟩
    · refine r_iconst (v := 1) (pc := 10) dX11_in_10 (by decide) ?_
      refine r_goto 15 (pc := 11) dX11_in_11 (by decide) ?_
      exact r_ireturn (S := []) (pc := 15) dX11_in_15 rfl rfl ⟨by simp [R_in, *], rfl⟩
theorem s_X11_greater {om : OM} {l : Launch} {B : Nat × Nat} {h0 : Hp} {I : Nat → Int32} {J : Nat → Int64} {A a v t n : Nat → Int32} (x y : Int32) : Runs om l M_X11_greater B 0 (entL 2 [.int x, .int y]) [] (rH h0 I J A a v t n) (Det (some (.int (R_greater x y))) (rH h0 I J A a v t n)) := by
  show Runs om l M_X11_greater B 0 [some (.int x), some (.int y)] [] _ _
  refine r_iload_n (pc := 0) dX11_greater_0 rfl rfl ?_
  refine r_iload_n (pc := 1) dX11_greater_1 rfl rfl ?_
  refine r_icmp_le 9 (pc := 2) dX11_greater_2 (by decide) (fun c2 => ?_) (fun c2 => ?_)
  · refine r_iload_n (pc := 9) dX11_greater_9 rfl rfl ?_
    exact r_ireturn (S := []) (pc := 10) dX11_greater_10 rfl rfl ⟨by simp [R_greater, *], rfl⟩
  · refine r_iload_n (pc := 5) dX11_greater_5 rfl rfl ?_
    refine r_goto 10 (pc := 6) dX11_greater_6 (by decide) ?_
    exact r_ireturn (S := []) (pc := 10) dX11_greater_10 rfl rfl ⟨by simp [R_greater, *], rfl⟩
theorem s_X11_apart {om : OM} {l : Launch} {B : Nat × Nat} {h0 : Hp} {I : Nat → Int32} {J : Nat → Int64} {A a v t n : Nat → Int32} (x y : Int32) : Runs om l M_X11_apart B 0 (entL 2 [.int x, .int y]) [] (rH h0 I J A a v t n) (Det (some (.int (R_apart x y))) (rH h0 I J A a v t n)) := by
  show Runs om l M_X11_apart B 0 [some (.int x), some (.int y)] [] _ _
  refine r_iload_n (pc := 0) dX11_apart_0 rfl rfl ?_
  refine r_iload_n (pc := 1) dX11_apart_1 rfl rfl ?_
  refine r_icmp_le 11 (pc := 2) dX11_apart_2 (by decide) (fun c2 => ?_) (fun c2 => ?_)
  · refine r_iload_n (pc := 11) dX11_apart_11 rfl rfl ?_
    refine r_iload_n (pc := 12) dX11_apart_12 rfl rfl ?_
    refine r_isub (pc := 13) dX11_apart_13 ?_
    exact r_ireturn (S := []) (pc := 14) dX11_apart_14 rfl rfl ⟨by simp [R_apart, *], rfl⟩
  · refine r_iload_n (pc := 5) dX11_apart_5 rfl rfl ?_
    refine r_iload_n (pc := 6) dX11_apart_6 rfl rfl ?_
    refine r_isub (pc := 7) dX11_apart_7 ?_
    refine r_goto 14 (pc := 8) dX11_apart_8 (by decide) ?_
    exact r_ireturn (S := []) (pc := 14) dX11_apart_14 rfl rfl ⟨by simp [R_apart, *], rfl⟩
theorem s_X11_draw {om : OM} {l : Launch} {B : Nat × Nat} {h0 : Hp} {I : Nat → Int32} {J : Nat → Int64} {A a v t n : Nat → Int32} (below : Int32) (hb : ¬ below = 0) : Runs om l M_X11_draw B 0 (entL 2 [.ref 119, .int below]) [] (rH h0 I J A a v t n) (Det (some (.int (R_d2 A below))) (rH h0 I J (R_d1 A) a v t n)) := by
  show Runs om l M_X11_draw B 0 [some (.ref 119), some (.int below)] [] _ _
  refine r_aload_n (pc := 0) dX11_draw_0 rfl rfl ?_
  refine rs_get (pc := 1) dX11_draw_1 rfl f_RX11_7 rfl ?_
  refine r_bipush (v := 11) (pc := 4) dX11_draw_4 (by decide) ?_
  refine r_ldc2 (pc := 6) dX11_draw_6 rfl k_RX11_41 ?_
  refine r_aload_n (pc := 9) dX11_draw_9 rfl rfl ?_
  refine rs_get (pc := 10) dX11_draw_10 rfl f_RX11_7 rfl ?_
  refine r_bipush (v := 11) (pc := 13) dX11_draw_13 (by decide) ?_
  refine rs_ld (11) (pc := 15) dX11_draw_15 rfl (by omega) ?_
  refine r_i2l (pc := 16) dX11_draw_16 ?_
  refine r_lmul (pc := 17) dX11_draw_17 ?_
  refine r_ldc2 (pc := 18) dX11_draw_18 rfl k_RX11_43 ?_
  refine r_ladd (pc := 21) dX11_draw_21 ?_
  refine r_ldc2 (pc := 22) dX11_draw_22 rfl k_RX11_45 ?_
  refine r_lrem (pc := 25) dX11_draw_25 (by decide) ?_
  refine r_l2i (pc := 26) dX11_draw_26 ?_
  refine rs_st (11) (pc := 27) dX11_draw_27 rfl (by omega) ?_
  refine r_aload_n (pc := 28) dX11_draw_28 rfl rfl ?_
  refine rs_get (pc := 29) dX11_draw_29 rfl f_RX11_7 rfl ?_
  refine r_bipush (v := 11) (pc := 32) dX11_draw_32 (by decide) ?_
  refine rs_ld (11) (pc := 34) dX11_draw_34 rfl (by omega) ?_
  refine r_ldc (pc := 35) dX11_draw_35 rfl k_RX11_47 ?_
  refine r_idiv (pc := 37) dX11_draw_37 (by decide) ?_
  refine r_iload_n (pc := 38) dX11_draw_38 rfl rfl ?_
  refine r_irem (pc := 39) dX11_draw_39 hb ?_
  exact r_ireturn (S := []) (pc := 40) dX11_draw_40 rfl rfl ⟨rfl, rfl⟩
theorem s_X11_surface {om : OM} {l : Launch} {B : Nat × Nat} {h0 : Hp} {I : Nat → Int32} {J : Nat → Int64} {A a v t n : Nat → Int32}  : Runs om l M_X11_surface B 0 (entL 1 [.ref 119]) [] (rH h0 I J A a v t n) (Det (some (.int (A 0 - A 1))) (rH h0 I J A a v t n)) := by
  show Runs om l M_X11_surface B 0 [some (.ref 119)] [] _ _
  refine r_aload_n (pc := 0) dX11_surface_0 rfl rfl ?_
  refine rs_get (pc := 1) dX11_surface_1 rfl f_RX11_7 rfl ?_
  refine r_iconst (v := 0) (pc := 4) dX11_surface_4 (by decide) ?_
  refine rs_ld (0) (pc := 5) dX11_surface_5 rfl (by omega) ?_
  refine r_aload_n (pc := 6) dX11_surface_6 rfl rfl ?_
  refine rs_get (pc := 7) dX11_surface_7 rfl f_RX11_7 rfl ?_
  refine r_iconst (v := 1) (pc := 10) dX11_surface_10 (by decide) ?_
  refine rs_ld (1) (pc := 11) dX11_surface_11 rfl (by omega) ?_
  refine r_isub (pc := 12) dX11_surface_12 ?_
  exact r_ireturn (S := []) (pc := 13) dX11_surface_13 rfl rfl ⟨rfl, rfl⟩
theorem s_X11_angleOf {om : OM} {l : Launch} {B : Nat × Nat} {h0 : Hp} {I : Nat → Int32} {J : Nat → Int64} {A a v t n : Nat → Int32} (b : Int32) (hb : ¬ A 5 = 0) : Runs om l M_X11_angleOf B 0 (entL 2 [.ref 119, .int b]) [] (rH h0 I J A a v t n) (Det (some (.int (R_angle A b))) (rH h0 I J A a v t n)) := by
  show Runs om l M_X11_angleOf B 0 [some (.ref 119), some (.int b)] [] _ _
  refine r_aload_n (pc := 0) dX11_angleOf_0 rfl rfl ?_
  refine rs_get (pc := 1) dX11_angleOf_1 rfl f_RX11_7 rfl ?_
  refine r_bipush (v := 8) (pc := 4) dX11_angleOf_4 (by decide) ?_
  refine rs_ld (8) (pc := 6) dX11_angleOf_6 rfl (by omega) ?_
  refine r_sipush (v := 360) (pc := 7) dX11_angleOf_7 (by decide) ?_
  refine r_iload_n (pc := 10) dX11_angleOf_10 rfl rfl ?_
  refine r_imul (pc := 11) dX11_angleOf_11 ?_
  refine r_aload_n (pc := 12) dX11_angleOf_12 rfl rfl ?_
  refine rs_get (pc := 13) dX11_angleOf_13 rfl f_RX11_7 rfl ?_
  refine r_iconst (v := 5) (pc := 16) dX11_angleOf_16 (by decide) ?_
  refine rs_ld (5) (pc := 17) dX11_angleOf_17 rfl (by omega) ?_
  refine r_idiv (pc := 18) dX11_angleOf_18 hb ?_
  refine r_iadd (pc := 19) dX11_angleOf_19 ?_
  refine r_sipush (v := 360) (pc := 20) dX11_angleOf_20 (by decide) ?_
  refine r_irem (pc := 23) dX11_angleOf_23 (by decide) ?_
  exact r_ireturn (S := []) (pc := 24) dX11_angleOf_24 rfl rfl ⟨rfl, rfl⟩
theorem s_X11_makes {om : OM} {l : Launch} {B : Nat × Nat} {h0 : Hp} {I : Nat → Int32} {J : Nat → Int64} {A a v t n : Nat → Int32} (e : Nat) (he : A 41 = nI e) (hl15 : e < 15) (k d s : Int32) : Runs om l M_X11_makes B 0 (entL 5 [.ref 119, .int k, .int d, .int s]) [] (rH h0 I J A a v t n) (Det (none) (rH h0 I J (R_makes A e k d s) a v t n)) := by
  show Runs om l M_X11_makes B 0 [some (.ref 119), some (.int k), some (.int d), some (.int s), none] [] _ _
  refine r_bipush (v := 42) (pc := 0) dX11_makes_0 (by decide) ?_
  refine r_iconst (v := 4) (pc := 2) dX11_makes_2 (by decide) ?_
  refine r_aload_n (pc := 3) dX11_makes_3 rfl rfl ?_
  refine rs_get (pc := 4) dX11_makes_4 rfl f_RX11_7 rfl ?_
  refine r_bipush (v := 41) (pc := 7) dX11_makes_7 (by decide) ?_
  refine rs_ld (41) (pc := 9) dX11_makes_9 rfl (by omega) ?_
  refine r_imul (pc := 10) dX11_makes_10 ?_
  refine r_iadd (pc := 11) dX11_makes_11 ?_
  refine q_istore [_, _, _, _, _] (pc := 12) dX11_makes_12 (by decide) rfl ?_
  refine r_aload_n (pc := 14) dX11_makes_14 rfl rfl ?_
  refine rs_get (pc := 15) dX11_makes_15 rfl f_RX11_7 rfl ?_
  refine r_iload (pc := 18) dX11_makes_18 rfl ?_
  refine r_iload_n (pc := 20) dX11_makes_20 rfl rfl ?_
  refine rs_st (42 + (4 * e)) (pc := 21) dX11_makes_21 (nadd rfl (nmul rfl he)) (by omega) ?_
  refine r_aload_n (pc := 22) dX11_makes_22 rfl rfl ?_
  refine rs_get (pc := 23) dX11_makes_23 rfl f_RX11_7 rfl ?_
  refine r_iload (pc := 26) dX11_makes_26 rfl ?_
  refine r_iconst (v := 1) (pc := 28) dX11_makes_28 (by decide) ?_
  refine r_iadd (pc := 29) dX11_makes_29 ?_
  refine r_iload_n (pc := 30) dX11_makes_30 rfl rfl ?_
  refine rs_st ((42 + (4 * e)) + 1) (pc := 31) dX11_makes_31 (nadd (nadd rfl (nmul rfl he)) rfl) (by omega) ?_
  refine r_aload_n (pc := 32) dX11_makes_32 rfl rfl ?_
  refine rs_get (pc := 33) dX11_makes_33 rfl f_RX11_7 rfl ?_
  refine r_iload (pc := 36) dX11_makes_36 rfl ?_
  refine r_iconst (v := 2) (pc := 38) dX11_makes_38 (by decide) ?_
  refine r_iadd (pc := 39) dX11_makes_39 ?_
  refine r_iload_n (pc := 40) dX11_makes_40 rfl rfl ?_
  refine rs_st ((42 + (4 * e)) + 2) (pc := 41) dX11_makes_41 (nadd (nadd rfl (nmul rfl he)) rfl) (by omega) ?_
  refine r_aload_n (pc := 42) dX11_makes_42 rfl rfl ?_
  refine rs_get (pc := 43) dX11_makes_43 rfl f_RX11_7 rfl ?_
  refine r_iload (pc := 46) dX11_makes_46 rfl ?_
  refine r_iconst (v := 3) (pc := 48) dX11_makes_48 (by decide) ?_
  refine r_iadd (pc := 49) dX11_makes_49 ?_
  refine r_iconst (v := 0) (pc := 50) dX11_makes_50 (by decide) ?_
  refine rs_st ((42 + (4 * e)) + 3) (pc := 51) dX11_makes_51 (nadd (nadd rfl (nmul rfl he)) rfl) (by omega) ?_
  refine r_aload_n (pc := 52) dX11_makes_52 rfl rfl ?_
  refine rs_get (pc := 53) dX11_makes_53 rfl f_RX11_7 rfl ?_
  refine r_bipush (v := 41) (pc := 56) dX11_makes_56 (by decide) ?_
  refine r_dup2 (pc := 58) dX11_makes_58 rfl rfl ?_
  refine rs_ld (41) (pc := 59) dX11_makes_59 rfl (by omega) ?_
  refine r_iconst (v := 1) (pc := 60) dX11_makes_60 (by decide) ?_
  refine r_iadd (pc := 61) dX11_makes_61 ?_
  refine rs_st (41) (pc := 62) dX11_makes_62 rfl (by omega) ?_
  exact r_return (S := []) (pc := 63) dX11_makes_63 rfl ⟨rfl, rfl⟩
theorem lp_X11_putAside {om : OM} {l : Launch} {B : Nat × Nat} {h0 : Hp} {I : Nat → Int32} {J : Nat → Int64} {A a v t n : Nat → Int32} {Post : Out → Hp → Prop}  : ∀ (n9 k : Nat) (g : Nat → Int32), k + n9 = 647 → g = cpT A a k → Runs om l M_X11_putAside B 27 [some (.ref 119), some (.int (nI 647))] [] (rH h0 I J A (cpT A a 647) v t n) Post → Runs om l M_X11_putAside B 2 [some (.ref 119), some (.int (nI k))] [] (rH h0 I J A g v t n) Post := by
  intro n9
  induction n9 with
  | zero =>
    intro k g hk e_g KK
    subst e_g
    have e9 : k = 647 := by omega
    subst e9
    refine r_iload_n (pc := 2) dX11_putAside_2 rfl rfl ?_
    refine r_sipush (v := 647) (pc := 3) dX11_putAside_3 (by decide) ?_
    refine r_icmp_ge 27 (pc := 6) dX11_putAside_6 (by decide) (fun c6 => ?_) (fun c6 => absurd (c_get rfl rfl (a := 647) (b := 647) (by omega) (by omega) (by omega)) c6)
    exact KK
  | succ n9 ih =>
    intro k g hk e_g KK
    subst e_g
    refine r_iload_n (pc := 2) dX11_putAside_2 rfl rfl ?_
    refine r_sipush (v := 647) (pc := 3) dX11_putAside_3 (by decide) ?_
    refine r_icmp_ge 27 (pc := 6) dX11_putAside_6 (by decide) (fun c6 => absurd c6 (c_gef rfl rfl (a := k) (b := 647) (by omega) (by omega) (by omega))) (fun c6 => ?_)
    refine r_aload_n (pc := 9) dX11_putAside_9 rfl rfl ?_
    refine rs_get (pc := 10) dX11_putAside_10 rfl f_RX11_13 rfl ?_
    refine r_iload_n (pc := 13) dX11_putAside_13 rfl rfl ?_
    refine r_aload_n (pc := 14) dX11_putAside_14 rfl rfl ?_
    refine rs_get (pc := 15) dX11_putAside_15 rfl f_RX11_7 rfl ?_
    refine r_iload_n (pc := 18) dX11_putAside_18 rfl rfl ?_
    refine rs_ld (k) (pc := 19) dX11_putAside_19 rfl (by omega) ?_
    refine rs_sta (k) (pc := 20) dX11_putAside_20 rfl (by omega) ?_
    refine q_iinc (nI (k + 1)) [_, _] (pc := 21) dX11_putAside_21 rfl (by decide) (ninc 1 rfl) rfl ?_
    refine r_goto 2 (pc := 24) dX11_putAside_24 (by decide) ?_
    exact ih (k + 1) _ (by omega) cpT_s KK
theorem s_X11_putAside {om : OM} {l : Launch} {B : Nat × Nat} {h0 : Hp} {I : Nat → Int32} {J : Nat → Int64} {A a v t n : Nat → Int32}  : Runs om l M_X11_putAside B 0 (entL 2 [.ref 119]) [] (rH h0 I J A a v t n) (Det (none) (rH h0 I J A (cpT A a 647) v t n)) := by
  show Runs om l M_X11_putAside B 0 [some (.ref 119), none] [] _ _
  refine r_iconst (v := 0) (pc := 0) dX11_putAside_0 (by decide) ?_
  refine q_istore_n [_, _] (pc := 1) dX11_putAside_1 rfl (by decide) rfl ?_
  refine lp_X11_putAside 647 0 _ (by omega) cpT_0.symm ?_
  exact r_return (S := []) (pc := 27) dX11_putAside_27 rfl ⟨rfl, rfl⟩
theorem lp_X11_putBack {om : OM} {l : Launch} {B : Nat × Nat} {h0 : Hp} {I : Nat → Int32} {J : Nat → Int64} {A a v t n : Nat → Int32} {Post : Out → Hp → Prop}  : ∀ (n9 k : Nat) (g : Nat → Int32), k + n9 = 647 → g = cpT a A k → Runs om l M_X11_putBack B 27 [some (.ref 119), some (.int (nI 647))] [] (rH h0 I J (cpT a A 647) a v t n) Post → Runs om l M_X11_putBack B 2 [some (.ref 119), some (.int (nI k))] [] (rH h0 I J g a v t n) Post := by
  intro n9
  induction n9 with
  | zero =>
    intro k g hk e_g KK
    subst e_g
    have e9 : k = 647 := by omega
    subst e9
    refine r_iload_n (pc := 2) dX11_putBack_2 rfl rfl ?_
    refine r_sipush (v := 647) (pc := 3) dX11_putBack_3 (by decide) ?_
    refine r_icmp_ge 27 (pc := 6) dX11_putBack_6 (by decide) (fun c6 => ?_) (fun c6 => absurd (c_get rfl rfl (a := 647) (b := 647) (by omega) (by omega) (by omega)) c6)
    exact KK
  | succ n9 ih =>
    intro k g hk e_g KK
    subst e_g
    refine r_iload_n (pc := 2) dX11_putBack_2 rfl rfl ?_
    refine r_sipush (v := 647) (pc := 3) dX11_putBack_3 (by decide) ?_
    refine r_icmp_ge 27 (pc := 6) dX11_putBack_6 (by decide) (fun c6 => absurd c6 (c_gef rfl rfl (a := k) (b := 647) (by omega) (by omega) (by omega))) (fun c6 => ?_)
    refine r_aload_n (pc := 9) dX11_putBack_9 rfl rfl ?_
    refine rs_get (pc := 10) dX11_putBack_10 rfl f_RX11_7 rfl ?_
    refine r_iload_n (pc := 13) dX11_putBack_13 rfl rfl ?_
    refine r_aload_n (pc := 14) dX11_putBack_14 rfl rfl ?_
    refine rs_get (pc := 15) dX11_putBack_15 rfl f_RX11_13 rfl ?_
    refine r_iload_n (pc := 18) dX11_putBack_18 rfl rfl ?_
    refine rs_lda (k) (pc := 19) dX11_putBack_19 rfl (by omega) ?_
    refine rs_st (k) (pc := 20) dX11_putBack_20 rfl (by omega) ?_
    refine q_iinc (nI (k + 1)) [_, _] (pc := 21) dX11_putBack_21 rfl (by decide) (ninc 1 rfl) rfl ?_
    refine r_goto 2 (pc := 24) dX11_putBack_24 (by decide) ?_
    exact ih (k + 1) _ (by omega) cpT_s KK
theorem s_X11_putBack {om : OM} {l : Launch} {B : Nat × Nat} {h0 : Hp} {I : Nat → Int32} {J : Nat → Int64} {A a v t n : Nat → Int32}  : Runs om l M_X11_putBack B 0 (entL 2 [.ref 119]) [] (rH h0 I J A a v t n) (Det (none) (rH h0 I J (cpT a A 647) a v t n)) := by
  show Runs om l M_X11_putBack B 0 [some (.ref 119), none] [] _ _
  refine r_iconst (v := 0) (pc := 0) dX11_putBack_0 (by decide) ?_
  refine q_istore_n [_, _] (pc := 1) dX11_putBack_1 rfl (by decide) rfl ?_
  refine lp_X11_putBack 647 0 _ (by omega) cpT_0.symm ?_
  exact r_return (S := []) (pc := 27) dX11_putBack_27 rfl ⟨rfl, rfl⟩
theorem s_X11_holds {om : OM} {l : Launch} {B : Nat × Nat} {h0 : Hp} {I : Nat → Int32} {J : Nat → Int64} {A a v t n : Nat → Int32} (x p : Int32) (hx : x = 0 ∨ x = 1) : Runs om l M_X11_holds B 0 (entL 3 [.ref 119, .int x, .int p]) [] (rH h0 I J A a v t n) (Det (some (.int x)) (rH h0 (upd I 0 (if x = 0 then p else 0)) J A a v t n)) := by
  show Runs om l M_X11_holds B 0 [some (.ref 119), some (.int x), some (.int p)] [] _ _
  refine r_aload_n (pc := 0) dX11_holds_0 rfl rfl ?_
  refine r_iload_n (pc := 1) dX11_holds_1 rfl rfl ?_
  refine r_if_eq 9 (pc := 2) dX11_holds_2 (by decide) (fun c2 => ?_) (fun c2 => ?_)
  · refine r_iload_n (pc := 9) dX11_holds_9 rfl rfl ?_
    refine rs_putI _ (pc := 10) dX11_holds_10 rfl f_RX11_30 (by decide) (mfs_0 _) ?_
    refine r_iload_n (pc := 13) dX11_holds_13 rfl rfl ?_
    exact r_ireturn (S := []) (pc := 14) dX11_holds_14 rfl (by rcases hx with rfl | rfl <;> rfl) ⟨rfl, by simp [*]⟩
  · refine r_iconst (v := 0) (pc := 5) dX11_holds_5 (by decide) ?_
    refine r_goto 10 (pc := 6) dX11_holds_6 (by decide) ?_
    refine rs_putI _ (pc := 10) dX11_holds_10 rfl f_RX11_30 (by decide) (mfs_0 _) ?_
    refine r_iload_n (pc := 13) dX11_holds_13 rfl rfl ?_
    exact r_ireturn (S := []) (pc := 14) dX11_holds_14 rfl (by rcases hx with rfl | rfl <;> rfl) ⟨rfl, by simp [*]⟩
theorem lp_save1 {om : OM} {l : Launch} {B : Nat × Nat} {h0 : Hp} {I : Nat → Int32} {J : Nat → Int64} {A a v t n : Nat → Int32} {Post : Out → Hp → Prop}  : ∀ (n9 k : Nat) (g : Nat → Int32), k + n9 = 1941 → g = shf v k → Runs om l M_X11_save B 39 [some (.ref 119), some (.int (nI 1941))] [] (rH h0 I J A a (shf v 1941) t n) Post → Runs om l M_X11_save B 10 [some (.ref 119), some (.int (nI k))] [] (rH h0 I J A a g t n) Post := by
  intro n9
  induction n9 with
  | zero =>
    intro k g hk e_g KK
    subst e_g
    have e9 : k = 1941 := by omega
    subst e9
    refine r_iload_n (pc := 10) dX11_save_10 rfl rfl ?_
    refine r_sipush (v := 1941) (pc := 11) dX11_save_11 (by decide) ?_
    refine r_icmp_ge 39 (pc := 14) dX11_save_14 (by decide) (fun c14 => ?_) (fun c14 => absurd (c_get rfl rfl (a := 1941) (b := 1941) (by omega) (by omega) (by omega)) c14)
    exact KK
  | succ n9 ih =>
    intro k g hk e_g KK
    subst e_g
    refine r_iload_n (pc := 10) dX11_save_10 rfl rfl ?_
    refine r_sipush (v := 1941) (pc := 11) dX11_save_11 (by decide) ?_
    refine r_icmp_ge 39 (pc := 14) dX11_save_14 (by decide) (fun c14 => absurd c14 (c_gef rfl rfl (a := k) (b := 1941) (by omega) (by omega) (by omega))) (fun c14 => ?_)
    refine r_aload_n (pc := 17) dX11_save_17 rfl rfl ?_
    refine rs_get (pc := 18) dX11_save_18 rfl f_RX11_16 rfl ?_
    refine r_iload_n (pc := 21) dX11_save_21 rfl rfl ?_
    refine r_aload_n (pc := 22) dX11_save_22 rfl rfl ?_
    refine rs_get (pc := 23) dX11_save_23 rfl f_RX11_16 rfl ?_
    refine r_iload_n (pc := 26) dX11_save_26 rfl rfl ?_
    refine r_sipush (v := 647) (pc := 27) dX11_save_27 (by decide) ?_
    refine r_iadd (pc := 30) dX11_save_30 ?_
    refine rs_ldv (k + 647) (pc := 31) dX11_save_31 (nadd rfl rfl) (by omega) ?_
    refine rs_stv (k) (pc := 32) dX11_save_32 rfl (by omega) ?_
    refine q_iinc (nI (k + 1)) [_, _] (pc := 33) dX11_save_33 rfl (by decide) (ninc 1 rfl) rfl ?_
    refine r_goto 10 (pc := 36) dX11_save_36 (by decide) ?_
    exact ih (k + 1) _ (by omega) shf_s KK
theorem lp_save2 {om : OM} {l : Launch} {B : Nat × Nat} {h0 : Hp} {I : Nat → Int32} {J : Nat → Int64} {A a v t n : Nat → Int32} {Post : Out → Hp → Prop} (c : Nat) (hc : I 4 = nI c) (hc3 : c ≤ 3) : ∀ (n9 k : Nat) (g : Nat → Int32), k + n9 = 647 → g = cpR A v (647 * c) k → Runs om l M_X11_save B 85 [some (.ref 119), some (.int (nI 647))] [] (rH h0 I J A a (cpR A v (647 * c) 647) t n) Post → Runs om l M_X11_save B 51 [some (.ref 119), some (.int (nI k))] [] (rH h0 I J A a g t n) Post := by
  intro n9
  induction n9 with
  | zero =>
    intro k g hk e_g KK
    subst e_g
    have e9 : k = 647 := by omega
    subst e9
    refine r_iload_n (pc := 51) dX11_save_51 rfl rfl ?_
    refine r_sipush (v := 647) (pc := 52) dX11_save_52 (by decide) ?_
    refine r_icmp_ge 85 (pc := 55) dX11_save_55 (by decide) (fun c55 => ?_) (fun c55 => absurd (c_get rfl rfl (a := 647) (b := 647) (by omega) (by omega) (by omega)) c55)
    exact KK
  | succ n9 ih =>
    intro k g hk e_g KK
    subst e_g
    refine r_iload_n (pc := 51) dX11_save_51 rfl rfl ?_
    refine r_sipush (v := 647) (pc := 52) dX11_save_52 (by decide) ?_
    refine r_icmp_ge 85 (pc := 55) dX11_save_55 (by decide) (fun c55 => absurd c55 (c_gef rfl rfl (a := k) (b := 647) (by omega) (by omega) (by omega))) (fun c55 => ?_)
    refine r_aload_n (pc := 58) dX11_save_58 rfl rfl ?_
    refine rs_get (pc := 59) dX11_save_59 rfl f_RX11_16 rfl ?_
    refine r_sipush (v := 647) (pc := 62) dX11_save_62 (by decide) ?_
    refine r_aload_n (pc := 65) dX11_save_65 rfl rfl ?_
    refine rs_get (pc := 66) dX11_save_66 rfl f_RX11_34 rfl ?_
    refine r_imul (pc := 69) dX11_save_69 ?_
    refine r_iload_n (pc := 70) dX11_save_70 rfl rfl ?_
    refine r_iadd (pc := 71) dX11_save_71 ?_
    refine r_aload_n (pc := 72) dX11_save_72 rfl rfl ?_
    refine rs_get (pc := 73) dX11_save_73 rfl f_RX11_7 rfl ?_
    refine r_iload_n (pc := 76) dX11_save_76 rfl rfl ?_
    refine rs_ld (k) (pc := 77) dX11_save_77 rfl (by omega) ?_
    refine rs_stv ((647 * c) + k) (pc := 78) dX11_save_78 (nadd (nmul rfl hc) rfl) (by omega) ?_
    refine q_iinc (nI (k + 1)) [_, _] (pc := 79) dX11_save_79 rfl (by decide) (ninc 1 rfl) rfl ?_
    refine r_goto 51 (pc := 82) dX11_save_82 (by decide) ?_
    exact ih (k + 1) _ (by omega) cpR_s KK
theorem s_X11_save4 {om : OM} {l : Launch} {B : Nat × Nat} {h0 : Hp} {I : Nat → Int32} {J : Nat → Int64} {A a v t n : Nat → Int32} (hc : I 4 = nI 4) : Runs om l M_X11_save B 0 (entL 2 [.ref 119]) [] (rH h0 I J A a v t n) (Det (none) (rH h0 (R_saveI I) J A a (R_savev 4 A v) t n)) := by
  show Runs om l M_X11_save B 0 [some (.ref 119), none] [] _ _
  refine r_aload_n (pc := 0) dX11_save_0 rfl rfl ?_
  refine rs_get (pc := 1) dX11_save_1 rfl f_RX11_34 rfl ?_
  refine r_iconst (v := 4) (pc := 4) dX11_save_4 (by decide) ?_
  refine r_icmp_ne 49 (pc := 5) dX11_save_5 (by decide) (fun c5 => absurd (c_eqt hc rfl (a := 4) (b := 4) (by omega) (by omega) (by omega)) c5) (fun c5 => ?_)
  refine r_iconst (v := 0) (pc := 8) dX11_save_8 (by decide) ?_
  refine q_istore_n [_, _] (pc := 9) dX11_save_9 rfl (by decide) rfl ?_
  refine lp_save1 1941 0 _ (by omega) shf_0.symm ?_
  refine r_aload_n (pc := 39) dX11_save_39 rfl rfl ?_
  refine r_dup (pc := 40) dX11_save_40 rfl ?_
  refine rs_get (pc := 41) dX11_save_41 rfl f_RX11_34 rfl ?_
  refine r_iconst (v := 1) (pc := 44) dX11_save_44 (by decide) ?_
  refine r_isub (pc := 45) dX11_save_45 ?_
  refine rs_putI _ (pc := 46) dX11_save_46 rfl f_RX11_34 (by decide) (mfs_4 _) ?_
  refine r_iconst (v := 0) (pc := 49) dX11_save_49 (by decide) ?_
  refine q_istore_n [_, _] (pc := 50) dX11_save_50 rfl (by decide) rfl ?_
  refine lp_save2 3 (by rw [upd_s, hc]; rfl) (by omega) 647 0 _ (by omega) cpR_0.symm ?_
  refine r_aload_n (pc := 85) dX11_save_85 rfl rfl ?_
  refine r_dup (pc := 86) dX11_save_86 rfl ?_
  refine rs_get (pc := 87) dX11_save_87 rfl f_RX11_34 rfl ?_
  refine r_iconst (v := 1) (pc := 90) dX11_save_90 (by decide) ?_
  refine r_iadd (pc := 91) dX11_save_91 ?_
  refine rs_putI _ (pc := 92) dX11_save_92 rfl f_RX11_34 (by decide) (mfs_4 _) ?_
  exact r_return (S := []) (pc := 95) dX11_save_95 rfl ⟨rfl, by rw [R_saveI, if_pos (show I 4 = 4 from hc), R_savev, if_pos rfl]⟩
theorem s_X11_saveL {om : OM} {l : Launch} {B : Nat × Nat} {h0 : Hp} {I : Nat → Int32} {J : Nat → Int64} {A a v t n : Nat → Int32} (c : Nat) (hc : I 4 = nI c) (hc4 : c < 4) : Runs om l M_X11_save B 0 (entL 2 [.ref 119]) [] (rH h0 I J A a v t n) (Det (none) (rH h0 (R_saveI I) J A a (R_savev c A v) t n)) := by
  show Runs om l M_X11_save B 0 [some (.ref 119), none] [] _ _
  refine r_aload_n (pc := 0) dX11_save_0 rfl rfl ?_
  refine rs_get (pc := 1) dX11_save_1 rfl f_RX11_34 rfl ?_
  refine r_iconst (v := 4) (pc := 4) dX11_save_4 (by decide) ?_
  refine r_icmp_ne 49 (pc := 5) dX11_save_5 (by decide) (fun c5 => ?_) (fun c5 => absurd c5 (c_eqf hc rfl (a := c) (b := 4) (by omega) (by omega) (by omega)))
  refine r_iconst (v := 0) (pc := 49) dX11_save_49 (by decide) ?_
  refine q_istore_n [_, _] (pc := 50) dX11_save_50 rfl (by decide) rfl ?_
  refine lp_save2 c hc (by omega) 647 0 _ (by omega) cpR_0.symm ?_
  refine r_aload_n (pc := 85) dX11_save_85 rfl rfl ?_
  refine r_dup (pc := 86) dX11_save_86 rfl ?_
  refine rs_get (pc := 87) dX11_save_87 rfl f_RX11_34 rfl ?_
  refine r_iconst (v := 1) (pc := 90) dX11_save_90 (by decide) ?_
  refine r_iadd (pc := 91) dX11_save_91 ?_
  refine rs_putI _ (pc := 92) dX11_save_92 rfl f_RX11_34 (by decide) (mfs_4 _) ?_
  exact r_return (S := []) (pc := 95) dX11_save_95 rfl ⟨rfl, by rw [R_saveI, if_neg (show ¬ I 4 = 4 from c_eqf hc (b := 4) rfl (by omega) (by omega) (by omega)), R_savev, if_neg (by omega)]⟩
theorem s_X11_save {om : OM} {l : Launch} {B : Nat × Nat} {h0 : Hp} {I : Nat → Int32} {J : Nat → Int64} {A a v t n : Nat → Int32} (c : Nat) (hc : I 4 = nI c) (hc4 : c ≤ 4) : Runs om l M_X11_save B 0 (entL 2 [.ref 119]) [] (rH h0 I J A a v t n) (Det none (rH h0 (R_saveI I) J A a (R_savev c A v) t n)) := by
  by_cases h4 : c = 4
  · subst h4; exact s_X11_save4 hc
  · exact s_X11_saveL c hc (by omega)
theorem lp_undo {om : OM} {l : Launch} {B : Nat × Nat} {h0 : Hp} {I : Nat → Int32} {J : Nat → Int64} {A a v t n : Nat → Int32} {Post : Out → Hp → Prop} (c : Nat) (hc : I 4 = nI c) (hc3 : c ≤ 3) : ∀ (n9 k : Nat) (g : Nat → Int32), k + n9 = 647 → g = cpT (fun j => v (647 * c + j)) A k → Runs om l M_X11_undo B 68 [some (.ref 119), some (.int (nI 647))] [] (rH h0 I J (cpT (fun j => v (647 * c + j)) A 647) a v t n) Post → Runs om l M_X11_undo B 34 [some (.ref 119), some (.int (nI k))] [] (rH h0 I J g a v t n) Post := by
  intro n9
  induction n9 with
  | zero =>
    intro k g hk e_g KK
    subst e_g
    have e9 : k = 647 := by omega
    subst e9
    refine r_iload_n (pc := 34) dX11_undo_34 rfl rfl ?_
    refine r_sipush (v := 647) (pc := 35) dX11_undo_35 (by decide) ?_
    refine r_icmp_ge 68 (pc := 38) dX11_undo_38 (by decide) (fun c38 => ?_) (fun c38 => absurd (c_get rfl rfl (a := 647) (b := 647) (by omega) (by omega) (by omega)) c38)
    exact KK
  | succ n9 ih =>
    intro k g hk e_g KK
    subst e_g
    refine r_iload_n (pc := 34) dX11_undo_34 rfl rfl ?_
    refine r_sipush (v := 647) (pc := 35) dX11_undo_35 (by decide) ?_
    refine r_icmp_ge 68 (pc := 38) dX11_undo_38 (by decide) (fun c38 => absurd c38 (c_gef rfl rfl (a := k) (b := 647) (by omega) (by omega) (by omega))) (fun c38 => ?_)
    refine r_aload_n (pc := 41) dX11_undo_41 rfl rfl ?_
    refine rs_get (pc := 42) dX11_undo_42 rfl f_RX11_7 rfl ?_
    refine r_iload_n (pc := 45) dX11_undo_45 rfl rfl ?_
    refine r_aload_n (pc := 46) dX11_undo_46 rfl rfl ?_
    refine rs_get (pc := 47) dX11_undo_47 rfl f_RX11_16 rfl ?_
    refine r_sipush (v := 647) (pc := 50) dX11_undo_50 (by decide) ?_
    refine r_aload_n (pc := 53) dX11_undo_53 rfl rfl ?_
    refine rs_get (pc := 54) dX11_undo_54 rfl f_RX11_34 rfl ?_
    refine r_imul (pc := 57) dX11_undo_57 ?_
    refine r_iload_n (pc := 58) dX11_undo_58 rfl rfl ?_
    refine r_iadd (pc := 59) dX11_undo_59 ?_
    refine rs_ldv ((647 * c) + k) (pc := 60) dX11_undo_60 (nadd (nmul rfl hc) rfl) (by omega) ?_
    refine rs_st (k) (pc := 61) dX11_undo_61 rfl (by omega) ?_
    refine q_iinc (nI (k + 1)) [_, _] (pc := 62) dX11_undo_62 rfl (by decide) (ninc 1 rfl) rfl ?_
    refine r_goto 34 (pc := 65) dX11_undo_65 (by decide) ?_
    exact ih (k + 1) _ (by omega) cpT_s KK
theorem s_X11_undoP {om : OM} {l : Launch} {B : Nat × Nat} {h0 : Hp} {I : Nat → Int32} {J : Nat → Int64} {A a v t n : Nat → Int32} (hl : l.stackTraces = false) (c : Nat) (hc : I 4 = nI (c + 1)) (hc4 : c < 4) : Runs om l M_X11_undo B 0 (entL 2 [.ref 119]) [] (rH h0 I J A a v t n) (Det (some (.int (nI c))) (rH h0 (upd (upd I 0 0) 4 (nI c)) J (cpT (fun j => v (647 * c + j)) A 647) a v t n)) := by
  show Runs om l M_X11_undo B 0 [some (.ref 119), none] [] _ _
  refine r_aload_n (pc := 0) dX11_undo_0 rfl rfl ?_
  refine r_aload_n (pc := 1) dX11_undo_1 rfl rfl ?_
  refine rs_get (pc := 2) dX11_undo_2 rfl f_RX11_34 rfl ?_
  refine r_if_le 12 (pc := 5) dX11_undo_5 (by decide) (fun c5 => absurd c5 (c_lef hc rfl (a := (c + 1)) (b := 0) (by omega) (by omega) (by omega))) (fun c5 => ?_)
  refine r_iconst (v := 1) (pc := 8) dX11_undo_8 (by decide) ?_
  refine r_goto 13 (pc := 9) dX11_undo_9 (by decide) ?_
  refine r_iconst (v := 1) (pc := 13) dX11_undo_13 (by decide) ?_
  refine rs_call (vs := [.int _, .int _]) (pc := 14) dX11_undo_14 rfl l_RX11_37 rfl rfl ⟨by decide, by decide⟩ rfl (Nat.le_of_ble_eq_true rfl) hl (Nat.le_of_ble_eq_true rfl) (s_X11_holds 1 1 (by decide)) rfl ?_
  refine r_if_ne 22 (pc := 17) dX11_undo_17 (by decide) (fun c17 => ?_) (fun c17 => absurd c17 (c_eqf rfl rfl (a := 1) (b := 0) (by omega) (by omega) (by omega)))
  refine r_aload_n (pc := 22) dX11_undo_22 rfl rfl ?_
  refine r_dup (pc := 23) dX11_undo_23 rfl ?_
  refine rs_get (pc := 24) dX11_undo_24 rfl f_RX11_34 rfl ?_
  refine r_iconst (v := 1) (pc := 27) dX11_undo_27 (by decide) ?_
  refine r_isub (pc := 28) dX11_undo_28 ?_
  refine rs_putI _ (pc := 29) dX11_undo_29 rfl f_RX11_34 (by decide) (mfs_4 _) ?_
  refine r_iconst (v := 0) (pc := 32) dX11_undo_32 (by decide) ?_
  refine q_istore_n [_, _] (pc := 33) dX11_undo_33 rfl (by decide) rfl ?_
  refine lp_undo c (by rw [upd_s, upd_n (by decide), hc]; exact nI_pred c) (by omega) 647 0 _ (by omega) cpT_0.symm ?_
  refine r_aload_n (pc := 68) dX11_undo_68 rfl rfl ?_
  refine rs_get (pc := 69) dX11_undo_69 rfl f_RX11_34 rfl ?_
  exact r_ireturn (S := []) (pc := 72) dX11_undo_72 rfl rfl ⟨by simp [upd_s, upd_n, hc, nI_pred], by simp [upd_s, upd_n, hc, nI_pred]⟩
theorem s_X11_undo0 {om : OM} {l : Launch} {B : Nat × Nat} {h0 : Hp} {I : Nat → Int32} {J : Nat → Int64} {A a v t n : Nat → Int32} (hl : l.stackTraces = false) (hc : I 4 = 0) : Runs om l M_X11_undo B 0 (entL 2 [.ref 119]) [] (rH h0 I J A a v t n) (Det (some (.int 0)) (rH h0 (upd I 0 1) J A a v t n)) := by
  show Runs om l M_X11_undo B 0 [some (.ref 119), none] [] _ _
  refine r_aload_n (pc := 0) dX11_undo_0 rfl rfl ?_
  refine r_aload_n (pc := 1) dX11_undo_1 rfl rfl ?_
  refine rs_get (pc := 2) dX11_undo_2 rfl f_RX11_34 rfl ?_
  refine r_if_le 12 (pc := 5) dX11_undo_5 (by decide) (fun c5 => ?_) (fun c5 => absurd (c_let hc rfl (a := 0) (b := 0) (by omega) (by omega) (by omega)) c5)
  refine r_iconst (v := 0) (pc := 12) dX11_undo_12 (by decide) ?_
  refine r_iconst (v := 1) (pc := 13) dX11_undo_13 (by decide) ?_
  refine rs_call (vs := [.int _, .int _]) (pc := 14) dX11_undo_14 rfl l_RX11_37 rfl rfl ⟨by decide, by decide⟩ rfl (Nat.le_of_ble_eq_true rfl) hl (Nat.le_of_ble_eq_true rfl) (s_X11_holds 0 1 (by decide)) rfl ?_
  refine r_if_ne 22 (pc := 17) dX11_undo_17 (by decide) (fun c17 => absurd (c_eqt rfl rfl (a := 0) (b := 0) (by omega) (by omega) (by omega)) c17) (fun c17 => ?_)
  refine r_iconst (v := 0) (pc := 20) dX11_undo_20 (by decide) ?_
  exact r_ireturn (S := []) (pc := 21) dX11_undo_21 rfl rfl ⟨rfl, rfl⟩
theorem lp_keeps {om : OM} {l : Launch} {B : Nat × Nat} {h0 : Hp} {I : Nat → Int32} {J : Nat → Int64} {A a v t n : Nat → Int32} {Post : Out → Hp → Prop} (p : Int32) : ∀ (k : Nat) (g : Nat → Int32), k ≤ 8 → g = shk A k → Runs om l M_X11_keeps B 33 [some (.ref 119), some (.int p), some (.int 0)] [] (rH h0 I J (shk A 0) a v t n) Post → Runs om l M_X11_keeps B 3 [some (.ref 119), some (.int p), some (.int (nI k))] [] (rH h0 I J g a v t n) Post := by
  intro k
  induction k with
  | zero =>
    intro g hk e_g KK
    subst e_g
    refine r_iload_n (pc := 3) dX11_keeps_3 rfl rfl ?_
    refine r_if_le 33 (pc := 4) dX11_keeps_4 (by decide) (fun c4 => ?_) (fun c4 => absurd (c_let rfl rfl (a := 0) (b := 0) (by omega) (by omega) (by omega)) c4)
    exact KK
  | succ k ih =>
    intro g hk e_g KK
    subst e_g
    refine r_iload_n (pc := 3) dX11_keeps_3 rfl rfl ?_
    refine r_if_le 33 (pc := 4) dX11_keeps_4 (by decide) (fun c4 => absurd c4 (c_lef rfl rfl (a := k + 1) (b := 0) (by omega) (by omega) (by omega))) (fun c4 => ?_)
    refine r_aload_n (pc := 7) dX11_keeps_7 rfl rfl ?_
    refine rs_get (pc := 8) dX11_keeps_8 rfl f_RX11_7 rfl ?_
    refine r_bipush (v := 32) (pc := 11) dX11_keeps_11 (by decide) ?_
    refine r_iload_n (pc := 13) dX11_keeps_13 rfl rfl ?_
    refine r_iadd (pc := 14) dX11_keeps_14 ?_
    refine r_aload_n (pc := 15) dX11_keeps_15 rfl rfl ?_
    refine rs_get (pc := 16) dX11_keeps_16 rfl f_RX11_7 rfl ?_
    refine r_bipush (v := 32) (pc := 19) dX11_keeps_19 (by decide) ?_
    refine r_iload_n (pc := 21) dX11_keeps_21 rfl rfl ?_
    refine r_iadd (pc := 22) dX11_keeps_22 ?_
    refine r_iconst (v := 1) (pc := 23) dX11_keeps_23 (by decide) ?_
    refine r_isub (pc := 24) dX11_keeps_24 ?_
    refine rs_ld ((32 + (k + 1)) - 1) (pc := 25) dX11_keeps_25 (nsub (nadd rfl rfl) rfl (by omega)) (by omega) ?_
    refine rs_st (32 + (k + 1)) (pc := 26) dX11_keeps_26 (nadd rfl rfl) (by omega) ?_
    refine q_iinc (nI (k)) [_, _, _] (pc := 27) dX11_keeps_27 rfl (by decide) (pk_m1 _) rfl ?_
    refine r_goto 3 (pc := 30) dX11_keeps_30 (by decide) ?_
    exact ih _ (by omega) (shk_s (by omega)) KK
theorem s_X11_keeps {om : OM} {l : Launch} {B : Nat × Nat} {h0 : Hp} {I : Nat → Int32} {J : Nat → Int64} {A a v t n : Nat → Int32} (p : Int32) : Runs om l M_X11_keeps B 0 (entL 3 [.ref 119, .int p]) [] (rH h0 I J A a v t n) (Det (none) (rH h0 I J (R_keeps A p) a v t n)) := by
  show Runs om l M_X11_keeps B 0 [some (.ref 119), some (.int p), none] [] _ _
  refine r_bipush (v := 8) (pc := 0) dX11_keeps_0 (by decide) ?_
  refine q_istore_n [_, _, _] (pc := 2) dX11_keeps_2 rfl (by decide) rfl ?_
  refine lp_keeps p 8 _ (by omega) shk_8.symm ?_
  refine r_aload_n (pc := 33) dX11_keeps_33 rfl rfl ?_
  refine rs_get (pc := 34) dX11_keeps_34 rfl f_RX11_7 rfl ?_
  refine r_bipush (v := 32) (pc := 37) dX11_keeps_37 (by decide) ?_
  refine r_iload_n (pc := 39) dX11_keeps_39 rfl rfl ?_
  refine rs_st (32) (pc := 40) dX11_keeps_40 rfl (by omega) ?_
  refine r_aload_n (pc := 41) dX11_keeps_41 rfl rfl ?_
  refine rs_get (pc := 42) dX11_keeps_42 rfl f_RX11_7 rfl ?_
  refine r_bipush (v := 31) (pc := 45) dX11_keeps_45 (by decide) ?_
  refine r_aload_n (pc := 47) dX11_keeps_47 rfl rfl ?_
  refine rs_get (pc := 48) dX11_keeps_48 rfl f_RX11_7 rfl ?_
  refine r_bipush (v := 31) (pc := 51) dX11_keeps_51 (by decide) ?_
  refine rs_ld (31) (pc := 53) dX11_keeps_53 rfl (by omega) ?_
  refine r_aload_n (pc := 54) dX11_keeps_54 rfl rfl ?_
  refine rs_get (pc := 55) dX11_keeps_55 rfl f_RX11_7 rfl ?_
  refine r_bipush (v := 18) (pc := 58) dX11_keeps_58 (by decide) ?_
  refine rs_ld (18) (pc := 60) dX11_keeps_60 rfl (by omega) ?_
  refine r_icmp_ge 76 (pc := 61) dX11_keeps_61 (by decide) (fun c61 => ?_) (fun c61 => ?_)
  · refine r_aload_n (pc := 76) dX11_keeps_76 rfl rfl ?_
    refine rs_get (pc := 77) dX11_keeps_77 rfl f_RX11_7 rfl ?_
    refine r_bipush (v := 18) (pc := 80) dX11_keeps_80 (by decide) ?_
    refine rs_ld (18) (pc := 82) dX11_keeps_82 rfl (by omega) ?_
    refine rs_st (31) (pc := 83) dX11_keeps_83 rfl (by omega) ?_
    exact r_return (S := []) (pc := 84) dX11_keeps_84 rfl ⟨rfl, by simp [R_keeps, *]⟩
  · refine r_aload_n (pc := 64) dX11_keeps_64 rfl rfl ?_
    refine rs_get (pc := 65) dX11_keeps_65 rfl f_RX11_7 rfl ?_
    refine r_bipush (v := 31) (pc := 68) dX11_keeps_68 (by decide) ?_
    refine rs_ld (31) (pc := 70) dX11_keeps_70 rfl (by omega) ?_
    refine r_iconst (v := 1) (pc := 71) dX11_keeps_71 (by decide) ?_
    refine r_iadd (pc := 72) dX11_keeps_72 ?_
    refine r_goto 83 (pc := 73) dX11_keeps_73 (by decide) ?_
    refine rs_st (31) (pc := 83) dX11_keeps_83 rfl (by omega) ?_
    exact r_return (S := []) (pc := 84) dX11_keeps_84 rfl ⟨rfl, by simp [R_keeps, *]⟩
