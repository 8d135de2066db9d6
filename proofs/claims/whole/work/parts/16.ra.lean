theorem s_X11_thrown {om : OM} {l : Launch} {B : Nat × Nat} {h0 : Hp} {I : Nat → Int32} {J : Nat → Int64} {A a v t n : Nat → Int32}  : Runs om l M_X11_thrown B 0 (entL 1 [.ref 119]) [] (rH h0 I J A a v t n) (Det (some (.int (I 0))) (rH h0 I J A a v t n)) := by
  show Runs om l M_X11_thrown B 0 [some (.ref 119)] [] _ _
  refine r_aload_n (pc := 0) dX11_thrown_0 rfl rfl ?_
  refine rs_get (pc := 1) dX11_thrown_1 rfl f_RX11_30 rfl ?_
  exact r_ireturn (S := []) (pc := 4) dX11_thrown_4 rfl rfl ⟨rfl, rfl⟩
theorem s_X11_in {om : OM} {l : Launch} {B : Nat × Nat} {h0 : Hp} {I : Nat → Int32} {J : Nat → Int64} {A a v t n : Nat → Int32} (x lo hi : Int32) : Runs om l M_X11_in B 0 (entL 3 [.int x, .int lo, .int hi]) [] (rH h0 I J A a v t n) (Det (some (.int (R_in x lo hi))) (rH h0 I J A a v t n)) := by
  show Runs om l M_X11_in B 0 [some (.int x), some (.int lo), some (.int hi)] [] _ _
  refine r_iload_n (pc := 0) dX11_in_0 rfl rfl ?_
  refine r_iload_n (pc := 1) dX11_in_1 rfl rfl ?_
  refine r_icmp_lt 14 (pc := 2) dX11_in_2 (by decide) (fun c2 => ?_) (fun c2 => ?_)
  · refine r_iconst (v := 0) (pc := 14) dX11_in_14 (by decide) ?_
    exact r_ireturn (S := []) (pc := 15) dX11_in_15 rfl rfl ⟨by simp [R_in, *], rfl⟩
  · refine r_iload_n (pc := 5) dX11_in_5 rfl rfl ?_
    refine r_iload_n (pc := 6) dX11_in_6 rfl rfl ?_
    refine r_icmp_gt 14 (pc := 7) dX11_in_7 (by decide) (fun c7 => ?_) (fun c7 => ?_)
    · refine r_iconst (v := 0) (pc := 14) dX11_in_14 (by decide) ?_
      exact r_ireturn (S := []) (pc := 15) dX11_in_15 rfl rfl ⟨by simp [R_in, *], rfl⟩
    · refine r_iconst (v := 1) (pc := 10) dX11_in_10 (by decide) ?_
      refine r_goto 15 (pc := 11) dX11_in_11 (by decide) ?_
      exact r_ireturn (S := []) (pc := 15) dX11_in_15 rfl rfl ⟨by simp [R_in, *], rfl⟩
theorem s_X11_greater {om : OM} {l : Launch} {B : Nat × Nat} {h0 : Hp} {I : Nat → Int32} {J : Nat → Int64} {A a v t n : Nat → Int32} (x y : Int32) : Runs om l M_X11_greater B 0 (entL 2 [.int x, .int y]) [] (rH h0 I J A a v t n) (Det (some (.int (R_greater x y))) (rH h0 I J A a v t n)) := by
  show Runs om l M_X11_greater B 0 [some (.int x), some (.int y)] [] _ _
  refine r_iload_n (pc := 0) dX11_greater_0 rfl rfl ?_
  refine r_iload_n (pc := 1) dX11_greater_1 rfl rfl ?_
  refine r_icmp_le 9 (pc := 2) dX11_greater_2 (by decide) (fun c2 => ?_) (fun c2 => ?_)
  · refine r_iload_n (pc := 9) dX11_greater_9 rfl rfl ?_
    exact r_ireturn (S := []) (pc := 10) dX11_greater_10 rfl rfl ⟨by simp [R_greater, *], rfl⟩
  · refine r_iload_n (pc := 5) dX11_greater_5 rfl rfl ?_
    refine r_goto 10 (pc := 6) dX11_greater_6 (by decide) ?_
    exact r_ireturn (S := []) (pc := 10) dX11_greater_10 rfl rfl ⟨by simp [R_greater, *], rfl⟩
theorem s_X11_apart {om : OM} {l : Launch} {B : Nat × Nat} {h0 : Hp} {I : Nat → Int32} {J : Nat → Int64} {A a v t n : Nat → Int32} (x y : Int32) : Runs om l M_X11_apart B 0 (entL 2 [.int x, .int y]) [] (rH h0 I J A a v t n) (Det (some (.int (R_apart x y))) (rH h0 I J A a v t n)) := by
  show Runs om l M_X11_apart B 0 [some (.int x), some (.int y)] [] _ _
  refine r_iload_n (pc := 0) dX11_apart_0 rfl rfl ?_
  refine r_iload_n (pc := 1) dX11_apart_1 rfl rfl ?_
  refine r_icmp_le 11 (pc := 2) dX11_apart_2 (by decide) (fun c2 => ?_) (fun c2 => ?_)
  · refine r_iload_n (pc := 11) dX11_apart_11 rfl rfl ?_
    refine r_iload_n (pc := 12) dX11_apart_12 rfl rfl ?_
    refine r_isub (pc := 13) dX11_apart_13 ?_
    exact r_ireturn (S := []) (pc := 14) dX11_apart_14 rfl rfl ⟨by simp [R_apart, *], rfl⟩
  · refine r_iload_n (pc := 5) dX11_apart_5 rfl rfl ?_
    refine r_iload_n (pc := 6) dX11_apart_6 rfl rfl ?_
    refine r_isub (pc := 7) dX11_apart_7 ?_
    refine r_goto 14 (pc := 8) dX11_apart_8 (by decide) ?_
    exact r_ireturn (S := []) (pc := 14) dX11_apart_14 rfl rfl ⟨by simp [R_apart, *], rfl⟩
theorem s_X11_draw {om : OM} {l : Launch} {B : Nat × Nat} {h0 : Hp} {I : Nat → Int32} {J : Nat → Int64} {A a v t n : Nat → Int32} (below : Int32) (hb : ¬ below = 0) : Runs om l M_X11_draw B 0 (entL 2 [.ref 119, .int below]) [] (rH h0 I J A a v t n) (Det (some (.int (R_d2 A below))) (rH h0 I J (R_d1 A) a v t n)) := by
  show Runs om l M_X11_draw B 0 [some (.ref 119), some (.int below)] [] _ _
  refine r_aload_n (pc := 0) dX11_draw_0 rfl rfl ?_
  refine rs_get (pc := 1) dX11_draw_1 rfl f_RX11_7 rfl ?_
  refine r_bipush (v := 11) (pc := 4) dX11_draw_4 (by decide) ?_
  refine r_ldc2 (pc := 6) dX11_draw_6 rfl k_RX11_41 ?_
  refine r_aload_n (pc := 9) dX11_draw_9 rfl rfl ?_
  refine rs_get (pc := 10) dX11_draw_10 rfl f_RX11_7 rfl ?_
  refine r_bipush (v := 11) (pc := 13) dX11_draw_13 (by decide) ?_
  refine rs_ld (11) (pc := 15) dX11_draw_15 rfl (by omega) ?_
  refine r_i2l (pc := 16) dX11_draw_16 ?_
  refine r_lmul (pc := 17) dX11_draw_17 ?_
  refine r_ldc2 (pc := 18) dX11_draw_18 rfl k_RX11_43 ?_
  refine r_ladd (pc := 21) dX11_draw_21 ?_
  refine r_ldc2 (pc := 22) dX11_draw_22 rfl k_RX11_45 ?_
  refine r_lrem (pc := 25) dX11_draw_25 (by decide) ?_
  refine r_l2i (pc := 26) dX11_draw_26 ?_
  refine rs_st (11) (pc := 27) dX11_draw_27 rfl (by omega) ?_
  refine r_aload_n (pc := 28) dX11_draw_28 rfl rfl ?_
  refine rs_get (pc := 29) dX11_draw_29 rfl f_RX11_7 rfl ?_
  refine r_bipush (v := 11) (pc := 32) dX11_draw_32 (by decide) ?_
  refine rs_ld (11) (pc := 34) dX11_draw_34 rfl (by omega) ?_
  refine r_ldc (pc := 35) dX11_draw_35 rfl k_RX11_47 ?_
  refine r_idiv (pc := 37) dX11_draw_37 (by decide) ?_
  refine r_iload_n (pc := 38) dX11_draw_38 rfl rfl ?_
  refine r_irem (pc := 39) dX11_draw_39 hb ?_
  exact r_ireturn (S := []) (pc := 40) dX11_draw_40 rfl rfl ⟨rfl, rfl⟩
theorem s_X11_surface {om : OM} {l : Launch} {B : Nat × Nat} {h0 : Hp} {I : Nat → Int32} {J : Nat → Int64} {A a v t n : Nat → Int32}  : Runs om l M_X11_surface B 0 (entL 1 [.ref 119]) [] (rH h0 I J A a v t n) (Det (some (.int (A 0 - A 1))) (rH h0 I J A a v t n)) := by
  show Runs om l M_X11_surface B 0 [some (.ref 119)] [] _ _
  refine r_aload_n (pc := 0) dX11_surface_0 rfl rfl ?_
  refine rs_get (pc := 1) dX11_surface_1 rfl f_RX11_7 rfl ?_
  refine r_iconst (v := 0) (pc := 4) dX11_surface_4 (by decide) ?_
  refine rs_ld (0) (pc := 5) dX11_surface_5 rfl (by omega) ?_
  refine r_aload_n (pc := 6) dX11_surface_6 rfl rfl ?_
  refine rs_get (pc := 7) dX11_surface_7 rfl f_RX11_7 rfl ?_
  refine r_iconst (v := 1) (pc := 10) dX11_surface_10 (by decide) ?_
  refine rs_ld (1) (pc := 11) dX11_surface_11 rfl (by omega) ?_
  refine r_isub (pc := 12) dX11_surface_12 ?_
  exact r_ireturn (S := []) (pc := 13) dX11_surface_13 rfl rfl ⟨rfl, rfl⟩
theorem s_X11_angleOf {om : OM} {l : Launch} {B : Nat × Nat} {h0 : Hp} {I : Nat → Int32} {J : Nat → Int64} {A a v t n : Nat → Int32} (b : Int32) (hb : ¬ A 5 = 0) : Runs om l M_X11_angleOf B 0 (entL 2 [.ref 119, .int b]) [] (rH h0 I J A a v t n) (Det (some (.int (R_angle A b))) (rH h0 I J A a v t n)) := by
  show Runs om l M_X11_angleOf B 0 [some (.ref 119), some (.int b)] [] _ _
  refine r_aload_n (pc := 0) dX11_angleOf_0 rfl rfl ?_
  refine rs_get (pc := 1) dX11_angleOf_1 rfl f_RX11_7 rfl ?_
  refine r_bipush (v := 8) (pc := 4) dX11_angleOf_4 (by decide) ?_
  refine rs_ld (8) (pc := 6) dX11_angleOf_6 rfl (by omega) ?_
  refine r_sipush (v := 360) (pc := 7) dX11_angleOf_7 (by decide) ?_
  refine r_iload_n (pc := 10) dX11_angleOf_10 rfl rfl ?_
  refine r_imul (pc := 11) dX11_angleOf_11 ?_
  refine r_aload_n (pc := 12) dX11_angleOf_12 rfl rfl ?_
  refine rs_get (pc := 13) dX11_angleOf_13 rfl f_RX11_7 rfl ?_
  refine r_iconst (v := 5) (pc := 16) dX11_angleOf_16 (by decide) ?_
  refine rs_ld (5) (pc := 17) dX11_angleOf_17 rfl (by omega) ?_
  refine r_idiv (pc := 18) dX11_angleOf_18 hb ?_
  refine r_iadd (pc := 19) dX11_angleOf_19 ?_
  refine r_sipush (v := 360) (pc := 20) dX11_angleOf_20 (by decide) ?_
  refine r_irem (pc := 23) dX11_angleOf_23 (by decide) ?_
  exact r_ireturn (S := []) (pc := 24) dX11_angleOf_24 rfl rfl ⟨rfl, rfl⟩
theorem s_X11_makes {om : OM} {l : Launch} {B : Nat × Nat} {h0 : Hp} {I : Nat → Int32} {J : Nat → Int64} {A a v t n : Nat → Int32} (e : Nat) (he : A 41 = nI e) (hl15 : e < 15) (k d s : Int32) : Runs om l M_X11_makes B 0 (entL 5 [.ref 119, .int k, .int d, .int s]) [] (rH h0 I J A a v t n) (Det (none) (rH h0 I J (R_makes A e k d s) a v t n)) := by
  show Runs om l M_X11_makes B 0 [some (.ref 119), some (.int k), some (.int d), some (.int s), none] [] _ _
  refine r_bipush (v := 42) (pc := 0) dX11_makes_0 (by decide) ?_
  refine r_iconst (v := 4) (pc := 2) dX11_makes_2 (by decide) ?_
  refine r_aload_n (pc := 3) dX11_makes_3 rfl rfl ?_
  refine rs_get (pc := 4) dX11_makes_4 rfl f_RX11_7 rfl ?_
  refine r_bipush (v := 41) (pc := 7) dX11_makes_7 (by decide) ?_
  refine rs_ld (41) (pc := 9) dX11_makes_9 rfl (by omega) ?_
  refine r_imul (pc := 10) dX11_makes_10 ?_
  refine r_iadd (pc := 11) dX11_makes_11 ?_
  refine q_istore [_, _, _, _, _] (pc := 12) dX11_makes_12 (by decide) rfl ?_
  refine r_aload_n (pc := 14) dX11_makes_14 rfl rfl ?_
  refine rs_get (pc := 15) dX11_makes_15 rfl f_RX11_7 rfl ?_
  refine r_iload (pc := 18) dX11_makes_18 rfl ?_
  refine r_iload_n (pc := 20) dX11_makes_20 rfl rfl ?_
  refine rs_st (42 + (4 * e)) (pc := 21) dX11_makes_21 (nadd rfl (nmul rfl he)) (by omega) ?_
  refine r_aload_n (pc := 22) dX11_makes_22 rfl rfl ?_
  refine rs_get (pc := 23) dX11_makes_23 rfl f_RX11_7 rfl ?_
  refine r_iload (pc := 26) dX11_makes_26 rfl ?_
  refine r_iconst (v := 1) (pc := 28) dX11_makes_28 (by decide) ?_
  refine r_iadd (pc := 29) dX11_makes_29 ?_
  refine r_iload_n (pc := 30) dX11_makes_30 rfl rfl ?_
  refine rs_st ((42 + (4 * e)) + 1) (pc := 31) dX11_makes_31 (nadd (nadd rfl (nmul rfl he)) rfl) (by omega) ?_
  refine r_aload_n (pc := 32) dX11_makes_32 rfl rfl ?_
  refine rs_get (pc := 33) dX11_makes_33 rfl f_RX11_7 rfl ?_
  refine r_iload (pc := 36) dX11_makes_36 rfl ?_
  refine r_iconst (v := 2) (pc := 38) dX11_makes_38 (by decide) ?_
  refine r_iadd (pc := 39) dX11_makes_39 ?_
  refine r_iload_n (pc := 40) dX11_makes_40 rfl rfl ?_
  refine rs_st ((42 + (4 * e)) + 2) (pc := 41) dX11_makes_41 (nadd (nadd rfl (nmul rfl he)) rfl) (by omega) ?_
  refine r_aload_n (pc := 42) dX11_makes_42 rfl rfl ?_
  refine rs_get (pc := 43) dX11_makes_43 rfl f_RX11_7 rfl ?_
  refine r_iload (pc := 46) dX11_makes_46 rfl ?_
  refine r_iconst (v := 3) (pc := 48) dX11_makes_48 (by decide) ?_
  refine r_iadd (pc := 49) dX11_makes_49 ?_
  refine r_iconst (v := 0) (pc := 50) dX11_makes_50 (by decide) ?_
  refine rs_st ((42 + (4 * e)) + 3) (pc := 51) dX11_makes_51 (nadd (nadd rfl (nmul rfl he)) rfl) (by omega) ?_
  refine r_aload_n (pc := 52) dX11_makes_52 rfl rfl ?_
  refine rs_get (pc := 53) dX11_makes_53 rfl f_RX11_7 rfl ?_
  refine r_bipush (v := 41) (pc := 56) dX11_makes_56 (by decide) ?_
  refine r_dup2 (pc := 58) dX11_makes_58 rfl rfl ?_
  refine rs_ld (41) (pc := 59) dX11_makes_59 rfl (by omega) ?_
  refine r_iconst (v := 1) (pc := 60) dX11_makes_60 (by decide) ?_
  refine r_iadd (pc := 61) dX11_makes_61 ?_
  refine rs_st (41) (pc := 62) dX11_makes_62 rfl (by omega) ?_
  exact r_return (S := []) (pc := 63) dX11_makes_63 rfl ⟨rfl, rfl⟩
theorem lp_X11_putAside {om : OM} {l : Launch} {B : Nat × Nat} {h0 : Hp} {I : Nat → Int32} {J : Nat → Int64} {A a v t n : Nat → Int32} {Post : Out → Hp → Prop}  : ∀ (n9 k : Nat) (g : Nat → Int32), k + n9 = 647 → g = cpT A a k → Runs om l M_X11_putAside B 27 [some (.ref 119), some (.int (nI 647))] [] (rH h0 I J A (cpT A a 647) v t n) Post → Runs om l M_X11_putAside B 2 [some (.ref 119), some (.int (nI k))] [] (rH h0 I J A g v t n) Post := by
  intro n9
  induction n9 with
  | zero =>
    intro k g hk e_g K
    subst e_g
    have e9 : k = 647 := by omega
    subst e9
    refine r_iload_n (pc := 2) dX11_putAside_2 rfl rfl ?_
    refine r_sipush (v := 647) (pc := 3) dX11_putAside_3 (by decide) ?_
    refine r_icmp_ge 27 (pc := 6) dX11_putAside_6 (by decide) (fun c6 => ?_) (fun c6 => absurd (c_get rfl rfl (a := 647) (b := 647) (by omega) (by omega) (by omega)) c6)
    exact K
  | succ n9 ih =>
    intro k g hk e_g K
    subst e_g
    refine r_iload_n (pc := 2) dX11_putAside_2 rfl rfl ?_
    refine r_sipush (v := 647) (pc := 3) dX11_putAside_3 (by decide) ?_
    refine r_icmp_ge 27 (pc := 6) dX11_putAside_6 (by decide) (fun c6 => absurd c6 (c_gef rfl rfl (a := k) (b := 647) (by omega) (by omega) (by omega))) (fun c6 => ?_)
    refine r_aload_n (pc := 9) dX11_putAside_9 rfl rfl ?_
    refine rs_get (pc := 10) dX11_putAside_10 rfl f_RX11_13 rfl ?_
    refine r_iload_n (pc := 13) dX11_putAside_13 rfl rfl ?_
    refine r_aload_n (pc := 14) dX11_putAside_14 rfl rfl ?_
    refine rs_get (pc := 15) dX11_putAside_15 rfl f_RX11_7 rfl ?_
    refine r_iload_n (pc := 18) dX11_putAside_18 rfl rfl ?_
    refine rs_ld (k) (pc := 19) dX11_putAside_19 rfl (by omega) ?_
    refine rs_sta (k) (pc := 20) dX11_putAside_20 rfl (by omega) ?_
    refine q_iinc (nI (k + 1)) [_, _] (pc := 21) dX11_putAside_21 rfl (by decide) (ninc 1 rfl) rfl ?_
    refine r_goto 2 (pc := 24) dX11_putAside_24 (by decide) ?_
    exact ih (k + 1) _ (by omega) cpT_s K
theorem s_X11_putAside {om : OM} {l : Launch} {B : Nat × Nat} {h0 : Hp} {I : Nat → Int32} {J : Nat → Int64} {A a v t n : Nat → Int32}  : Runs om l M_X11_putAside B 0 (entL 2 [.ref 119]) [] (rH h0 I J A a v t n) (Det (none) (rH h0 I J A (cpT A a 647) v t n)) := by
  show Runs om l M_X11_putAside B 0 [some (.ref 119), none] [] _ _
  refine r_iconst (v := 0) (pc := 0) dX11_putAside_0 (by decide) ?_
  refine q_istore_n [_, _] (pc := 1) dX11_putAside_1 rfl (by decide) rfl ?_
  refine lp_X11_putAside 647 0 _ (by omega) cpT_0.symm ?_
  exact r_return (S := []) (pc := 27) dX11_putAside_27 rfl ⟨rfl, rfl⟩
theorem lp_X11_putBack {om : OM} {l : Launch} {B : Nat × Nat} {h0 : Hp} {I : Nat → Int32} {J : Nat → Int64} {A a v t n : Nat → Int32} {Post : Out → Hp → Prop}  : ∀ (n9 k : Nat) (g : Nat → Int32), k + n9 = 647 → g = cpT a A k → Runs om l M_X11_putBack B 27 [some (.ref 119), some (.int (nI 647))] [] (rH h0 I J (cpT a A 647) a v t n) Post → Runs om l M_X11_putBack B 2 [some (.ref 119), some (.int (nI k))] [] (rH h0 I J g a v t n) Post := by
  intro n9
  induction n9 with
  | zero =>
    intro k g hk e_g K
    subst e_g
    have e9 : k = 647 := by omega
    subst e9
    refine r_iload_n (pc := 2) dX11_putBack_2 rfl rfl ?_
    refine r_sipush (v := 647) (pc := 3) dX11_putBack_3 (by decide) ?_
    refine r_icmp_ge 27 (pc := 6) dX11_putBack_6 (by decide) (fun c6 => ?_) (fun c6 => absurd (c_get rfl rfl (a := 647) (b := 647) (by omega) (by omega) (by omega)) c6)
    exact K
  | succ n9 ih =>
    intro k g hk e_g K
    subst e_g
    refine r_iload_n (pc := 2) dX11_putBack_2 rfl rfl ?_
    refine r_sipush (v := 647) (pc := 3) dX11_putBack_3 (by decide) ?_
    refine r_icmp_ge 27 (pc := 6) dX11_putBack_6 (by decide) (fun c6 => absurd c6 (c_gef rfl rfl (a := k) (b := 647) (by omega) (by omega) (by omega))) (fun c6 => ?_)
    refine r_aload_n (pc := 9) dX11_putBack_9 rfl rfl ?_
    refine rs_get (pc := 10) dX11_putBack_10 rfl f_RX11_7 rfl ?_
    refine r_iload_n (pc := 13) dX11_putBack_13 rfl rfl ?_
    refine r_aload_n (pc := 14) dX11_putBack_14 rfl rfl ?_
    refine rs_get (pc := 15) dX11_putBack_15 rfl f_RX11_13 rfl ?_
    refine r_iload_n (pc := 18) dX11_putBack_18 rfl rfl ?_
    refine rs_lda (k) (pc := 19) dX11_putBack_19 rfl (by omega) ?_
    refine rs_st (k) (pc := 20) dX11_putBack_20 rfl (by omega) ?_
    refine q_iinc (nI (k + 1)) [_, _] (pc := 21) dX11_putBack_21 rfl (by decide) (ninc 1 rfl) rfl ?_
    refine r_goto 2 (pc := 24) dX11_putBack_24 (by decide) ?_
    exact ih (k + 1) _ (by omega) cpT_s K
theorem s_X11_putBack {om : OM} {l : Launch} {B : Nat × Nat} {h0 : Hp} {I : Nat → Int32} {J : Nat → Int64} {A a v t n : Nat → Int32}  : Runs om l M_X11_putBack B 0 (entL 2 [.ref 119]) [] (rH h0 I J A a v t n) (Det (none) (rH h0 I J (cpT a A 647) a v t n)) := by
  show Runs om l M_X11_putBack B 0 [some (.ref 119), none] [] _ _
  refine r_iconst (v := 0) (pc := 0) dX11_putBack_0 (by decide) ?_
  refine q_istore_n [_, _] (pc := 1) dX11_putBack_1 rfl (by decide) rfl ?_
  refine lp_X11_putBack 647 0 _ (by omega) cpT_0.symm ?_
  exact r_return (S := []) (pc := 27) dX11_putBack_27 rfl ⟨rfl, rfl⟩
