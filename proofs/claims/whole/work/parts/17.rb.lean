/-! joins of ways -/
section JN
variable {om : OM} {l : Launch} {M : MI} {B : Nat × Nat} {pc : Nat} {L : List (Option Value)} {S S2 : List Value} {h : Hp} {Post : Out → Hp → Prop}
theorem r_join (pj : Nat) (E : Int32) (a : Runs om l M B pj L (.int E :: S) h Post) (b : (∀ w : Int32, w = E → Runs om l M B pj L (.int w :: S) h Post) → Runs om l M B pc L S h Post) : Runs om l M B pc L S h Post := b (fun w e => by rw [e]; exact a)
theorem r_joinE (pj : Nat) (E : Int32) (a : Runs om l M B pj L (.int E :: S) h Post) (b : (∀ w : Int32, w = E → Runs om l M B pj L (.int w :: S) h Post) → Runs om l M B pc L S2 h Post) : Runs om l M B pc L S2 h Post := b (fun w e => by rw [e]; exact a)
theorem r_joinL (pj : Nat) (E : Int64) (a : Runs om l M B pj L (.long E :: S) h Post) (b : (∀ w : Int64, w = E → Runs om l M B pj L (.long w :: S) h Post) → Runs om l M B pc L S h Post) : Runs om l M B pc L S h Post := b (fun w e => by rw [e]; exact a)
theorem r_joinH (pj : Nat) (L' : List (Option Value)) (h' : Hp) (a : Runs om l M B pj L' S h' Post) (b : Runs om l M B pj L' S h' Post → Runs om l M B pc L S h Post) : Runs om l M B pc L S h Post := b a
theorem r_wkH {L' : List (Option Value)} {h' : Hp} (k : Runs om l M B pc L' S h' Post) (hw : wk L' L) (hh : h = h') : Runs om l M B pc L S h Post := by subst hh; exact r_wk L' hw k
end JN
theorem odd_ne (x : Int32) : ¬ 2 * x + 1 = 0 := by
  intro h
  have h2 : (2 * x + 1) * 2147483648 = 0 := by rw [h]; decide
  rw [Int32.add_mul, Int32.mul_comm 2 x, Int32.mul_assoc, show (2 : Int32) * 2147483648 = 0 by decide, Int32.mul_zero] at h2
  exact absurd h2 (by decide)
theorem mk_at {X : Nat → Int32} {e : Nat} {kd d s : Int32} (h : X 41 = nI e) (hl : e < 15) : R_mk X kd d s = R_makes X e kd d s := by unfold R_mk; rw [cl_nI h (by omega)]
theorem mk_41 {X : Nat → Int32} {e : Nat} {kd d s : Int32} (h : X 41 = nI e) : R_makes X e kd d s 41 = nI (e + 1) := by unfold R_makes; rw [upd_s, mk4_out (by omega), h]; exact (nI_succ e).symm
theorem cpR_hi {f g : Nat → Int32} {b q j : Nat} (h : b + q ≤ j) : cpR f g b q j = g j := if_neg (by omega)
theorem ndec4 (x : Nat) : nI (x + 4) + Int32.ofInt (-4) = nI x := by rw [show nI (x + 4) = nI x + 4 from (nI_add x 4).symm]; rw [Int32.add_assoc, show (4 : Int32) + Int32.ofInt (-4) = 0 by decide, Int32.add_zero]
theorem lp_kept {om : OM} {l : Launch} {B : Nat × Nat} {h0 : Hp} {I : Nat → Int32} {J : Nat → Int64} {A a v t n : Nat → Int32} {Post : Out → Hp → Prop} (K : Nat) (hK : A 31 = nI K) (hK9 : K ≤ 9) : ∀ (n9 k : Nat) (g : Int32), k + n9 = K → g = R_kp A k → Runs om l M_X11_kept B 42 [some (.ref 119), some (.int (R_kp A K)), some (.int (nI K))] [] (rH h0 I J A a v t n) Post → Runs om l M_X11_kept B 4 [some (.ref 119), some (.int g), some (.int (nI k))] [] (rH h0 I J A a v t n) Post := by
  intro n9
  induction n9 with
  | zero =>
    intro k g hk e_g KK
    subst e_g
    have e9 : k = K := by omega
    refine r_iload_n (pc := 4) dX11_kept_4 rfl rfl ?_
    refine r_aload_n (pc := 5) dX11_kept_5 rfl rfl ?_
    refine rs_get (pc := 6) dX11_kept_6 rfl f_RX11_7 rfl ?_
    refine r_bipush (v := 31) (pc := 9) dX11_kept_9 (by decide) ?_
    refine rs_ld (31) (pc := 11) dX11_kept_11 rfl (by omega) ?_
    refine r_icmp_ge 42 (pc := 12) dX11_kept_12 (by decide) (fun c12 => ?_) (fun c12 => absurd (c_get rfl hK (a := k) (b := K) (by omega) (by omega) (by omega)) c12)
    subst e9
    exact KK
  | succ n9 ih =>
    intro k g hk e_g KK
    subst e_g
    refine r_iload_n (pc := 4) dX11_kept_4 rfl rfl ?_
    refine r_aload_n (pc := 5) dX11_kept_5 rfl rfl ?_
    refine rs_get (pc := 6) dX11_kept_6 rfl f_RX11_7 rfl ?_
    refine r_bipush (v := 31) (pc := 9) dX11_kept_9 (by decide) ?_
    refine rs_ld (31) (pc := 11) dX11_kept_11 rfl (by omega) ?_
    refine r_icmp_ge 42 (pc := 12) dX11_kept_12 (by decide) (fun c12 => absurd c12 (c_gef rfl hK (a := k) (b := K) (by omega) (by omega) (by omega))) (fun c12 => ?_)
    refine r_iload_n (pc := 15) dX11_kept_15 rfl rfl ?_
    refine r_aload_n (pc := 16) dX11_kept_16 rfl rfl ?_
    refine rs_get (pc := 17) dX11_kept_17 rfl f_RX11_7 rfl ?_
    refine r_bipush (v := 32) (pc := 20) dX11_kept_20 (by decide) ?_
    refine r_iload_n (pc := 22) dX11_kept_22 rfl rfl ?_
    refine r_iadd (pc := 23) dX11_kept_23 ?_
    refine rs_ld (32 + k) (pc := 24) dX11_kept_24 (nadd rfl rfl) (by omega) ?_
    refine r_iconst (v := (-1)) (pc := 25) dX11_kept_25 (by decide) ?_
    refine r_icmp_eq 33 (pc := 26) dX11_kept_26 (by decide) (fun c26 => ?_) (fun c26 => ?_)
    · refine r_iconst (v := 0) (pc := 33) dX11_kept_33 (by decide) ?_
      refine r_iadd (pc := 34) dX11_kept_34 ?_
      refine q_istore_n [_, _, _] (pc := 35) dX11_kept_35 rfl (by decide) rfl ?_
      refine q_iinc (nI (k + 1)) [_, _, _] (pc := 36) dX11_kept_36 rfl (by decide) (ninc 1 rfl) rfl ?_
      refine r_goto 4 (pc := 39) dX11_kept_39 (by decide) ?_
      exact ih (k + 1) _ (by omega) (by simp [R_kp, *]) KK
    · refine r_iconst (v := 1) (pc := 29) dX11_kept_29 (by decide) ?_
      refine r_goto 34 (pc := 30) dX11_kept_30 (by decide) ?_
      refine r_iadd (pc := 34) dX11_kept_34 ?_
      refine q_istore_n [_, _, _] (pc := 35) dX11_kept_35 rfl (by decide) rfl ?_
      refine q_iinc (nI (k + 1)) [_, _, _] (pc := 36) dX11_kept_36 rfl (by decide) (ninc 1 rfl) rfl ?_
      refine r_goto 4 (pc := 39) dX11_kept_39 (by decide) ?_
      exact ih (k + 1) _ (by omega) (by simp [R_kp, *]) KK
theorem s_X11_kept {om : OM} {l : Launch} {B : Nat × Nat} {h0 : Hp} {I : Nat → Int32} {J : Nat → Int64} {A a v t n : Nat → Int32} (K : Nat) (hK : A 31 = nI K) (hK9 : K ≤ 9) : Runs om l M_X11_kept B 0 (entL 3 [.ref 119]) [] (rH h0 I J A a v t n) (Det (some (.int (R_kp A K))) (rH h0 I J A a v t n)) := by
  show Runs om l M_X11_kept B 0 [some (.ref 119), none, none] [] _ _
  refine r_iconst (v := 0) (pc := 0) dX11_kept_0 (by decide) ?_
  refine q_istore_n [_, _, _] (pc := 1) dX11_kept_1 rfl (by decide) rfl ?_
  refine r_iconst (v := 0) (pc := 2) dX11_kept_2 (by decide) ?_
  refine q_istore_n [_, _, _] (pc := 3) dX11_kept_3 rfl (by decide) rfl ?_
  refine lp_kept K hK hK9 K 0 _ (by omega) rfl ?_
  refine r_iload_n (pc := 42) dX11_kept_42 rfl rfl ?_
  exact r_ireturn (S := []) (pc := 43) dX11_kept_43 rfl rfl ⟨rfl, rfl⟩
theorem lp_masked {om : OM} {l : Launch} {B : Nat × Nat} {h0 : Hp} {I : Nat → Int32} {J : Nat → Int64} {A a v t n : Nat → Int32} {Post : Out → Hp → Prop}  : ∀ (n9 k : Nat) (g : Int32), k + n9 = 501 → g = R_mkd A k → Runs om l M_X11_masked B 30 [some (.ref 119), some (.int (R_mkd A 501)), some (.int (nI 501))] [] (rH h0 I J A a v t n) Post → Runs om l M_X11_masked B 4 [some (.ref 119), some (.int g), some (.int (nI k))] [] (rH h0 I J A a v t n) Post := by
  intro n9
  induction n9 with
  | zero =>
    intro k g hk e_g KK
    subst e_g
    have e9 : k = 501 := by omega
    subst e9
    refine r_iload_n (pc := 4) dX11_masked_4 rfl rfl ?_
    refine r_sipush (v := 501) (pc := 5) dX11_masked_5 (by decide) ?_
    refine r_icmp_ge 30 (pc := 8) dX11_masked_8 (by decide) (fun c8 => ?_) (fun c8 => absurd (c_get rfl rfl (a := 501) (b := 501) (by omega) (by omega) (by omega)) c8)
    exact KK
  | succ n9 ih =>
    intro k g hk e_g KK
    subst e_g
    refine r_iload_n (pc := 4) dX11_masked_4 rfl rfl ?_
    refine r_sipush (v := 501) (pc := 5) dX11_masked_5 (by decide) ?_
    refine r_icmp_ge 30 (pc := 8) dX11_masked_8 (by decide) (fun c8 => absurd c8 (c_gef rfl rfl (a := k) (b := 501) (by omega) (by omega) (by omega))) (fun c8 => ?_)
    refine r_iload_n (pc := 11) dX11_masked_11 rfl rfl ?_
    refine r_aload_n (pc := 12) dX11_masked_12 rfl rfl ?_
    refine rs_get (pc := 13) dX11_masked_13 rfl f_RX11_7 rfl ?_
    refine r_sipush (v := 146) (pc := 16) dX11_masked_16 (by decide) ?_
    refine r_iload_n (pc := 19) dX11_masked_19 rfl rfl ?_
    refine r_iadd (pc := 20) dX11_masked_20 ?_
    refine rs_ld (146 + k) (pc := 21) dX11_masked_21 (nadd rfl rfl) (by omega) ?_
    refine r_iadd (pc := 22) dX11_masked_22 ?_
    refine q_istore_n [_, _, _] (pc := 23) dX11_masked_23 rfl (by decide) rfl ?_
    refine q_iinc (nI (k + 1)) [_, _, _] (pc := 24) dX11_masked_24 rfl (by decide) (ninc 1 rfl) rfl ?_
    refine r_goto 4 (pc := 27) dX11_masked_27 (by decide) ?_
    exact ih (k + 1) _ (by omega) rfl KK
theorem s_X11_masked {om : OM} {l : Launch} {B : Nat × Nat} {h0 : Hp} {I : Nat → Int32} {J : Nat → Int64} {A a v t n : Nat → Int32}  : Runs om l M_X11_masked B 0 (entL 3 [.ref 119]) [] (rH h0 I J A a v t n) (Det (some (.int (R_mkd A 501))) (rH h0 I J A a v t n)) := by
  show Runs om l M_X11_masked B 0 [some (.ref 119), none, none] [] _ _
  refine r_iconst (v := 0) (pc := 0) dX11_masked_0 (by decide) ?_
  refine q_istore_n [_, _, _] (pc := 1) dX11_masked_1 rfl (by decide) rfl ?_
  refine r_iconst (v := 0) (pc := 2) dX11_masked_2 (by decide) ?_
  refine q_istore_n [_, _, _] (pc := 3) dX11_masked_3 rfl (by decide) rfl ?_
  refine lp_masked 501 0 _ (by omega) rfl ?_
  refine r_iload_n (pc := 30) dX11_masked_30 rfl rfl ?_
  exact r_ireturn (S := []) (pc := 31) dX11_masked_31 rfl rfl ⟨rfl, rfl⟩
theorem lp_begins {om : OM} {l : Launch} {B : Nat × Nat} {h0 : Hp} {I : Nat → Int32} {J : Nat → Int64} {A a v t n : Nat → Int32} {Post : Out → Hp → Prop} (d c9 : Int32) : ∀ (n9 k : Nat) (g : Nat → Int32), k + n9 = 647 → g = cpT (fun _ => 0) A k → Runs om l M_X11_begins B 30 [some (.ref 119), some (.int d), some (.int c9), some (.int (nI 647))] [] (rH h0 I J (cpT (fun _ => 0) A 647) a v t n) Post → Runs om l M_X11_begins B 10 [some (.ref 119), some (.int d), some (.int c9), some (.int (nI k))] [] (rH h0 I J g a v t n) Post := by
  intro n9
  induction n9 with
  | zero =>
    intro k g hk e_g KK
    subst e_g
    have e9 : k = 647 := by omega
    subst e9
    refine r_iload_n (pc := 10) dX11_begins_10 rfl rfl ?_
    refine r_sipush (v := 647) (pc := 11) dX11_begins_11 (by decide) ?_
    refine r_icmp_ge 30 (pc := 14) dX11_begins_14 (by decide) (fun c14 => ?_) (fun c14 => absurd (c_get rfl rfl (a := 647) (b := 647) (by omega) (by omega) (by omega)) c14)
    exact KK
  | succ n9 ih =>
    intro k g hk e_g KK
    subst e_g
    refine r_iload_n (pc := 10) dX11_begins_10 rfl rfl ?_
    refine r_sipush (v := 647) (pc := 11) dX11_begins_11 (by decide) ?_
    refine r_icmp_ge 30 (pc := 14) dX11_begins_14 (by decide) (fun c14 => absurd c14 (c_gef rfl rfl (a := k) (b := 647) (by omega) (by omega) (by omega))) (fun c14 => ?_)
    refine r_aload_n (pc := 17) dX11_begins_17 rfl rfl ?_
    refine rs_get (pc := 18) dX11_begins_18 rfl f_RX11_7 rfl ?_
    refine r_iload_n (pc := 21) dX11_begins_21 rfl rfl ?_
    refine r_iconst (v := 0) (pc := 22) dX11_begins_22 (by decide) ?_
    refine rs_st (k) (pc := 23) dX11_begins_23 rfl (by omega) ?_
    refine q_iinc (nI (k + 1)) [_, _, _, _] (pc := 24) dX11_begins_24 rfl (by decide) (ninc 1 rfl) rfl ?_
    refine r_goto 10 (pc := 27) dX11_begins_27 (by decide) ?_
    exact ih (k + 1) _ (by omega) cpT_s KK
theorem s_X11_begins {om : OM} {l : Launch} {B : Nat × Nat} {h0 : Hp} {I : Nat → Int32} {J : Nat → Int64} {A a v t n : Nat → Int32} (d : Int32) : Runs om l M_X11_begins B 0 (entL 4 [.ref 119, .int d]) [] (rH h0 I J A a v t n) (Det (none) (rH h0 I J (R_begins A d) a v t n)) := by
  show Runs om l M_X11_begins B 0 [some (.ref 119), some (.int d), none, none] [] _ _
  refine r_aload_n (pc := 0) dX11_begins_0 rfl rfl ?_
  refine rs_get (pc := 1) dX11_begins_1 rfl f_RX11_7 rfl ?_
  refine r_bipush (v := 11) (pc := 4) dX11_begins_4 (by decide) ?_
  refine rs_ld (11) (pc := 6) dX11_begins_6 rfl (by omega) ?_
  refine q_istore_n [_, _, _, _] (pc := 7) dX11_begins_7 rfl (by decide) rfl ?_
  refine r_iconst (v := 0) (pc := 8) dX11_begins_8 (by decide) ?_
  refine q_istore_n [_, _, _, _] (pc := 9) dX11_begins_9 rfl (by decide) rfl ?_
  refine lp_begins d _ 647 0 _ (by omega) cpT_0.symm ?_
  refine r_aload_n (pc := 30) dX11_begins_30 rfl rfl ?_
  refine rs_get (pc := 31) dX11_begins_31 rfl f_RX11_7 rfl ?_
  refine r_bipush (v := 11) (pc := 34) dX11_begins_34 (by decide) ?_
  refine r_iload_n (pc := 36) dX11_begins_36 rfl rfl ?_
  refine rs_st (11) (pc := 37) dX11_begins_37 rfl (by omega) ?_
  refine r_aload_n (pc := 38) dX11_begins_38 rfl rfl ?_
  refine rs_get (pc := 39) dX11_begins_39 rfl f_RX11_7 rfl ?_
  refine r_iconst (v := 0) (pc := 42) dX11_begins_42 (by decide) ?_
  refine r_iload_n (pc := 43) dX11_begins_43 rfl rfl ?_
  refine rs_st (0) (pc := 44) dX11_begins_44 rfl (by omega) ?_
  refine r_aload_n (pc := 45) dX11_begins_45 rfl rfl ?_
  refine rs_get (pc := 46) dX11_begins_46 rfl f_RX11_7 rfl ?_
  refine r_iconst (v := 1) (pc := 49) dX11_begins_49 (by decide) ?_
  refine r_sipush (v := 500) (pc := 50) dX11_begins_50 (by decide) ?_
  refine rs_st (1) (pc := 53) dX11_begins_53 rfl (by omega) ?_
  refine r_aload_n (pc := 54) dX11_begins_54 rfl rfl ?_
  refine rs_get (pc := 55) dX11_begins_55 rfl f_RX11_7 rfl ?_
  refine r_bipush (v := 6) (pc := 58) dX11_begins_58 (by decide) ?_
  refine r_sipush (v := 300) (pc := 60) dX11_begins_60 (by decide) ?_
  refine rs_st (6) (pc := 63) dX11_begins_63 rfl (by omega) ?_
  refine r_aload_n (pc := 64) dX11_begins_64 rfl rfl ?_
  refine rs_get (pc := 65) dX11_begins_65 rfl f_RX11_7 rfl ?_
  refine r_bipush (v := 7) (pc := 68) dX11_begins_68 (by decide) ?_
  refine r_sipush (v := 600) (pc := 70) dX11_begins_70 (by decide) ?_
  refine rs_st (7) (pc := 73) dX11_begins_73 rfl (by omega) ?_
  refine r_aload_n (pc := 74) dX11_begins_74 rfl rfl ?_
  refine rs_get (pc := 75) dX11_begins_75 rfl f_RX11_7 rfl ?_
  refine r_bipush (v := 9) (pc := 78) dX11_begins_78 (by decide) ?_
  refine r_bipush (v := 47) (pc := 80) dX11_begins_80 (by decide) ?_
  refine rs_st (9) (pc := 82) dX11_begins_82 rfl (by omega) ?_
  refine r_aload_n (pc := 83) dX11_begins_83 rfl rfl ?_
  refine rs_get (pc := 84) dX11_begins_84 rfl f_RX11_7 rfl ?_
  refine r_bipush (v := 10) (pc := 87) dX11_begins_87 (by decide) ?_
  refine r_bipush (v := 20) (pc := 89) dX11_begins_89 (by decide) ?_
  refine rs_st (10) (pc := 91) dX11_begins_91 rfl (by omega) ?_
  refine r_aload_n (pc := 92) dX11_begins_92 rfl rfl ?_
  refine rs_get (pc := 93) dX11_begins_93 rfl f_RX11_7 rfl ?_
  refine r_bipush (v := 14) (pc := 96) dX11_begins_96 (by decide) ?_
  refine r_bipush (v := 20) (pc := 98) dX11_begins_98 (by decide) ?_
  refine rs_st (14) (pc := 100) dX11_begins_100 rfl (by omega) ?_
  refine r_aload_n (pc := 101) dX11_begins_101 rfl rfl ?_
  refine rs_get (pc := 102) dX11_begins_102 rfl f_RX11_7 rfl ?_
  refine r_bipush (v := 15) (pc := 105) dX11_begins_105 (by decide) ?_
  refine r_iconst (v := 2) (pc := 107) dX11_begins_107 (by decide) ?_
  refine rs_st (15) (pc := 108) dX11_begins_108 rfl (by omega) ?_
  refine r_aload_n (pc := 109) dX11_begins_109 rfl rfl ?_
  refine rs_get (pc := 110) dX11_begins_110 rfl f_RX11_7 rfl ?_
  refine r_bipush (v := 18) (pc := 113) dX11_begins_113 (by decide) ?_
  refine r_iconst (v := 5) (pc := 115) dX11_begins_115 (by decide) ?_
  refine rs_st (18) (pc := 116) dX11_begins_116 rfl (by omega) ?_
  refine r_aload_n (pc := 117) dX11_begins_117 rfl rfl ?_
  refine rs_get (pc := 118) dX11_begins_118 rfl f_RX11_7 rfl ?_
  refine r_bipush (v := 19) (pc := 121) dX11_begins_121 (by decide) ?_
  refine r_iconst (v := 4) (pc := 123) dX11_begins_123 (by decide) ?_
  refine rs_st (19) (pc := 124) dX11_begins_124 rfl (by omega) ?_
  refine r_aload_n (pc := 125) dX11_begins_125 rfl rfl ?_
  refine rs_get (pc := 126) dX11_begins_126 rfl f_RX11_7 rfl ?_
  refine r_bipush (v := 20) (pc := 129) dX11_begins_129 (by decide) ?_
  refine r_bipush (v := 10) (pc := 131) dX11_begins_131 (by decide) ?_
  refine rs_st (20) (pc := 133) dX11_begins_133 rfl (by omega) ?_
  refine r_aload_n (pc := 134) dX11_begins_134 rfl rfl ?_
  refine rs_get (pc := 135) dX11_begins_135 rfl f_RX11_7 rfl ?_
  refine r_bipush (v := 21) (pc := 138) dX11_begins_138 (by decide) ?_
  refine r_sipush (v := 200) (pc := 140) dX11_begins_140 (by decide) ?_
  refine rs_st (21) (pc := 143) dX11_begins_143 rfl (by omega) ?_
  refine r_aload_n (pc := 144) dX11_begins_144 rfl rfl ?_
  refine rs_get (pc := 145) dX11_begins_145 rfl f_RX11_7 rfl ?_
  refine r_bipush (v := 22) (pc := 148) dX11_begins_148 (by decide) ?_
  refine r_sipush (v := 1800) (pc := 150) dX11_begins_150 (by decide) ?_
  refine rs_st (22) (pc := 153) dX11_begins_153 rfl (by omega) ?_
  refine r_aload_n (pc := 154) dX11_begins_154 rfl rfl ?_
  refine rs_get (pc := 155) dX11_begins_155 rfl f_RX11_7 rfl ?_
  refine r_bipush (v := 23) (pc := 158) dX11_begins_158 (by decide) ?_
  refine r_bipush (v := 20) (pc := 160) dX11_begins_160 (by decide) ?_
  refine rs_st (23) (pc := 162) dX11_begins_162 rfl (by omega) ?_
  refine r_aload_n (pc := 163) dX11_begins_163 rfl rfl ?_
  refine rs_get (pc := 164) dX11_begins_164 rfl f_RX11_7 rfl ?_
  refine r_bipush (v := 26) (pc := 167) dX11_begins_167 (by decide) ?_
  refine r_iconst (v := (-1)) (pc := 169) dX11_begins_169 (by decide) ?_
  refine rs_st (26) (pc := 170) dX11_begins_170 rfl (by omega) ?_
  exact r_return (S := []) (pc := 171) dX11_begins_171 rfl ⟨rfl, rfl⟩
theorem s_X11_isAhead {om : OM} {l : Launch} {B : Nat × Nat} {h0 : Hp} {I : Nat → Int32} {J : Nat → Int64} {A a v t n : Nat → Int32} (p : Nat) (hp : 46 ≤ p) (hp2 : p ≤ 98) : Runs om l M_X11_isAhead B 0 (entL 2 [.ref 119, .int (nI p)]) [] (rH h0 I J A a v t n) (Det (some (.int (R_ahead A p))) (rH h0 I J A a v t n)) := by
  show Runs om l M_X11_isAhead B 0 [some (.ref 119), some (.int (nI p))] [] _ _
  refine r_aload_n (pc := 0) dX11_isAhead_0 rfl rfl ?_
  refine rs_get (pc := 1) dX11_isAhead_1 rfl f_RX11_7 rfl ?_
  refine r_iload_n (pc := 4) dX11_isAhead_4 rfl rfl ?_
  refine r_iconst (v := 1) (pc := 5) dX11_isAhead_5 (by decide) ?_
  refine r_iadd (pc := 6) dX11_isAhead_6 ?_
  refine rs_ld (p + 1) (pc := 7) dX11_isAhead_7 (nadd rfl rfl) (by omega) ?_
  refine r_aload_n (pc := 8) dX11_isAhead_8 rfl rfl ?_
  refine rs_get (pc := 9) dX11_isAhead_9 rfl f_RX11_7 rfl ?_
  refine r_iload_n (pc := 12) dX11_isAhead_12 rfl rfl ?_
  refine r_iconst (v := 3) (pc := 13) dX11_isAhead_13 (by decide) ?_
  refine r_isub (pc := 14) dX11_isAhead_14 ?_
  refine rs_ld (p - 3) (pc := 15) dX11_isAhead_15 (nsub rfl rfl (by omega)) (by omega) ?_
  refine r_icmp_eq 44 (pc := 16) dX11_isAhead_16 (by decide) (fun c16 => ?_) (fun c16 => ?_)
  · refine r_aload_n (pc := 44) dX11_isAhead_44 rfl rfl ?_
    refine rs_get (pc := 45) dX11_isAhead_45 rfl f_RX11_7 rfl ?_
    refine r_iload_n (pc := 48) dX11_isAhead_48 rfl rfl ?_
    refine r_iconst (v := 2) (pc := 49) dX11_isAhead_49 (by decide) ?_
    refine r_iadd (pc := 50) dX11_isAhead_50 ?_
    refine rs_ld (p + 2) (pc := 51) dX11_isAhead_51 (nadd rfl rfl) (by omega) ?_
    refine r_aload_n (pc := 52) dX11_isAhead_52 rfl rfl ?_
    refine rs_get (pc := 53) dX11_isAhead_53 rfl f_RX11_7 rfl ?_
    refine r_iload_n (pc := 56) dX11_isAhead_56 rfl rfl ?_
    refine r_iconst (v := 2) (pc := 57) dX11_isAhead_57 (by decide) ?_
    refine r_isub (pc := 58) dX11_isAhead_58 ?_
    refine rs_ld (p - 2) (pc := 59) dX11_isAhead_59 (nsub rfl rfl (by omega)) (by omega) ?_
    refine r_icmp_ne 88 (pc := 60) dX11_isAhead_60 (by decide) (fun c60 => ?_) (fun c60 => ?_)
    · refine r_aload_n (pc := 88) dX11_isAhead_88 rfl rfl ?_
      refine rs_get (pc := 89) dX11_isAhead_89 rfl f_RX11_7 rfl ?_
      refine r_iload_n (pc := 92) dX11_isAhead_92 rfl rfl ?_
      refine r_iconst (v := 2) (pc := 93) dX11_isAhead_93 (by decide) ?_
      refine r_iadd (pc := 94) dX11_isAhead_94 ?_
      refine rs_ld (p + 2) (pc := 95) dX11_isAhead_95 (nadd rfl rfl) (by omega) ?_
      refine r_aload_n (pc := 96) dX11_isAhead_96 rfl rfl ?_
      refine rs_get (pc := 97) dX11_isAhead_97 rfl f_RX11_7 rfl ?_
      refine r_iload_n (pc := 100) dX11_isAhead_100 rfl rfl ?_
      refine r_iconst (v := 2) (pc := 101) dX11_isAhead_101 (by decide) ?_
      refine r_isub (pc := 102) dX11_isAhead_102 ?_
      refine rs_ld (p - 2) (pc := 103) dX11_isAhead_103 (nsub rfl rfl (by omega)) (by omega) ?_
      refine r_icmp_le 111 (pc := 104) dX11_isAhead_104 (by decide) (fun c104 => ?_) (fun c104 => ?_)
      · refine r_iconst (v := 0) (pc := 111) dX11_isAhead_111 (by decide) ?_
        exact r_ireturn (S := []) (pc := 112) dX11_isAhead_112 rfl rfl ⟨by simp [R_ahead, *], rfl⟩
      · refine r_iconst (v := 1) (pc := 107) dX11_isAhead_107 (by decide) ?_
        refine r_goto 112 (pc := 108) dX11_isAhead_108 (by decide) ?_
        exact r_ireturn (S := []) (pc := 112) dX11_isAhead_112 rfl rfl ⟨by simp [R_ahead, *], rfl⟩
    · refine r_aload_n (pc := 63) dX11_isAhead_63 rfl rfl ?_
      refine rs_get (pc := 64) dX11_isAhead_64 rfl f_RX11_7 rfl ?_
      refine r_iload_n (pc := 67) dX11_isAhead_67 rfl rfl ?_
      refine rs_ld (p) (pc := 68) dX11_isAhead_68 rfl (by omega) ?_
      refine r_aload_n (pc := 69) dX11_isAhead_69 rfl rfl ?_
      refine rs_get (pc := 70) dX11_isAhead_70 rfl f_RX11_7 rfl ?_
      refine r_iload_n (pc := 73) dX11_isAhead_73 rfl rfl ?_
      refine r_iconst (v := 4) (pc := 74) dX11_isAhead_74 (by decide) ?_
      refine r_isub (pc := 75) dX11_isAhead_75 ?_
      refine rs_ld (p - 4) (pc := 76) dX11_isAhead_76 (nsub rfl rfl (by omega)) (by omega) ?_
      refine r_icmp_ge 84 (pc := 77) dX11_isAhead_77 (by decide) (fun c77 => ?_) (fun c77 => ?_)
      · refine r_iconst (v := 0) (pc := 84) dX11_isAhead_84 (by decide) ?_
        refine r_goto 112 (pc := 85) dX11_isAhead_85 (by decide) ?_
        exact r_ireturn (S := []) (pc := 112) dX11_isAhead_112 rfl rfl ⟨by simp [R_ahead, *], rfl⟩
      · refine r_iconst (v := 1) (pc := 80) dX11_isAhead_80 (by decide) ?_
        refine r_goto 112 (pc := 81) dX11_isAhead_81 (by decide) ?_
        exact r_ireturn (S := []) (pc := 112) dX11_isAhead_112 rfl rfl ⟨by simp [R_ahead, *], rfl⟩
  · refine r_aload_n (pc := 19) dX11_isAhead_19 rfl rfl ?_
    refine rs_get (pc := 20) dX11_isAhead_20 rfl f_RX11_7 rfl ?_
    refine r_iload_n (pc := 23) dX11_isAhead_23 rfl rfl ?_
    refine r_iconst (v := 1) (pc := 24) dX11_isAhead_24 (by decide) ?_
    refine r_iadd (pc := 25) dX11_isAhead_25 ?_
    refine rs_ld (p + 1) (pc := 26) dX11_isAhead_26 (nadd rfl rfl) (by omega) ?_
    refine r_aload_n (pc := 27) dX11_isAhead_27 rfl rfl ?_
    refine rs_get (pc := 28) dX11_isAhead_28 rfl f_RX11_7 rfl ?_
    refine r_iload_n (pc := 31) dX11_isAhead_31 rfl rfl ?_
    refine r_iconst (v := 3) (pc := 32) dX11_isAhead_32 (by decide) ?_
    refine r_isub (pc := 33) dX11_isAhead_33 ?_
    refine rs_ld (p - 3) (pc := 34) dX11_isAhead_34 (nsub rfl rfl (by omega)) (by omega) ?_
    refine r_icmp_ge 42 (pc := 35) dX11_isAhead_35 (by decide) (fun c35 => ?_) (fun c35 => ?_)
    · refine r_iconst (v := 0) (pc := 42) dX11_isAhead_42 (by decide) ?_
      exact r_ireturn (S := []) (pc := 43) dX11_isAhead_43 rfl rfl ⟨by simp [R_ahead, *], rfl⟩
    · refine r_iconst (v := 1) (pc := 38) dX11_isAhead_38 (by decide) ?_
      refine r_goto 43 (pc := 39) dX11_isAhead_39 (by decide) ?_
      exact r_ireturn (S := []) (pc := 43) dX11_isAhead_43 rfl rfl ⟨by simp [R_ahead, *], rfl⟩
theorem lp_ech1 {om : OM} {l : Launch} {B : Nat × Nat} {h0 : Hp} {I : Nat → Int32} {J : Nat → Int64} {A a v t n : Nat → Int32} {Post : Out → Hp → Prop} (hl : l.stackTraces = false) (d : Int32) (X0 : Nat → Int32) (K : Nat) (hK6 : K ≤ 6) (h4 : A 4 = nI K) (hE : EI 0 A X0) : ∀ (n9 k : Nat) (g : Nat → Int32), k + n9 = K → g = itN (R_e1b d) k X0 → Runs om l M_X11_echoes B 78 [some (.ref 119), some (.int d), some (.int (nI K)), none, none, none] [] (rH h0 I J (itN (R_e1b d) K X0) a v t n) Post → Runs om l M_X11_echoes B 15 [some (.ref 119), some (.int d), some (.int (nI k)), none, none, none] [] (rH h0 I J g a v t n) Post := by
  intro n9
  induction n9 with
  | zero =>
    intro k g hk e_g KK
    have hE2 := EI_e1 (d := d) hE k (by omega)
    rw [← e_g] at hE2
    obtain ⟨e, he, hle, hout⟩ := hE2
    have h4g : g 4 = nI K := (hout 4 (by omega)).trans h4
    have e9 : k = K := by omega
    refine r_iload_n (pc := 15) dX11_echoes_15 rfl rfl ?_
    refine r_aload_n (pc := 16) dX11_echoes_16 rfl rfl ?_
    refine rs_get (pc := 17) dX11_echoes_17 rfl f_RX11_7 rfl ?_
    refine r_iconst (v := 4) (pc := 20) dX11_echoes_20 (by decide) ?_
    refine rs_ld (4) (pc := 21) dX11_echoes_21 rfl (by omega) ?_
    refine r_icmp_ge 78 (pc := 22) dX11_echoes_22 (by decide) (fun c22 => ?_) (fun c22 => absurd (c_get rfl h4g (a := k) (b := K) (by omega) (by omega) (by omega)) c22)
    subst e9
    subst e_g
    exact KK
  | succ n9 ih =>
    intro k g hk e_g KK
    have hE2 := EI_e1 (d := d) hE k (by omega)
    rw [← e_g] at hE2
    obtain ⟨e, he, hle, hout⟩ := hE2
    have h4g : g 4 = nI K := (hout 4 (by omega)).trans h4
    refine r_iload_n (pc := 15) dX11_echoes_15 rfl rfl ?_
    refine r_aload_n (pc := 16) dX11_echoes_16 rfl rfl ?_
    refine rs_get (pc := 17) dX11_echoes_17 rfl f_RX11_7 rfl ?_
    refine r_iconst (v := 4) (pc := 20) dX11_echoes_20 (by decide) ?_
    refine rs_ld (4) (pc := 21) dX11_echoes_21 rfl (by omega) ?_
    refine r_icmp_ge 78 (pc := 22) dX11_echoes_22 (by decide) (fun c22 => absurd c22 (c_gef rfl h4g (a := k) (b := K) (by omega) (by omega) (by omega))) (fun c22 => ?_)
    refine r_aload_n (pc := 25) dX11_echoes_25 rfl rfl ?_
    refine rs_get (pc := 26) dX11_echoes_26 rfl f_RX11_7 rfl ?_
    refine r_sipush (v := 134) (pc := 29) dX11_echoes_29 (by decide) ?_
    refine r_iconst (v := 2) (pc := 32) dX11_echoes_32 (by decide) ?_
    refine r_iload_n (pc := 33) dX11_echoes_33 rfl rfl ?_
    refine r_imul (pc := 34) dX11_echoes_34 ?_
    refine r_iadd (pc := 35) dX11_echoes_35 ?_
    refine rs_ld (134 + (2 * k)) (pc := 36) dX11_echoes_36 (nadd rfl (nmul rfl rfl)) (by omega) ?_
    refine r_iload_n (pc := 37) dX11_echoes_37 rfl rfl ?_
    refine r_icmp_ge 72 (pc := 38) dX11_echoes_38 (by decide) (fun c38 => ?_) (fun c38 => ?_)
    · refine q_iinc (nI (k + 1)) [_, _, _, _, _, _] (pc := 72) dX11_echoes_72 rfl (by decide) (ninc 1 rfl) rfl ?_
      refine r_goto 15 (pc := 75) dX11_echoes_75 (by decide) ?_
      exact ih (k + 1) _ (by omega) (by rw [itN_s, ← e_g, R_e1b]; clear e_g; simp [mk_at he (by omega), *]) KK
    · refine r_aload_n (pc := 41) dX11_echoes_41 rfl rfl ?_
      refine r_iconst (v := 0) (pc := 42) dX11_echoes_42 (by decide) ?_
      refine r_aload_n (pc := 43) dX11_echoes_43 rfl rfl ?_
      refine rs_get (pc := 44) dX11_echoes_44 rfl f_RX11_7 rfl ?_
      refine r_sipush (v := 134) (pc := 47) dX11_echoes_47 (by decide) ?_
      refine r_iconst (v := 2) (pc := 50) dX11_echoes_50 (by decide) ?_
      refine r_iload_n (pc := 51) dX11_echoes_51 rfl rfl ?_
      refine r_imul (pc := 52) dX11_echoes_52 ?_
      refine r_iadd (pc := 53) dX11_echoes_53 ?_
      refine rs_ld (134 + (2 * k)) (pc := 54) dX11_echoes_54 (nadd rfl (nmul rfl rfl)) (by omega) ?_
      refine r_aload_n (pc := 55) dX11_echoes_55 rfl rfl ?_
      refine rs_get (pc := 56) dX11_echoes_56 rfl f_RX11_7 rfl ?_
      refine r_sipush (v := 134) (pc := 59) dX11_echoes_59 (by decide) ?_
      refine r_iconst (v := 2) (pc := 62) dX11_echoes_62 (by decide) ?_
      refine r_iload_n (pc := 63) dX11_echoes_63 rfl rfl ?_
      refine r_imul (pc := 64) dX11_echoes_64 ?_
      refine r_iadd (pc := 65) dX11_echoes_65 ?_
      refine r_iconst (v := 1) (pc := 66) dX11_echoes_66 (by decide) ?_
      refine r_iadd (pc := 67) dX11_echoes_67 ?_
      refine rs_ld ((134 + (2 * k)) + 1) (pc := 68) dX11_echoes_68 (nadd (nadd rfl (nmul rfl rfl)) rfl) (by omega) ?_
      refine rs_call (vs := [.int _, .int _, .int _]) (pc := 69) dX11_echoes_69 rfl l_RX11_52 rfl rfl ⟨by decide, by decide⟩ rfl (Nat.le_of_ble_eq_true rfl) hl (Nat.le_of_ble_eq_true rfl) (s_X11_makes e he (by omega) _ _ _) rfl ?_
      refine q_iinc (nI (k + 1)) [_, _, _, _, _, _] (pc := 72) dX11_echoes_72 rfl (by decide) (ninc 1 rfl) rfl ?_
      refine r_goto 15 (pc := 75) dX11_echoes_75 (by decide) ?_
      exact ih (k + 1) _ (by omega) (by rw [itN_s, ← e_g, R_e1b]; clear e_g; simp [mk_at he (by omega), *]) KK
theorem lp_ech2 {om : OM} {l : Launch} {B : Nat × Nat} {h0 : Hp} {I : Nat → Int32} {J : Nat → Int64} {A a v t n : Nat → Int32} {Post : Out → Hp → Prop} (hl : l.stackTraces = false) (d : Int32) (X0 : Nat → Int32) (h0d : Int32) (K : Nat) (hK6 : K ≤ 6) (h5 : A 5 = nI K) (hE : EI 6 A X0) : ∀ (n9 k : Nat) (g : Nat → Int32) (hd : Int32), k + n9 = K → g = (itN (R_e2b d) k (X0, h0d)).1 → hd = (itN (R_e2b d) k (X0, h0d)).2 → Runs om l M_X11_echoes B 186 [some (.ref 119), some (.int d), some (.int ((itN (R_e2b d) K (X0, h0d)).2)), some (.int (nI K)), none, none] [] (rH h0 I J ((itN (R_e2b d) K (X0, h0d)).1) a v t n) Post → Runs om l M_X11_echoes B 82 [some (.ref 119), some (.int d), some (.int hd), some (.int (nI k)), none, none] [] (rH h0 I J g a v t n) Post := by
  intro n9
  induction n9 with
  | zero =>
    intro k g hd hk e_g e_hd KK
    have hE2 := EI_e2 (d := d) (hd := h0d) hE k (by omega)
    rw [← e_g] at hE2
    obtain ⟨e, he, hle, hout⟩ := hE2
    have h5g : g 5 = nI K := (hout 5 (by omega)).trans h5
    have e9 : k = K := by omega
    refine r_iload_n (pc := 82) dX11_echoes_82 rfl rfl ?_
    refine r_aload_n (pc := 83) dX11_echoes_83 rfl rfl ?_
    refine rs_get (pc := 84) dX11_echoes_84 rfl f_RX11_7 rfl ?_
    refine r_iconst (v := 5) (pc := 87) dX11_echoes_87 (by decide) ?_
    refine rs_ld (5) (pc := 88) dX11_echoes_88 rfl (by omega) ?_
    refine r_icmp_ge 186 (pc := 89) dX11_echoes_89 (by decide) (fun c89 => ?_) (fun c89 => absurd (c_get rfl h5g (a := k) (b := K) (by omega) (by omega) (by omega)) c89)
    subst e9
    subst e_g
    subst e_hd
    exact KK
  | succ n9 ih =>
    intro k g hd hk e_g e_hd KK
    have hE2 := EI_e2 (d := d) (hd := h0d) hE k (by omega)
    rw [← e_g] at hE2
    obtain ⟨e, he, hle, hout⟩ := hE2
    have h5g : g 5 = nI K := (hout 5 (by omega)).trans h5
    refine r_iload_n (pc := 82) dX11_echoes_82 rfl rfl ?_
    refine r_aload_n (pc := 83) dX11_echoes_83 rfl rfl ?_
    refine rs_get (pc := 84) dX11_echoes_84 rfl f_RX11_7 rfl ?_
    refine r_iconst (v := 5) (pc := 87) dX11_echoes_87 (by decide) ?_
    refine rs_ld (5) (pc := 88) dX11_echoes_88 rfl (by omega) ?_
    refine r_icmp_ge 186 (pc := 89) dX11_echoes_89 (by decide) (fun c89 => absurd c89 (c_gef rfl h5g (a := k) (b := K) (by omega) (by omega) (by omega))) (fun c89 => ?_)
    refine r_join 115 (R_bd g k) ?_ (fun J92 => ?_)
    · refine q_istore [_, _, _, _, _, _] (pc := 115) dX11_echoes_115 (by decide) rfl ?_
      refine r_join 156 (R_isIn g k) ?_ (fun J117 => ?_)
      · refine q_istore [_, _, _, _, _, _] (pc := 156) dX11_echoes_156 (by decide) rfl ?_
        refine r_iload (pc := 158) dX11_echoes_158 rfl ?_
        refine r_if_eq 180 (pc := 160) dX11_echoes_160 (by decide) (fun c160 => ?_) (fun c160 => ?_)
        · refine q_iinc (nI (k + 1)) [_, _, _, _, _, _] (pc := 180) dX11_echoes_180 rfl (by decide) (ninc 1 rfl) rfl ?_
          refine r_goto 82 (pc := 183) dX11_echoes_183 (by decide) ?_
          refine r_wk [some _, some _, some _, some _, none, none] ⟨rfl, ⟨rfl, ⟨rfl, ⟨rfl, trivial⟩⟩⟩⟩ ?_
          exact ih (k + 1) _ _ (by omega) (by rw [itN_s, R_e2b, ← e_g]; (repeat (first | rw [if_pos (by assumption)] | rw [if_neg (by assumption)])); first | exact e_g | exact (mk_at he (by omega)).symm) (by rw [itN_s, R_e2b, ← e_g]; first | (rw [if_pos (by assumption)]; exact e_hd) | (rw [if_neg (by assumption), if_pos (by assumption)]; exact e_hd) | (rw [if_neg (by assumption), if_neg (by assumption)])) KK
        · refine r_iload (pc := 163) dX11_echoes_163 rfl ?_
          refine r_iload_n (pc := 165) dX11_echoes_165 rfl rfl ?_
          refine r_icmp_ge 180 (pc := 166) dX11_echoes_166 (by decide) (fun c166 => ?_) (fun c166 => ?_)
          · refine q_iinc (nI (k + 1)) [_, _, _, _, _, _] (pc := 180) dX11_echoes_180 rfl (by decide) (ninc 1 rfl) rfl ?_
            refine r_goto 82 (pc := 183) dX11_echoes_183 (by decide) ?_
            refine r_wk [some _, some _, some _, some _, none, none] ⟨rfl, ⟨rfl, ⟨rfl, ⟨rfl, trivial⟩⟩⟩⟩ ?_
            exact ih (k + 1) _ _ (by omega) (by rw [itN_s, R_e2b, ← e_g]; (repeat (first | rw [if_pos (by assumption)] | rw [if_neg (by assumption)])); first | exact e_g | exact (mk_at he (by omega)).symm) (by rw [itN_s, R_e2b, ← e_g]; first | (rw [if_pos (by assumption)]; exact e_hd) | (rw [if_neg (by assumption), if_pos (by assumption)]; exact e_hd) | (rw [if_neg (by assumption), if_neg (by assumption)])) KK
          · refine r_aload_n (pc := 169) dX11_echoes_169 rfl rfl ?_
            refine r_iconst (v := 1) (pc := 170) dX11_echoes_170 (by decide) ?_
            refine r_iload (pc := 171) dX11_echoes_171 rfl ?_
            refine r_bipush (v := 60) (pc := 173) dX11_echoes_173 (by decide) ?_
            refine rs_call (vs := [.int _, .int _, .int _]) (pc := 175) dX11_echoes_175 rfl l_RX11_52 rfl rfl ⟨by decide, by decide⟩ rfl (Nat.le_of_ble_eq_true rfl) hl (Nat.le_of_ble_eq_true rfl) (s_X11_makes e he (by omega) _ _ _) rfl ?_
            refine r_iconst (v := 1) (pc := 178) dX11_echoes_178 (by decide) ?_
            refine q_istore_n [_, _, _, _, _, _] (pc := 179) dX11_echoes_179 rfl (by decide) rfl ?_
            refine q_iinc (nI (k + 1)) [_, _, _, _, _, _] (pc := 180) dX11_echoes_180 rfl (by decide) (ninc 1 rfl) rfl ?_
            refine r_goto 82 (pc := 183) dX11_echoes_183 (by decide) ?_
            refine r_wk [some _, some _, some _, some _, none, none] ⟨rfl, ⟨rfl, ⟨rfl, ⟨rfl, trivial⟩⟩⟩⟩ ?_
            exact ih (k + 1) _ _ (by omega) (by rw [itN_s, R_e2b, ← e_g]; (repeat (first | rw [if_pos (by assumption)] | rw [if_neg (by assumption)])); first | exact e_g | exact (mk_at he (by omega)).symm) (by rw [itN_s, R_e2b, ← e_g]; first | (rw [if_pos (by assumption)]; exact e_hd) | (rw [if_neg (by assumption), if_pos (by assumption)]; exact e_hd) | (rw [if_neg (by assumption), if_neg (by assumption)])) KK
      · refine r_aload_n (pc := 117) dX11_echoes_117 rfl rfl ?_
        refine r_iload_n (pc := 118) dX11_echoes_118 rfl rfl ?_
        refine rs_call (vs := [.int _]) (pc := 119) dX11_echoes_119 rfl l_RX11_56 rfl rfl ⟨by decide, by decide⟩ rfl (Nat.le_of_ble_eq_true rfl) hl (Nat.le_of_ble_eq_true rfl) (s_X11_angleOf _ (c_eqf h5g (b := 0) rfl (by omega) (by omega) (by omega))) rfl ?_
        refine r_aload_n (pc := 122) dX11_echoes_122 rfl rfl ?_
        refine rs_get (pc := 123) dX11_echoes_123 rfl f_RX11_7 rfl ?_
        refine r_bipush (v := 10) (pc := 126) dX11_echoes_126 (by decide) ?_
        refine rs_ld (10) (pc := 128) dX11_echoes_128 rfl (by omega) ?_
        refine r_icmp_le 151 (pc := 129) dX11_echoes_129 (by decide) (fun c129 => ?_) (fun c129 => ?_)
        · refine r_iconst (v := 1) (pc := 151) dX11_echoes_151 (by decide) ?_
          refine r_goto 156 (pc := 152) dX11_echoes_152 (by decide) ?_
          exact J117 _ (by rw [R_isIn]; (repeat (first | rw [if_pos (by assumption)] | rw [if_neg (by assumption)])))
        · refine r_aload_n (pc := 132) dX11_echoes_132 rfl rfl ?_
          refine r_iload_n (pc := 133) dX11_echoes_133 rfl rfl ?_
          refine rs_call (vs := [.int _]) (pc := 134) dX11_echoes_134 rfl l_RX11_56 rfl rfl ⟨by decide, by decide⟩ rfl (Nat.le_of_ble_eq_true rfl) hl (Nat.le_of_ble_eq_true rfl) (s_X11_angleOf _ (c_eqf h5g (b := 0) rfl (by omega) (by omega) (by omega))) rfl ?_
          refine r_sipush (v := 360) (pc := 137) dX11_echoes_137 (by decide) ?_
          refine r_aload_n (pc := 140) dX11_echoes_140 rfl rfl ?_
          refine rs_get (pc := 141) dX11_echoes_141 rfl f_RX11_7 rfl ?_
          refine r_bipush (v := 10) (pc := 144) dX11_echoes_144 (by decide) ?_
          refine rs_ld (10) (pc := 146) dX11_echoes_146 rfl (by omega) ?_
          refine r_isub (pc := 147) dX11_echoes_147 ?_
          refine r_icmp_lt 155 (pc := 148) dX11_echoes_148 (by decide) (fun c148 => ?_) (fun c148 => ?_)
          · refine r_iconst (v := 0) (pc := 155) dX11_echoes_155 (by decide) ?_
            exact J117 _ (by rw [R_isIn]; (repeat (first | rw [if_pos (by assumption)] | rw [if_neg (by assumption)])))
          · refine r_iconst (v := 1) (pc := 151) dX11_echoes_151 (by decide) ?_
            refine r_goto 156 (pc := 152) dX11_echoes_152 (by decide) ?_
            exact J117 _ (by rw [R_isIn]; (repeat (first | rw [if_pos (by assumption)] | rw [if_neg (by assumption)])))
    · refine r_iload_n (pc := 92) dX11_echoes_92 rfl rfl ?_
      refine r_iconst (v := 2) (pc := 93) dX11_echoes_93 (by decide) ?_
      refine r_irem (pc := 94) dX11_echoes_94 (by decide) ?_
      refine r_if_ne 108 (pc := 95) dX11_echoes_95 (by decide) (fun c95 => ?_) (fun c95 => ?_)
      · refine r_aload_n (pc := 108) dX11_echoes_108 rfl rfl ?_
        refine rs_get (pc := 109) dX11_echoes_109 rfl f_RX11_7 rfl ?_
        refine r_bipush (v := 7) (pc := 112) dX11_echoes_112 (by decide) ?_
        refine rs_ld (7) (pc := 114) dX11_echoes_114 rfl (by omega) ?_
        exact J92 _ (by rw [R_bd]; (repeat (first | rw [if_pos (by assumption)] | rw [if_neg (by assumption)])))
      · refine r_aload_n (pc := 98) dX11_echoes_98 rfl rfl ?_
        refine rs_get (pc := 99) dX11_echoes_99 rfl f_RX11_7 rfl ?_
        refine r_bipush (v := 6) (pc := 102) dX11_echoes_102 (by decide) ?_
        refine rs_ld (6) (pc := 104) dX11_echoes_104 rfl (by omega) ?_
        refine r_goto 115 (pc := 105) dX11_echoes_105 (by decide) ?_
        exact J92 _ (by rw [R_bd]; (repeat (first | rw [if_pos (by assumption)] | rw [if_neg (by assumption)])))
theorem lp_ech4 {om : OM} {l : Launch} {B : Nat × Nat} {h0 : Hp} {I : Nat → Int32} {J : Nat → Int64} {A a v t n : Nat → Int32} (hl : l.stackTraces = false) (d hd : Int32) {A0 : Nat → Int32} (hE : EI 13 A0 A) : Runs om l M_X11_echoes B 229 [some (.ref 119), some (.int d), some (.int hd), none, none, none] [] (rH h0 I J A a v t n) (Det none (rH h0 I J (R_e4 d hd A) a v t n)) := by
  obtain ⟨e, he, hle, hout⟩ := hE
  refine r_iload_n (pc := 229) dX11_echoes_229 rfl rfl ?_
  refine r_if_ne 267 (pc := 230) dX11_echoes_230 (by decide) (fun c230 => ?_) (fun c230 => ?_)
  · exact r_return (S := []) (pc := 267) dX11_echoes_267 rfl ⟨rfl, by unfold R_e4; first | rw [if_neg (by assumption)] | rw [if_pos (by assumption), mk_at he (by omega), mk_at (mk_41 he) (by omega)]⟩
  · refine r_iconst (v := 0) (pc := 233) dX11_echoes_233 (by decide) ?_
    refine r_bipush (v := 80) (pc := 234) dX11_echoes_234 (by decide) ?_
    refine r_aload_n (pc := 236) dX11_echoes_236 rfl rfl ?_
    refine rs_get (pc := 237) dX11_echoes_237 rfl f_RX11_7 rfl ?_
    refine r_iconst (v := 3) (pc := 240) dX11_echoes_240 (by decide) ?_
    refine rs_ld (3) (pc := 241) dX11_echoes_241 rfl (by omega) ?_
    refine r_iconst (v := 5) (pc := 242) dX11_echoes_242 (by decide) ?_
    refine r_idiv (pc := 243) dX11_echoes_243 (by decide) ?_
    refine r_isub (pc := 244) dX11_echoes_244 ?_
    refine q_callS (vs := [.int _, .int _]) (pc := 245) dX11_echoes_245 rfl l_RX11_60 rfl ⟨by decide, by decide⟩ rfl (Nat.le_of_ble_eq_true rfl) hl (Nat.le_of_ble_eq_true rfl) (s_X11_greater _ _) rfl ?_
    refine q_istore_n [_, _, _, _, _, _] (pc := 248) dX11_echoes_248 rfl (by decide) rfl ?_
    refine r_aload_n (pc := 249) dX11_echoes_249 rfl rfl ?_
    refine r_iconst (v := 3) (pc := 250) dX11_echoes_250 (by decide) ?_
    refine r_iload_n (pc := 251) dX11_echoes_251 rfl rfl ?_
    refine r_iload_n (pc := 252) dX11_echoes_252 rfl rfl ?_
    refine rs_call (vs := [.int _, .int _, .int _]) (pc := 253) dX11_echoes_253 rfl l_RX11_52 rfl rfl ⟨by decide, by decide⟩ rfl (Nat.le_of_ble_eq_true rfl) hl (Nat.le_of_ble_eq_true rfl) (s_X11_makes e he (by omega) _ _ _) rfl ?_
    refine r_aload_n (pc := 256) dX11_echoes_256 rfl rfl ?_
    refine r_iconst (v := 4) (pc := 257) dX11_echoes_257 (by decide) ?_
    refine r_iconst (v := 2) (pc := 258) dX11_echoes_258 (by decide) ?_
    refine r_iload_n (pc := 259) dX11_echoes_259 rfl rfl ?_
    refine r_imul (pc := 260) dX11_echoes_260 ?_
    refine r_iload_n (pc := 261) dX11_echoes_261 rfl rfl ?_
    refine r_iconst (v := 2) (pc := 262) dX11_echoes_262 (by decide) ?_
    refine r_idiv (pc := 263) dX11_echoes_263 (by decide) ?_
    refine rs_call (vs := [.int _, .int _, .int _]) (pc := 264) dX11_echoes_264 rfl l_RX11_52 rfl rfl ⟨by decide, by decide⟩ rfl (Nat.le_of_ble_eq_true rfl) hl (Nat.le_of_ble_eq_true rfl) (s_X11_makes (e + 1) (mk_41 he) (by omega) _ _ _) rfl ?_
    exact r_return (S := []) (pc := 267) dX11_echoes_267 rfl ⟨rfl, by unfold R_e4; first | rw [if_neg (by assumption)] | rw [if_pos (by assumption), mk_at he (by omega), mk_at (mk_41 he) (by omega)]⟩
theorem lp_ech3 {om : OM} {l : Launch} {B : Nat × Nat} {h0 : Hp} {I : Nat → Int32} {J : Nat → Int64} {A a v t n : Nat → Int32} (hl : l.stackTraces = false) (d hd k9 : Int32) {A0 : Nat → Int32} (hE : EI 12 A0 A) : Runs om l M_X11_echoes B 186 [some (.ref 119), some (.int d), some (.int hd), some (.int k9), none, none] [] (rH h0 I J A a v t n) (Det none (rH h0 I J (R_e4 d hd (R_e3 d A)) a v t n)) := by
  have hE9 := hE
  obtain ⟨e, he, hle, hout⟩ := hE9
  refine r_aload_n (pc := 186) dX11_echoes_186 rfl rfl ?_
  refine rs_get (pc := 187) dX11_echoes_187 rfl f_RX11_7 rfl ?_
  refine r_iconst (v := 3) (pc := 190) dX11_echoes_190 (by decide) ?_
  refine rs_ld (3) (pc := 191) dX11_echoes_191 rfl (by omega) ?_
  refine r_if_le 229 (pc := 192) dX11_echoes_192 (by decide) (fun c192 => ?_) (fun c192 => ?_)
  · have h7 := lp_ech4 (om := om) (B := B) (h0 := h0) (I := I) (J := J) (a := a) (v := v) (t := t) (n := n) hl d hd (EI_e3 (d := d) hE)
    exact r_wkH h7 ⟨rfl, rfl, rfl, trivial⟩ (by first | rw [show R_e3 d A = A from if_pos (by assumption)] | (unfold R_e3; rw [if_neg (by assumption), mk_at he (by omega)]))
  · refine r_aload_n (pc := 195) dX11_echoes_195 rfl rfl ?_
    refine r_iconst (v := 2) (pc := 196) dX11_echoes_196 (by decide) ?_
    refine r_iconst (v := 0) (pc := 197) dX11_echoes_197 (by decide) ?_
    refine r_iload_n (pc := 198) dX11_echoes_198 rfl rfl ?_
    refine r_aload_n (pc := 199) dX11_echoes_199 rfl rfl ?_
    refine rs_get (pc := 200) dX11_echoes_200 rfl f_RX11_7 rfl ?_
    refine r_iconst (v := 3) (pc := 203) dX11_echoes_203 (by decide) ?_
    refine rs_ld (3) (pc := 204) dX11_echoes_204 rfl (by omega) ?_
    refine r_isub (pc := 205) dX11_echoes_205 ?_
    refine q_callS (vs := [.int _, .int _]) (pc := 206) dX11_echoes_206 rfl l_RX11_60 rfl ⟨by decide, by decide⟩ rfl (Nat.le_of_ble_eq_true rfl) hl (Nat.le_of_ble_eq_true rfl) (s_X11_greater _ _) rfl ?_
    refine r_bipush (v := 10) (pc := 209) dX11_echoes_209 (by decide) ?_
    refine r_bipush (v := 70) (pc := 211) dX11_echoes_211 (by decide) ?_
    refine r_aload_n (pc := 213) dX11_echoes_213 rfl rfl ?_
    refine rs_get (pc := 214) dX11_echoes_214 rfl f_RX11_7 rfl ?_
    refine r_iconst (v := 3) (pc := 217) dX11_echoes_217 (by decide) ?_
    refine rs_ld (3) (pc := 218) dX11_echoes_218 rfl (by omega) ?_
    refine r_bipush (v := 10) (pc := 219) dX11_echoes_219 (by decide) ?_
    refine r_idiv (pc := 221) dX11_echoes_221 (by decide) ?_
    refine r_isub (pc := 222) dX11_echoes_222 ?_
    refine q_callS (vs := [.int _, .int _]) (pc := 223) dX11_echoes_223 rfl l_RX11_60 rfl ⟨by decide, by decide⟩ rfl (Nat.le_of_ble_eq_true rfl) hl (Nat.le_of_ble_eq_true rfl) (s_X11_greater _ _) rfl ?_
    refine rs_call (vs := [.int _, .int _, .int _]) (pc := 226) dX11_echoes_226 rfl l_RX11_52 rfl rfl ⟨by decide, by decide⟩ rfl (Nat.le_of_ble_eq_true rfl) hl (Nat.le_of_ble_eq_true rfl) (s_X11_makes e he (by omega) _ _ _) rfl ?_
    have h7 := lp_ech4 (om := om) (B := B) (h0 := h0) (I := I) (J := J) (a := a) (v := v) (t := t) (n := n) hl d hd (EI_e3 (d := d) hE)
    exact r_wkH h7 ⟨rfl, rfl, rfl, trivial⟩ (by first | rw [show R_e3 d A = A from if_pos (by assumption)] | (unfold R_e3; rw [if_neg (by assumption), mk_at he (by omega)]))
theorem s_X11_echoes {om : OM} {l : Launch} {B : Nat × Nat} {h0 : Hp} {I : Nat → Int32} {J : Nat → Int64} {A a v t n : Nat → Int32} (hl : l.stackTraces = false) (K4 K5 : Nat) (h4 : A 4 = nI K4) (hK4 : K4 ≤ 6) (h5 : A 5 = nI K5) (hK5 : K5 ≤ 6) : Runs om l M_X11_echoes B 0 (entL 6 [.ref 119]) [] (rH h0 I J A a v t n) (Det (none) (rH h0 I J (R_echoes A) a v t n)) := by
  show Runs om l M_X11_echoes B 0 [some (.ref 119), none, none, none, none, none] [] _ _
  have hE0 : EI 0 A (upd A 41 0) := ⟨0, upd_s, by omega, fun j hj => upd_n (by omega)⟩
  have hE1 := (EI_e1 (d := A 0 - A 1) hE0 K4 hK4).weak hK4
  have hE2 := (EI_e2 (d := A 0 - A 1) (hd := 0) hE1 K5 hK5).weak (show 6 + K5 ≤ 12 by omega)
  have hR : R_echoes A = R_e4 (A 0 - A 1) (itN (R_e2b (A 0 - A 1)) K5 (itN (R_e1b (A 0 - A 1)) K4 (upd A 41 0), 0)).2 (R_e3 (A 0 - A 1) (itN (R_e2b (A 0 - A 1)) K5 (itN (R_e1b (A 0 - A 1)) K4 (upd A 41 0), 0)).1) := by unfold R_echoes R_e12; rw [cl_nI h4 (by omega), cl_nI h5 (by omega)]
  rw [hR]
  refine r_aload_n (pc := 0) dX11_echoes_0 rfl rfl ?_
  refine rs_call (vs := []) (pc := 1) dX11_echoes_1 rfl l_RX11_48 rfl rfl ⟨by decide, by decide⟩ rfl (Nat.le_of_ble_eq_true rfl) hl (Nat.le_of_ble_eq_true rfl) (s_X11_surface) rfl ?_
  refine q_istore_n [_, _, _, _, _, _] (pc := 4) dX11_echoes_4 rfl (by decide) rfl ?_
  refine r_aload_n (pc := 5) dX11_echoes_5 rfl rfl ?_
  refine rs_get (pc := 6) dX11_echoes_6 rfl f_RX11_7 rfl ?_
  refine r_bipush (v := 41) (pc := 9) dX11_echoes_9 (by decide) ?_
  refine r_iconst (v := 0) (pc := 11) dX11_echoes_11 (by decide) ?_
  refine rs_st (41) (pc := 12) dX11_echoes_12 rfl (by omega) ?_
  refine r_iconst (v := 0) (pc := 13) dX11_echoes_13 (by decide) ?_
  refine q_istore_n [_, _, _, _, _, _] (pc := 14) dX11_echoes_14 rfl (by decide) rfl ?_
  refine lp_ech1 hl (A := A) (A 0 - A 1) (upd A 41 0) K4 hK4 h4 hE0 K4 0 _ (by omega) rfl ?_
  refine r_iconst (v := 0) (pc := 78) dX11_echoes_78 (by decide) ?_
  refine q_istore_n [_, _, _, _, _, _] (pc := 79) dX11_echoes_79 rfl (by decide) rfl ?_
  refine r_iconst (v := 0) (pc := 80) dX11_echoes_80 (by decide) ?_
  refine q_istore_n [_, _, _, _, _, _] (pc := 81) dX11_echoes_81 rfl (by decide) rfl ?_
  refine lp_ech2 hl (A := A) (A 0 - A 1) _ 0 K5 hK5 h5 hE1 K5 0 _ _ (by omega) rfl rfl ?_
  exact lp_ech3 hl (A := (itN (R_e2b (A 0 - A 1)) K5 (itN (R_e1b (A 0 - A 1)) K4 (upd A 41 0), 0)).1) _ _ _ hE2
theorem lp_chc {om : OM} {l : Launch} {B : Nat × Nat} {h0 : Hp} {I : Nat → Int32} {J : Nat → Int64} {A a v t n : Nat → Int32} {Post : Out → Hp → Prop} (lf kk : Nat) (h1 : lf ≤ kk) (h2 : kk < 15) (is mv : Int32) : ∀ (n9 k : Nat) (g : Nat → Int32), k + n9 = 4 → g = cpR (fun i => A (42 + 4 * kk + i)) A (42 + 4 * lf) k → Runs om l M_X11_chance B 145 [some (.ref 119), some (.int (nI lf)), some (.int (nI kk)), some (.int is), some (.int mv), some (.int (nI 4))] [] (rH h0 I J (cpR (fun i => A (42 + 4 * kk + i)) A (42 + 4 * lf) 4) a v t n) Post → Runs om l M_X11_chance B 105 [some (.ref 119), some (.int (nI lf)), some (.int (nI kk)), some (.int is), some (.int mv), some (.int (nI k))] [] (rH h0 I J g a v t n) Post := by
  intro n9
  induction n9 with
  | zero =>
    intro k g hk e_g KK
    subst e_g
    have e9 : k = 4 := by omega
    subst e9
    refine r_iload (pc := 105) dX11_chance_105 rfl ?_
    refine r_iconst (v := 4) (pc := 107) dX11_chance_107 (by decide) ?_
    refine r_icmp_ge 145 (pc := 108) dX11_chance_108 (by decide) (fun c108 => ?_) (fun c108 => absurd (c_get rfl rfl (a := 4) (b := 4) (by omega) (by omega) (by omega)) c108)
    exact KK
  | succ n9 ih =>
    intro k g hk e_g KK
    subst e_g
    refine r_iload (pc := 105) dX11_chance_105 rfl ?_
    refine r_iconst (v := 4) (pc := 107) dX11_chance_107 (by decide) ?_
    refine r_icmp_ge 145 (pc := 108) dX11_chance_108 (by decide) (fun c108 => absurd c108 (c_gef rfl rfl (a := k) (b := 4) (by omega) (by omega) (by omega))) (fun c108 => ?_)
    refine r_aload_n (pc := 111) dX11_chance_111 rfl rfl ?_
    refine rs_get (pc := 112) dX11_chance_112 rfl f_RX11_7 rfl ?_
    refine r_bipush (v := 42) (pc := 115) dX11_chance_115 (by decide) ?_
    refine r_iconst (v := 4) (pc := 117) dX11_chance_117 (by decide) ?_
    refine r_iload_n (pc := 118) dX11_chance_118 rfl rfl ?_
    refine r_imul (pc := 119) dX11_chance_119 ?_
    refine r_iadd (pc := 120) dX11_chance_120 ?_
    refine r_iload (pc := 121) dX11_chance_121 rfl ?_
    refine r_iadd (pc := 123) dX11_chance_123 ?_
    refine r_aload_n (pc := 124) dX11_chance_124 rfl rfl ?_
    refine rs_get (pc := 125) dX11_chance_125 rfl f_RX11_7 rfl ?_
    refine r_bipush (v := 42) (pc := 128) dX11_chance_128 (by decide) ?_
    refine r_iconst (v := 4) (pc := 130) dX11_chance_130 (by decide) ?_
    refine r_iload_n (pc := 131) dX11_chance_131 rfl rfl ?_
    refine r_imul (pc := 132) dX11_chance_132 ?_
    refine r_iadd (pc := 133) dX11_chance_133 ?_
    refine r_iload (pc := 134) dX11_chance_134 rfl ?_
    refine r_iadd (pc := 136) dX11_chance_136 ?_
    refine rs_ld ((42 + (4 * kk)) + k) (pc := 137) dX11_chance_137 (nadd (nadd rfl (nmul rfl rfl)) rfl) (by omega) ?_
    refine rs_st ((42 + (4 * lf)) + k) (pc := 138) dX11_chance_138 (nadd (nadd rfl (nmul rfl rfl)) rfl) (by omega) ?_
    refine q_iinc (nI (k + 1)) [_, _, _, _, _, _] (pc := 139) dX11_chance_139 rfl (by decide) (ninc 1 rfl) rfl ?_
    refine r_goto 105 (pc := 142) dX11_chance_142 (by decide) ?_
    exact ih (k + 1) _ (by omega) (by rw [cpR_hi (by omega)]; exact cpR_s) KK
theorem lp_chance {om : OM} {l : Launch} {B : Nat × Nat} {h0 : Hp} {I : Nat → Int32} {J : Nat → Int64} {A a v t n : Nat → Int32} {Post : Out → Hp → Prop} (hl : l.stackTraces = false) (K : Nat) (hK : A 41 = nI K) (hK15 : K ≤ 15) : ∀ (n9 k : Nat) (g : Nat → Int32) (lf : Nat), k + n9 = K → g = (itN R_chb k (A, 0)).1 → lf = (itN R_chb k (A, 0)).2 → Runs om l M_X11_chance B 169 [some (.ref 119), some (.int (nI ((itN R_chb K (A, 0)).2))), some (.int (nI K)), none, none, none] [] (rH h0 I J ((itN R_chb K (A, 0)).1) a v t n) Post → Runs om l M_X11_chance B 4 [some (.ref 119), some (.int (nI lf)), some (.int (nI k)), none, none, none] [] (rH h0 I J g a v t n) Post := by
  intro n9
  induction n9 with
  | zero =>
    intro k g lf hk e_g e_lf KK
    obtain ⟨hC, hlf⟩ := CI_ch (A := A) k (by omega)
    rw [← e_g] at hC
    rw [← e_lf] at hlf
    have h41g : g 41 = nI K := (hC 41 (by omega)).trans hK
    have e9 : k = K := by omega
    refine r_iload_n (pc := 4) dX11_chance_4 rfl rfl ?_
    refine r_aload_n (pc := 5) dX11_chance_5 rfl rfl ?_
    refine rs_get (pc := 6) dX11_chance_6 rfl f_RX11_7 rfl ?_
    refine r_bipush (v := 41) (pc := 9) dX11_chance_9 (by decide) ?_
    refine rs_ld (41) (pc := 11) dX11_chance_11 rfl (by omega) ?_
    refine r_icmp_ge 169 (pc := 12) dX11_chance_12 (by decide) (fun c12 => ?_) (fun c12 => absurd (c_get rfl h41g (a := k) (b := K) (by omega) (by omega) (by omega)) c12)
    subst e9
    subst e_g
    subst e_lf
    exact KK
  | succ n9 ih =>
    intro k g lf hk e_g e_lf KK
    obtain ⟨hC, hlf⟩ := CI_ch (A := A) k (by omega)
    rw [← e_g] at hC
    rw [← e_lf] at hlf
    have h41g : g 41 = nI K := (hC 41 (by omega)).trans hK
    refine r_iload_n (pc := 4) dX11_chance_4 rfl rfl ?_
    refine r_aload_n (pc := 5) dX11_chance_5 rfl rfl ?_
    refine rs_get (pc := 6) dX11_chance_6 rfl f_RX11_7 rfl ?_
    refine r_bipush (v := 41) (pc := 9) dX11_chance_9 (by decide) ?_
    refine rs_ld (41) (pc := 11) dX11_chance_11 rfl (by omega) ?_
    refine r_icmp_ge 169 (pc := 12) dX11_chance_12 (by decide) (fun c12 => absurd c12 (c_gef rfl h41g (a := k) (b := K) (by omega) (by omega) (by omega))) (fun c12 => ?_)
    refine r_aload_n (pc := 15) dX11_chance_15 rfl rfl ?_
    refine r_bipush (v := 100) (pc := 16) dX11_chance_16 (by decide) ?_
    refine rs_call (vs := [.int _]) (pc := 18) dX11_chance_18 rfl l_RX11_64 rfl rfl ⟨by decide, by decide⟩ rfl (Nat.le_of_ble_eq_true rfl) hl (Nat.le_of_ble_eq_true rfl) (s_X11_draw _ (by decide)) rfl ?_
    refine r_joinE (S := []) 36 (R_lost g) ?_ (fun J21 => ?_)
    · refine q_istore_n [_, _, _, _, _, _] (pc := 36) dX11_chance_36 rfl (by decide) rfl ?_
      refine r_iload_n (pc := 37) dX11_chance_37 rfl rfl ?_
      refine r_if_ne 163 (pc := 38) dX11_chance_38 (by decide) (fun c38 => ?_) (fun c38 => ?_)
      · refine q_iinc (nI (k + 1)) [_, _, _, _, _, _] (pc := 163) dX11_chance_163 rfl (by decide) (ninc 1 rfl) rfl ?_
        refine r_goto 4 (pc := 166) dX11_chance_166 (by decide) ?_
        refine r_wk [some _, some _, some _, none, none, none] ⟨rfl, ⟨rfl, ⟨rfl, trivial⟩⟩⟩ ?_
        exact ih (k + 1) _ _ (by omega) (by rw [itN_s, R_chb, ← e_g, ← e_lf]; first | (rw [if_neg (by assumption)]) | (rw [if_pos (by assumption)])) (by rw [itN_s, R_chb, ← e_g, ← e_lf]; first | (rw [if_neg (by assumption)]) | (rw [if_pos (by assumption)])) KK
      · refine r_aload_n (pc := 41) dX11_chance_41 rfl rfl ?_
        refine rs_get (pc := 42) dX11_chance_42 rfl f_RX11_7 rfl ?_
        refine r_bipush (v := 42) (pc := 45) dX11_chance_45 (by decide) ?_
        refine r_iconst (v := 4) (pc := 47) dX11_chance_47 (by decide) ?_
        refine r_iload_n (pc := 48) dX11_chance_48 rfl rfl ?_
        refine r_imul (pc := 49) dX11_chance_49 ?_
        refine r_iadd (pc := 50) dX11_chance_50 ?_
        refine r_iconst (v := 1) (pc := 51) dX11_chance_51 (by decide) ?_
        refine r_iadd (pc := 52) dX11_chance_52 ?_
        refine rs_ld ((42 + (4 * k)) + 1) (pc := 53) dX11_chance_53 (nadd (nadd rfl (nmul rfl rfl)) rfl) (by omega) ?_
        refine q_istore [_, _, _, _, _, _] (pc := 54) dX11_chance_54 (by decide) rfl ?_
        refine r_joinH 102 [some (.ref 119), some (.int (nI lf)), some (.int (nI k)), some (.int (R_lost g)), some (.int (R_chm1 k g).2), none] (rH h0 I J ((R_chm1 k g).1) a v t n) (?_) (fun J56 => ?_)
        · refine r_iconst (v := 0) (pc := 102) dX11_chance_102 (by decide) ?_
          refine q_istore [_, _, _, _, _, _] (pc := 103) dX11_chance_103 (by decide) rfl ?_
          refine lp_chc lf k hlf (by omega) _ _ 4 0 _ (by omega) (cpR_0).symm ?_
          refine r_aload_n (pc := 145) dX11_chance_145 rfl rfl ?_
          refine rs_get (pc := 146) dX11_chance_146 rfl f_RX11_7 rfl ?_
          refine r_bipush (v := 42) (pc := 149) dX11_chance_149 (by decide) ?_
          refine r_iconst (v := 4) (pc := 151) dX11_chance_151 (by decide) ?_
          refine r_iload_n (pc := 152) dX11_chance_152 rfl rfl ?_
          refine r_imul (pc := 153) dX11_chance_153 ?_
          refine r_iadd (pc := 154) dX11_chance_154 ?_
          refine r_iconst (v := 1) (pc := 155) dX11_chance_155 (by decide) ?_
          refine r_iadd (pc := 156) dX11_chance_156 ?_
          refine r_iload (pc := 157) dX11_chance_157 rfl ?_
          refine rs_st ((42 + (4 * lf)) + 1) (pc := 159) dX11_chance_159 (nadd (nadd rfl (nmul rfl rfl)) rfl) (by omega) ?_
          refine q_iinc (nI (lf + 1)) [_, _, _, _, _, _] (pc := 160) dX11_chance_160 rfl (by decide) (ninc 1 rfl) rfl ?_
          refine q_iinc (nI (k + 1)) [_, _, _, _, _, _] (pc := 163) dX11_chance_163 rfl (by decide) (ninc 1 rfl) rfl ?_
          refine r_goto 4 (pc := 166) dX11_chance_166 (by decide) ?_
          refine r_wk [some _, some _, some _, none, none, none] ⟨rfl, ⟨rfl, ⟨rfl, trivial⟩⟩⟩ ?_
          exact ih (k + 1) _ _ (by omega) (by rw [itN_s, R_chb, ← e_g, ← e_lf]; first | (rw [if_neg (by assumption)]) | (rw [if_pos (by assumption)])) (by rw [itN_s, R_chb, ← e_g, ← e_lf]; first | (rw [if_neg (by assumption)]) | (rw [if_pos (by assumption)])) KK
        · refine r_aload_n (pc := 56) dX11_chance_56 rfl rfl ?_
          refine rs_get (pc := 57) dX11_chance_57 rfl f_RX11_7 rfl ?_
          refine r_bipush (v := 13) (pc := 60) dX11_chance_60 (by decide) ?_
          refine rs_ld (13) (pc := 62) dX11_chance_62 rfl (by omega) ?_
          refine r_if_le 102 (pc := 63) dX11_chance_63 (by decide) (fun c63 => ?_) (fun c63 => ?_)
          · exact r_wkH J56 ⟨rfl, rfl, rfl, rfl, by rw [R_chm1, R_chm]; (repeat (first | rw [if_pos (by assumption)] | rw [if_neg (by assumption)])), trivial⟩ (by rw [R_chm1, R_chm]; (repeat (first | rw [if_pos (by assumption)] | rw [if_neg (by assumption)])))
          · refine r_aload_n (pc := 66) dX11_chance_66 rfl rfl ?_
            refine r_iconst (v := 2) (pc := 67) dX11_chance_67 (by decide) ?_
            refine r_aload_n (pc := 68) dX11_chance_68 rfl rfl ?_
            refine rs_get (pc := 69) dX11_chance_69 rfl f_RX11_7 rfl ?_
            refine r_bipush (v := 13) (pc := 72) dX11_chance_72 (by decide) ?_
            refine rs_ld (13) (pc := 74) dX11_chance_74 rfl (by omega) ?_
            refine r_imul (pc := 75) dX11_chance_75 ?_
            refine r_iconst (v := 1) (pc := 76) dX11_chance_76 (by decide) ?_
            refine r_iadd (pc := 77) dX11_chance_77 ?_
            refine rs_call (vs := [.int _]) (pc := 78) dX11_chance_78 rfl l_RX11_64 rfl rfl ⟨by decide, by decide⟩ rfl (Nat.le_of_ble_eq_true rfl) hl (Nat.le_of_ble_eq_true rfl) (s_X11_draw _ (odd_ne _)) rfl ?_
            refine q_istore [_, _, _, _, _, _] (pc := 81) dX11_chance_81 (by decide) rfl ?_
            refine r_iconst (v := 0) (pc := 83) dX11_chance_83 (by decide) ?_
            refine r_iload (pc := 84) dX11_chance_84 rfl ?_
            refine r_iload (pc := 86) dX11_chance_86 rfl ?_
            refine r_iadd (pc := 88) dX11_chance_88 ?_
            refine r_aload_n (pc := 89) dX11_chance_89 rfl rfl ?_
            refine rs_get (pc := 90) dX11_chance_90 rfl f_RX11_7 rfl ?_
            refine r_bipush (v := 13) (pc := 93) dX11_chance_93 (by decide) ?_
            refine rs_ld (13) (pc := 95) dX11_chance_95 rfl (by omega) ?_
            refine r_isub (pc := 96) dX11_chance_96 ?_
            refine q_callS (vs := [.int _, .int _]) (pc := 97) dX11_chance_97 rfl l_RX11_60 rfl ⟨by decide, by decide⟩ rfl (Nat.le_of_ble_eq_true rfl) hl (Nat.le_of_ble_eq_true rfl) (s_X11_greater _ _) rfl ?_
            refine q_istore [_, _, _, _, _, _] (pc := 100) dX11_chance_100 (by decide) rfl ?_
            exact r_wkH J56 ⟨rfl, rfl, rfl, rfl, by rw [R_chm1, R_chm]; (repeat (first | rw [if_pos (by assumption)] | rw [if_neg (by assumption)])), trivial⟩ (by rw [R_chm1, R_chm]; (repeat (first | rw [if_pos (by assumption)] | rw [if_neg (by assumption)])))
    · refine r_aload_n (pc := 21) dX11_chance_21 rfl rfl ?_
      refine rs_get (pc := 22) dX11_chance_22 rfl f_RX11_7 rfl ?_
      refine r_bipush (v := 12) (pc := 25) dX11_chance_25 (by decide) ?_
      refine rs_ld (12) (pc := 27) dX11_chance_27 rfl (by omega) ?_
      refine r_icmp_ge 35 (pc := 28) dX11_chance_28 (by decide) (fun c28 => ?_) (fun c28 => ?_)
      · refine r_iconst (v := 0) (pc := 35) dX11_chance_35 (by decide) ?_
        exact J21 _ (by rw [R_lost]; (repeat (first | rw [if_pos (by assumption)] | rw [if_neg (by assumption)])))
      · refine r_iconst (v := 1) (pc := 31) dX11_chance_31 (by decide) ?_
        refine r_goto 36 (pc := 32) dX11_chance_32 (by decide) ?_
        exact J21 _ (by rw [R_lost]; (repeat (first | rw [if_pos (by assumption)] | rw [if_neg (by assumption)])))
theorem s_X11_chance {om : OM} {l : Launch} {B : Nat × Nat} {h0 : Hp} {I : Nat → Int32} {J : Nat → Int64} {A a v t n : Nat → Int32} (hl : l.stackTraces = false) (K : Nat) (hK : A 41 = nI K) (hK15 : K ≤ 15) : Runs om l M_X11_chance B 0 (entL 6 [.ref 119]) [] (rH h0 I J A a v t n) (Det (none) (rH h0 I J (R_chance A) a v t n)) := by
  show Runs om l M_X11_chance B 0 [some (.ref 119), none, none, none, none, none] [] _ _
  rw [show R_chance A = upd (itN R_chb K (A, 0)).1 41 (nI (itN R_chb K (A, 0)).2) by unfold R_chance; rw [cl_nI hK (by omega)]]
  refine r_iconst (v := 0) (pc := 0) dX11_chance_0 (by decide) ?_
  refine q_istore_n [_, _, _, _, _, _] (pc := 1) dX11_chance_1 rfl (by decide) rfl ?_
  refine r_iconst (v := 0) (pc := 2) dX11_chance_2 (by decide) ?_
  refine q_istore_n [_, _, _, _, _, _] (pc := 3) dX11_chance_3 rfl (by decide) rfl ?_
  refine lp_chance hl K hK hK15 K 0 _ _ (by omega) rfl rfl ?_
  refine r_aload_n (pc := 169) dX11_chance_169 rfl rfl ?_
  refine rs_get (pc := 170) dX11_chance_170 rfl f_RX11_7 rfl ?_
  refine r_bipush (v := 41) (pc := 173) dX11_chance_173 (by decide) ?_
  refine r_iload_n (pc := 175) dX11_chance_175 rfl rfl ?_
  refine rs_st (41) (pc := 176) dX11_chance_176 rfl (by omega) ?_
  exact r_return (S := []) (pc := 177) dX11_chance_177 rfl ⟨rfl, rfl⟩
theorem lp_ordsw {om : OM} {l : Launch} {B : Nat × Nat} {h0 : Hp} {I : Nat → Int32} {J : Nat → Int64} {A a v t n : Nat → Int32} {Post : Out → Hp → Prop} (kk : Int32) (p : Nat) (hp : 46 ≤ p) (hp2 : p ≤ 98) : ∀ (n9 k : Nat) (g : Nat → Int32), k + n9 = 4 → g = R_sw A p k → Runs om l M_X11_orders B 87 [some (.ref 119), some (.int kk), some (.int (nI p)), some (.int (nI 4)), none] [] (rH h0 I J (R_sw A p 4) a v t n) Post → Runs om l M_X11_orders B 36 [some (.ref 119), some (.int kk), some (.int (nI p)), some (.int (nI k)), none] [] (rH h0 I J g a v t n) Post := by
  intro n9
  induction n9 with
  | zero =>
    intro k g hk e_g KK
    subst e_g
    have e9 : k = 4 := by omega
    subst e9
    refine r_iload_n (pc := 36) dX11_orders_36 rfl rfl ?_
    refine r_iconst (v := 4) (pc := 37) dX11_orders_37 (by decide) ?_
    refine r_icmp_ge 87 (pc := 38) dX11_orders_38 (by decide) (fun c38 => ?_) (fun c38 => absurd (c_get rfl rfl (a := 4) (b := 4) (by omega) (by omega) (by omega)) c38)
    exact KK
  | succ n9 ih =>
    intro k g hk e_g KK
    subst e_g
    refine r_iload_n (pc := 36) dX11_orders_36 rfl rfl ?_
    refine r_iconst (v := 4) (pc := 37) dX11_orders_37 (by decide) ?_
    refine r_icmp_ge 87 (pc := 38) dX11_orders_38 (by decide) (fun c38 => absurd c38 (c_gef rfl rfl (a := k) (b := 4) (by omega) (by omega) (by omega))) (fun c38 => ?_)
    refine r_aload_n (pc := 41) dX11_orders_41 rfl rfl ?_
    refine rs_get (pc := 42) dX11_orders_42 rfl f_RX11_7 rfl ?_
    refine r_iload_n (pc := 45) dX11_orders_45 rfl rfl ?_
    refine r_iload_n (pc := 46) dX11_orders_46 rfl rfl ?_
    refine r_iadd (pc := 47) dX11_orders_47 ?_
    refine rs_ld (p + k) (pc := 48) dX11_orders_48 (nadd rfl rfl) (by omega) ?_
    refine q_istore [_, _, _, _, _] (pc := 49) dX11_orders_49 (by decide) rfl ?_
    refine r_aload_n (pc := 51) dX11_orders_51 rfl rfl ?_
    refine rs_get (pc := 52) dX11_orders_52 rfl f_RX11_7 rfl ?_
    refine r_iload_n (pc := 55) dX11_orders_55 rfl rfl ?_
    refine r_iload_n (pc := 56) dX11_orders_56 rfl rfl ?_
    refine r_iadd (pc := 57) dX11_orders_57 ?_
    refine r_aload_n (pc := 58) dX11_orders_58 rfl rfl ?_
    refine rs_get (pc := 59) dX11_orders_59 rfl f_RX11_7 rfl ?_
    refine r_iload_n (pc := 62) dX11_orders_62 rfl rfl ?_
    refine r_iload_n (pc := 63) dX11_orders_63 rfl rfl ?_
    refine r_iadd (pc := 64) dX11_orders_64 ?_
    refine r_iconst (v := 4) (pc := 65) dX11_orders_65 (by decide) ?_
    refine r_isub (pc := 66) dX11_orders_66 ?_
    refine rs_ld ((p + k) - 4) (pc := 67) dX11_orders_67 (nsub (nadd rfl rfl) rfl (by omega)) (by omega) ?_
    refine rs_st (p + k) (pc := 68) dX11_orders_68 (nadd rfl rfl) (by omega) ?_
    refine r_aload_n (pc := 69) dX11_orders_69 rfl rfl ?_
    refine rs_get (pc := 70) dX11_orders_70 rfl f_RX11_7 rfl ?_
    refine r_iload_n (pc := 73) dX11_orders_73 rfl rfl ?_
    refine r_iload_n (pc := 74) dX11_orders_74 rfl rfl ?_
    refine r_iadd (pc := 75) dX11_orders_75 ?_
    refine r_iconst (v := 4) (pc := 76) dX11_orders_76 (by decide) ?_
    refine r_isub (pc := 77) dX11_orders_77 ?_
    refine r_iload (pc := 78) dX11_orders_78 rfl ?_
    refine rs_st ((p + k) - 4) (pc := 80) dX11_orders_80 (nsub (nadd rfl rfl) rfl (by omega)) (by omega) ?_
    refine q_iinc (nI (k + 1)) [_, _, _, _, _] (pc := 81) dX11_orders_81 rfl (by decide) (ninc 1 rfl) rfl ?_
    refine r_goto 36 (pc := 84) dX11_orders_84 (by decide) ?_
    refine r_wk [some _, some _, some _, some _, none] ⟨rfl, ⟨rfl, ⟨rfl, ⟨rfl, trivial⟩⟩⟩⟩ ?_
    exact ih (k + 1) _ (by omega) (R_sw_s (by omega) (by omega)) KK
theorem lp_ordin {om : OM} {l : Launch} {B : Nat × Nat} {h0 : Hp} {I : Nat → Int32} {J : Nat → Int64} {A a v t n : Nat → Int32} {Post : Out → Hp → Prop} (hl : l.stackTraces = false) (kk : Int32) : ∀ (i : Nat) (X : Nat → Int32) (q9 : Option Value) (q8 : Option Value), i ≤ 14 → Runs om l M_X11_orders B 93 [some (.ref 119), some (.int kk), none, none, none] [] (rH h0 I J (R_in1 i X) a v t n) Post → Runs om l M_X11_orders B 20 [some (.ref 119), some (.int kk), some (.int (nI (42 + 4 * i))), q9, q8] [] (rH h0 I J X a v t n) Post := by
  intro i
  induction i with
  | zero =>
    intro X q9 q8 hi KK
    refine r_iload_n (pc := 20) dX11_orders_20 rfl rfl ?_
    refine r_bipush (v := 42) (pc := 21) dX11_orders_21 (by decide) ?_
    refine r_icmp_le 93 (pc := 23) dX11_orders_23 (by decide) (fun c23 => ?_) (fun c23 => absurd (c_let rfl rfl (a := 42) (b := 42) (by omega) (by omega) (by omega)) c23)
    exact r_wk [some _, some _, none, none, none] ⟨rfl, rfl, trivial⟩ KK
  | succ i ih =>
    intro X q9 q8 hi KK
    refine r_iload_n (pc := 20) dX11_orders_20 rfl rfl ?_
    refine r_bipush (v := 42) (pc := 21) dX11_orders_21 (by decide) ?_
    refine r_icmp_le 93 (pc := 23) dX11_orders_23 (by decide) (fun c23 => absurd c23 (c_lef rfl rfl (a := 42 + 4 * (i + 1)) (b := 42) (by omega) (by omega) (by omega))) (fun c23 => ?_)
    refine r_aload_n (pc := 26) dX11_orders_26 rfl rfl ?_
    refine r_iload_n (pc := 27) dX11_orders_27 rfl rfl ?_
    refine rs_call (vs := [.int _]) (pc := 28) dX11_orders_28 rfl l_RX11_67 rfl rfl ⟨by decide, by decide⟩ rfl (Nat.le_of_ble_eq_true rfl) hl (Nat.le_of_ble_eq_true rfl) (s_X11_isAhead (42 + 4 * (i + 1)) (by omega) (by omega)) rfl ?_
    refine r_if_eq 93 (pc := 31) dX11_orders_31 (by decide) (fun c31 => ?_) (fun c31 => ?_)
    · have e7 : R_in1 (i + 1) X = X := by rw [R_in1, if_pos (by assumption)]
      rw [e7] at KK
      exact r_wk [some _, some _, none, none, none] ⟨rfl, rfl, trivial⟩ KK
    · refine r_iconst (v := 0) (pc := 34) dX11_orders_34 (by decide) ?_
      refine q_istore_n [_, _, _, _, _] (pc := 35) dX11_orders_35 rfl (by decide) rfl ?_
      refine r_wk [some _, some _, some _, some _, none] ⟨rfl, rfl, rfl, rfl, trivial⟩ ?_
      refine lp_ordsw kk (42 + 4 * (i + 1)) (by omega) (by omega) 4 0 _ (by omega) R_sw_0.symm ?_
      refine q_iinc (nI (42 + 4 * i)) [_, _, _, _, _] (pc := 87) dX11_orders_87 rfl (by decide) (ndec4 (42 + 4 * i)) rfl ?_
      refine r_goto 20 (pc := 90) dX11_orders_90 (by decide) ?_
      have e7 : R_in1 (i + 1) X = R_in1 i (R_sw X (42 + 4 * (i + 1)) 4) := by rw [R_in1, if_neg (by assumption)]
      rw [e7] at KK
      exact ih _ _ _ (by omega) KK
theorem lp_orders {om : OM} {l : Launch} {B : Nat × Nat} {h0 : Hp} {I : Nat → Int32} {J : Nat → Int64} {A a v t n : Nat → Int32} {Post : Out → Hp → Prop} (hl : l.stackTraces = false) (K K1 : Nat) (hK : A 41 = nI K) (hK15 : K ≤ 15) (hK1 : K ≤ K1) (hK2 : K1 ≤ K ∨ K1 = 1) : ∀ (n9 k : Nat) (g : Nat → Int32), k + n9 = K1 → g = itN R_in1 k A → 1 ≤ k → Runs om l M_X11_orders B 99 [some (.ref 119), some (.int (nI K1)), none, none, none] [] (rH h0 I J (itN R_in1 K1 A) a v t n) Post → Runs om l M_X11_orders B 2 [some (.ref 119), some (.int (nI k)), none, none, none] [] (rH h0 I J g a v t n) Post := by
  intro n9
  induction n9 with
  | zero =>
    intro k g hk e_g hy KK
    have h41g : g 41 = nI K := by rw [e_g, ord_out k (by omega)]; exact hK
    have e9 : k = K1 := by omega
    refine r_iload_n (pc := 2) dX11_orders_2 rfl rfl ?_
    refine r_aload_n (pc := 3) dX11_orders_3 rfl rfl ?_
    refine rs_get (pc := 4) dX11_orders_4 rfl f_RX11_7 rfl ?_
    refine r_bipush (v := 41) (pc := 7) dX11_orders_7 (by decide) ?_
    refine rs_ld (41) (pc := 9) dX11_orders_9 rfl (by omega) ?_
    refine r_icmp_ge 99 (pc := 10) dX11_orders_10 (by decide) (fun c10 => ?_) (fun c10 => absurd (c_get rfl h41g (a := k) (b := K) (by omega) (by omega) (by omega)) c10)
    subst e9
    subst e_g
    exact KK
  | succ n9 ih =>
    intro k g hk e_g hy KK
    have h41g : g 41 = nI K := by rw [e_g, ord_out k (by omega)]; exact hK
    refine r_iload_n (pc := 2) dX11_orders_2 rfl rfl ?_
    refine r_aload_n (pc := 3) dX11_orders_3 rfl rfl ?_
    refine rs_get (pc := 4) dX11_orders_4 rfl f_RX11_7 rfl ?_
    refine r_bipush (v := 41) (pc := 7) dX11_orders_7 (by decide) ?_
    refine rs_ld (41) (pc := 9) dX11_orders_9 rfl (by omega) ?_
    refine r_icmp_ge 99 (pc := 10) dX11_orders_10 (by decide) (fun c10 => absurd c10 (c_gef rfl h41g (a := k) (b := K) (by omega) (by omega) (by omega))) (fun c10 => ?_)
    refine r_bipush (v := 42) (pc := 13) dX11_orders_13 (by decide) ?_
    refine r_iconst (v := 4) (pc := 15) dX11_orders_15 (by decide) ?_
    refine r_iload_n (pc := 16) dX11_orders_16 rfl rfl ?_
    refine r_imul (pc := 17) dX11_orders_17 ?_
    refine r_iadd (pc := 18) dX11_orders_18 ?_
    refine q_istore_n [_, _, _, _, _] (pc := 19) dX11_orders_19 rfl (by decide) rfl ?_
    rw [show (42 : Int32) + 4 * nI k = nI (42 + 4 * k) from nadd rfl (nmul rfl rfl)]
    refine lp_ordin (A := g) hl (nI k) k g _ _ (by omega) ?_
    refine q_iinc (nI (k + 1)) [_, _, _, _, _] (pc := 93) dX11_orders_93 rfl (by decide) (ninc 1 rfl) rfl ?_
    refine r_goto 2 (pc := 96) dX11_orders_96 (by decide) ?_
    exact ih (k + 1) _ (by omega) (by rw [itN_s, ← e_g]) (by omega) KK
theorem s_X11_orders {om : OM} {l : Launch} {B : Nat × Nat} {h0 : Hp} {I : Nat → Int32} {J : Nat → Int64} {A a v t n : Nat → Int32} (hl : l.stackTraces = false) (K : Nat) (hK : A 41 = nI K) (hK15 : K ≤ 15) : Runs om l M_X11_orders B 0 (entL 5 [.ref 119]) [] (rH h0 I J A a v t n) (Det (none) (rH h0 I J (R_orders A) a v t n)) := by
  show Runs om l M_X11_orders B 0 [some (.ref 119), none, none, none, none] [] _ _
  rw [show R_orders A = itN R_in1 (max K 1) A by unfold R_orders; rw [cl_nI hK (by omega)]]
  refine r_iconst (v := 1) (pc := 0) dX11_orders_0 (by decide) ?_
  refine q_istore_n [_, _, _, _, _] (pc := 1) dX11_orders_1 rfl (by decide) rfl ?_
  refine lp_orders hl K (max K 1) hK hK15 (by omega) (by omega) (max K 1 - 1) 1 _ (by omega) rfl (by omega) ?_
  exact r_return (S := []) (pc := 99) dX11_orders_99 rfl ⟨rfl, rfl⟩
theorem s_X11_fires {om : OM} {l : Launch} {B : Nat × Nat} {h0 : Hp} {I : Nat → Int32} {J : Nat → Int64} {A a v t n : Nat → Int32} (hl : l.stackTraces = false) (K4 K5 : Nat) (h4 : A 4 = nI K4) (hK4 : K4 ≤ 6) (h5 : A 5 = nI K5) (hK5 : K5 ≤ 6) : Runs om l M_X11_fires B 0 (entL 2 [.ref 119]) [] (rH h0 I J A a v t n) (Det (none) (rH h0 I J (R_fires A) a v t n)) := by
  show Runs om l M_X11_fires B 0 [some (.ref 119), none] [] _ _
  have h4m : R_move A 4 = nI K4 := by unfold R_move; rw [upd_n (by decide), upd_n (by decide)]; exact h4
  have h5m : R_move A 5 = nI K5 := by unfold R_move; rw [upd_n (by decide), upd_n (by decide)]; exact h5
  obtain ⟨e, he, hle, hout⟩ := EI_echoes (A := R_move A) (by rw [cl_nI h4m (by omega)]; exact hK4) (by rw [cl_nI h5m (by omega)]; exact hK5)
  obtain ⟨K41, h41, hK41⟩ : ∃ K41, R_chance (R_echoes (R_move A)) 41 = nI K41 ∧ K41 ≤ 15 := ⟨_, upd_s, by have h9 := (CI_ch (A := R_echoes (R_move A)) (cl (R_echoes (R_move A) 41)) (by rw [cl_nI he (by omega)]; exact hle)).2; rw [cl_nI he (by omega)] at h9 ⊢; omega⟩
  refine r_aload_n (pc := 0) dX11_fires_0 rfl rfl ?_
  refine rs_get (pc := 1) dX11_fires_1 rfl f_RX11_7 rfl ?_
  refine r_iconst (v := 1) (pc := 4) dX11_fires_4 (by decide) ?_
  refine rs_ld (1) (pc := 5) dX11_fires_5 rfl (by omega) ?_
  refine r_aload_n (pc := 6) dX11_fires_6 rfl rfl ?_
  refine rs_get (pc := 7) dX11_fires_7 rfl f_RX11_7 rfl ?_
  refine r_iconst (v := 2) (pc := 10) dX11_fires_10 (by decide) ?_
  refine rs_ld (2) (pc := 11) dX11_fires_11 rfl (by omega) ?_
  refine r_iadd (pc := 12) dX11_fires_12 ?_
  refine q_istore_n [_, _] (pc := 13) dX11_fires_13 rfl (by decide) rfl ?_
  refine r_aload_n (pc := 14) dX11_fires_14 rfl rfl ?_
  refine rs_get (pc := 15) dX11_fires_15 rfl f_RX11_7 rfl ?_
  refine r_iconst (v := 1) (pc := 18) dX11_fires_18 (by decide) ?_
  refine r_join 47 (R_lev A) ?_ (fun J19 => ?_)
  · refine rs_st (1) (pc := 47) dX11_fires_47 rfl (by omega) ?_
    refine r_aload_n (pc := 48) dX11_fires_48 rfl rfl ?_
    refine rs_get (pc := 49) dX11_fires_49 rfl f_RX11_7 rfl ?_
    refine r_bipush (v := 8) (pc := 52) dX11_fires_52 (by decide) ?_
    refine r_aload_n (pc := 54) dX11_fires_54 rfl rfl ?_
    refine rs_get (pc := 55) dX11_fires_55 rfl f_RX11_7 rfl ?_
    refine r_bipush (v := 8) (pc := 58) dX11_fires_58 (by decide) ?_
    refine rs_ld (8) (pc := 60) dX11_fires_60 rfl (by omega) ?_
    refine r_aload_n (pc := 61) dX11_fires_61 rfl rfl ?_
    refine rs_get (pc := 62) dX11_fires_62 rfl f_RX11_7 rfl ?_
    refine r_bipush (v := 9) (pc := 65) dX11_fires_65 (by decide) ?_
    refine rs_ld (9) (pc := 67) dX11_fires_67 rfl (by omega) ?_
    refine r_iadd (pc := 68) dX11_fires_68 ?_
    refine r_sipush (v := 360) (pc := 69) dX11_fires_69 (by decide) ?_
    refine r_irem (pc := 72) dX11_fires_72 (by decide) ?_
    refine rs_st (8) (pc := 73) dX11_fires_73 rfl (by omega) ?_
    refine r_aload_n (pc := 74) dX11_fires_74 rfl rfl ?_
    refine rs_call (vs := []) (pc := 75) dX11_fires_75 rfl l_RX11_71 rfl rfl ⟨by decide, by decide⟩ rfl (Nat.le_of_ble_eq_true rfl) hl (Nat.le_of_ble_eq_true rfl) (s_X11_echoes hl K4 K5 h4m hK4 h5m hK5) rfl ?_
    refine r_aload_n (pc := 78) dX11_fires_78 rfl rfl ?_
    refine rs_call (vs := []) (pc := 79) dX11_fires_79 rfl l_RX11_74 rfl rfl ⟨by decide, by decide⟩ rfl (Nat.le_of_ble_eq_true rfl) hl (Nat.le_of_ble_eq_true rfl) (s_X11_chance hl e he hle) rfl ?_
    refine r_aload_n (pc := 82) dX11_fires_82 rfl rfl ?_
    refine rs_call (vs := []) (pc := 83) dX11_fires_83 rfl l_RX11_77 rfl rfl ⟨by decide, by decide⟩ rfl (Nat.le_of_ble_eq_true rfl) hl (Nat.le_of_ble_eq_true rfl) (s_X11_orders hl K41 h41 hK41) rfl ?_
    exact r_return (S := []) (pc := 86) dX11_fires_86 rfl ⟨rfl, rfl⟩
  · refine r_iload_n (pc := 19) dX11_fires_19 rfl rfl ?_
    refine r_if_ge 27 (pc := 20) dX11_fires_20 (by decide) (fun c20 => ?_) (fun c20 => ?_)
    · refine r_iload_n (pc := 27) dX11_fires_27 rfl rfl ?_
      refine r_aload_n (pc := 28) dX11_fires_28 rfl rfl ?_
      refine rs_get (pc := 29) dX11_fires_29 rfl f_RX11_7 rfl ?_
      refine r_iconst (v := 0) (pc := 32) dX11_fires_32 (by decide) ?_
      refine rs_ld (0) (pc := 33) dX11_fires_33 rfl (by omega) ?_
      refine r_icmp_le 46 (pc := 34) dX11_fires_34 (by decide) (fun c34 => ?_) (fun c34 => ?_)
      · refine r_iload_n (pc := 46) dX11_fires_46 rfl rfl ?_
        exact J19 _ (by rw [R_lev]; (repeat (first | rw [if_pos (by assumption)] | rw [if_neg (by assumption)])))
      · refine r_aload_n (pc := 37) dX11_fires_37 rfl rfl ?_
        refine rs_get (pc := 38) dX11_fires_38 rfl f_RX11_7 rfl ?_
        refine r_iconst (v := 0) (pc := 41) dX11_fires_41 (by decide) ?_
        refine rs_ld (0) (pc := 42) dX11_fires_42 rfl (by omega) ?_
        refine r_goto 47 (pc := 43) dX11_fires_43 (by decide) ?_
        exact J19 _ (by rw [R_lev]; (repeat (first | rw [if_pos (by assumption)] | rw [if_neg (by assumption)])))
    · refine r_iconst (v := 0) (pc := 23) dX11_fires_23 (by decide) ?_
      refine r_goto 47 (pc := 24) dX11_fires_24 (by decide) ?_
      exact J19 _ (by rw [R_lev]; (repeat (first | rw [if_pos (by assumption)] | rw [if_neg (by assumption)])))
