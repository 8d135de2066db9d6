/-! the class: digest -/
theorem rin_ok {k n : Nat} (h : k ≤ n) (hn : n < 2 ^ 31) : R_in (nI k) 0 (nI n) = 1 := by
  unfold R_in
  rw [if_neg (Int32.not_lt.mpr (nI_pos' (by omega))), if_neg (Int32.not_lt.mpr ((nI_le_iff (by omega) hn).mpr h))]
theorem pick_any {om : OM} {l : Launch} {B : Nat × Nat} {R : Hp} {C : Nat → Int32} {W : Nat → Int64} {ns cnt : Int32} (hl : l.stackTraces = false) (hg : R.1 0 = .inr (8, gf ns cnt)) (k K : Nat) (hK : C 31 = nI K) (hK9 : K ≤ 9) (hk : k < 2 ^ 31) : Runs om l M_X10_pick B 0 (entL 2 [.ref 0, .int (nI k)]) [] (sH R 1 C W) (Det (some (.int (R_pv C k))) (sH R 1 C W)) := by
  unfold R_pv
  by_cases h : K ≤ k
  · rw [if_pos (by rw [hK]; exact (nI_le_iff (by omega) hk).mpr h)]
    exact s_X10_pick_yesO hl hg _ k K rfl hK hK9 h hk
  · rw [if_neg (by rw [hK]; exact fun z => h ((nI_le_iff (by omega) hk).mp z))]
    exact s_X10_pick_yes hl hg _ k K rfl hK hK9 (by omega)
theorem lpd_1 {om : OM} {l : Launch} {B : Nat × Nat} {R : Hp} {C : Nat → Int32} {W : Nat → Int64} {ns cnt : Int32} {Post : Out → Hp → Prop} (hl : l.stackTraces = false) (hg : R.1 0 = .inr (8, gf ns cnt)) (x : Int64) : ∀ (n9 k : Nat) (g : Int64), k + n9 = 12 → g = R_mixN C k x → Runs om l M_X10_digest B 58 [some (.ref 0), some (.long (R_mixN C 12 x)), none, some (.int (nI 12))] [] (sH R 1 C W) Post → Runs om l M_X10_digest B 33 [some (.ref 0), some (.long g), none, some (.int (nI k))] [] (sH R 1 C W) Post := by
  intro n9
  induction n9 with
  | zero =>
    intro k g hk e_g KK
    have e9 : k = 12 := by omega
    subst e9
    refine r_iload_n (pc := 33) dX10_digest_33 rfl rfl ?_
    refine r_bipush (v := 12) (pc := 34) dX10_digest_34 (by decide) ?_
    refine r_icmp_ge 58 (pc := 36) dX10_digest_36 (by decide) (fun c36 => ?_) (fun c36 => absurd (c_get rfl rfl (a := 12) (b := 12) (by omega) (by omega) (by omega)) c36)
    subst e_g
    exact KK
  | succ n9 ih =>
    intro k g hk e_g KK
    refine r_iload_n (pc := 33) dX10_digest_33 rfl rfl ?_
    refine r_bipush (v := 12) (pc := 34) dX10_digest_34 (by decide) ?_
    refine r_icmp_ge 58 (pc := 36) dX10_digest_36 (by decide) (fun c36 => absurd c36 (c_gef rfl rfl (a := k) (b := 12) (by omega) (by omega) (by omega))) (fun c36 => ?_)
    refine r_ldc2 (pc := 39) dX10_digest_39 rfl k_RX10_341 ?_
    refine r_lload_n (pc := 42) dX10_digest_42 rfl rfl ?_
    refine r_lmul (pc := 43) dX10_digest_43 ?_
    refine r_aload_n (pc := 44) dX10_digest_44 rfl rfl ?_
    refine r_iload_n (pc := 45) dX10_digest_45 rfl rfl ?_
    refine q_callV (ci := 8) (T := TX10) (N := 6) (vs := [.int _]) (pc := 46) dX10_digest_46 rfl l_RX10_343 rfl ⟨by decide, by decide⟩ rfl (Nat.le_of_ble_eq_true rfl) hl ((sH_out (Or.inl (by decide))).trans hg) rfl (Nat.le_of_ble_eq_true rfl) (s_X10_tank_yes hl hg _ k rfl (by omega)) rfl ?_
    refine r_i2l (pc := 49) dX10_digest_49 ?_
    refine r_ladd (pc := 50) dX10_digest_50 ?_
    refine q_lstore_n [_, _, _, _] (pc := 51) dX10_digest_51 rfl (by decide) rfl ?_
    refine q_iinc (nI (k + 1)) [_, _, _, _] (pc := 52) dX10_digest_52 rfl (by decide) (ninc 1 rfl) rfl ?_
    refine r_goto 33 (pc := 55) dX10_digest_55 (by decide) ?_
    exact ih (k + 1) _ (by omega) (by rw [e_g]; rfl) KK
theorem lpd_2 {om : OM} {l : Launch} {B : Nat × Nat} {R : Hp} {C : Nat → Int32} {W : Nat → Int64} {ns cnt : Int32} {Post : Out → Hp → Prop} (hl : l.stackTraces = false) (hg : R.1 0 = .inr (8, gf ns cnt)) (x : Int64) : ∀ (n9 k : Nat) (g : Int64), k + n9 = 12 → g = R_mixN (fun j => C (12 + j)) k x → Runs om l M_X10_digest B 85 [some (.ref 0), some (.long (R_mixN (fun j => C (12 + j)) 12 x)), none, some (.int (nI 12))] [] (sH R 1 C W) Post → Runs om l M_X10_digest B 60 [some (.ref 0), some (.long g), none, some (.int (nI k))] [] (sH R 1 C W) Post := by
  intro n9
  induction n9 with
  | zero =>
    intro k g hk e_g KK
    have e9 : k = 12 := by omega
    subst e9
    refine r_iload_n (pc := 60) dX10_digest_60 rfl rfl ?_
    refine r_bipush (v := 12) (pc := 61) dX10_digest_61 (by decide) ?_
    refine r_icmp_ge 85 (pc := 63) dX10_digest_63 (by decide) (fun c63 => ?_) (fun c63 => absurd (c_get rfl rfl (a := 12) (b := 12) (by omega) (by omega) (by omega)) c63)
    subst e_g
    exact KK
  | succ n9 ih =>
    intro k g hk e_g KK
    refine r_iload_n (pc := 60) dX10_digest_60 rfl rfl ?_
    refine r_bipush (v := 12) (pc := 61) dX10_digest_61 (by decide) ?_
    refine r_icmp_ge 85 (pc := 63) dX10_digest_63 (by decide) (fun c63 => absurd c63 (c_gef rfl rfl (a := k) (b := 12) (by omega) (by omega) (by omega))) (fun c63 => ?_)
    refine r_ldc2 (pc := 66) dX10_digest_66 rfl k_RX10_341 ?_
    refine r_lload_n (pc := 69) dX10_digest_69 rfl rfl ?_
    refine r_lmul (pc := 70) dX10_digest_70 ?_
    refine r_aload_n (pc := 71) dX10_digest_71 rfl rfl ?_
    refine r_iload_n (pc := 72) dX10_digest_72 rfl rfl ?_
    refine q_callV (ci := 8) (T := TX10) (N := 6) (vs := [.int _]) (pc := 73) dX10_digest_73 rfl l_RX10_345 rfl ⟨by decide, by decide⟩ rfl (Nat.le_of_ble_eq_true rfl) hl ((sH_out (Or.inl (by decide))).trans hg) rfl (Nat.le_of_ble_eq_true rfl) (s_X10_setting_yes hl hg _ (rin_ok (n := 11) (by omega) (by decide)) k rfl (by omega)) rfl ?_
    refine r_i2l (pc := 76) dX10_digest_76 ?_
    refine r_ladd (pc := 77) dX10_digest_77 ?_
    refine q_lstore_n [_, _, _, _] (pc := 78) dX10_digest_78 rfl (by decide) rfl ?_
    refine q_iinc (nI (k + 1)) [_, _, _, _] (pc := 79) dX10_digest_79 rfl (by decide) (ninc 1 rfl) rfl ?_
    refine r_goto 60 (pc := 82) dX10_digest_82 (by decide) ?_
    exact ih (k + 1) _ (by omega) (by rw [e_g]; rfl) KK
theorem lpd_3 {om : OM} {l : Launch} {B : Nat × Nat} {R : Hp} {C : Nat → Int32} {W : Nat → Int64} {ns cnt : Int32} {Post : Out → Hp → Prop} (hl : l.stackTraces = false) (hg : R.1 0 = .inr (8, gf ns cnt)) (x : Int64) (K : Nat) (hK : C 31 = nI K) (hK9 : K ≤ 9) : ∀ (n9 k : Nat) (g : Int64), k + n9 = 13 → g = R_mixN (K_gau C K) k x → Runs om l M_X10_digest B 112 [some (.ref 0), some (.long (R_mixN (K_gau C K) 13 x)), none, some (.int (nI 13))] [] (sH R 1 C W) Post → Runs om l M_X10_digest B 87 [some (.ref 0), some (.long g), none, some (.int (nI k))] [] (sH R 1 C W) Post := by
  intro n9
  induction n9 with
  | zero =>
    intro k g hk e_g KK
    have e9 : k = 13 := by omega
    subst e9
    refine r_iload_n (pc := 87) dX10_digest_87 rfl rfl ?_
    refine r_bipush (v := 13) (pc := 88) dX10_digest_88 (by decide) ?_
    refine r_icmp_ge 112 (pc := 90) dX10_digest_90 (by decide) (fun c90 => ?_) (fun c90 => absurd (c_get rfl rfl (a := 13) (b := 13) (by omega) (by omega) (by omega)) c90)
    subst e_g
    exact KK
  | succ n9 ih =>
    intro k g hk e_g KK
    refine r_iload_n (pc := 87) dX10_digest_87 rfl rfl ?_
    refine r_bipush (v := 13) (pc := 88) dX10_digest_88 (by decide) ?_
    refine r_icmp_ge 112 (pc := 90) dX10_digest_90 (by decide) (fun c90 => absurd c90 (c_gef rfl rfl (a := k) (b := 13) (by omega) (by omega) (by omega))) (fun c90 => ?_)
    refine r_ldc2 (pc := 93) dX10_digest_93 rfl k_RX10_341 ?_
    refine r_lload_n (pc := 96) dX10_digest_96 rfl rfl ?_
    refine r_lmul (pc := 97) dX10_digest_97 ?_
    refine r_aload_n (pc := 98) dX10_digest_98 rfl rfl ?_
    refine r_iload_n (pc := 99) dX10_digest_99 rfl rfl ?_
    refine q_callV (ci := 8) (T := TX10) (N := 6) (vs := [.int _]) (pc := 100) dX10_digest_100 rfl l_RX10_348 rfl ⟨by decide, by decide⟩ rfl (Nat.le_of_ble_eq_true rfl) hl ((sH_out (Or.inl (by decide))).trans hg) rfl (Nat.le_of_ble_eq_true rfl) (s_X10_gauge_yes hl hg _ k rfl (by omega) K hK hK9) rfl ?_
    refine r_i2l (pc := 103) dX10_digest_103 ?_
    refine r_ladd (pc := 104) dX10_digest_104 ?_
    refine q_lstore_n [_, _, _, _] (pc := 105) dX10_digest_105 rfl (by decide) rfl ?_
    refine q_iinc (nI (k + 1)) [_, _, _, _] (pc := 106) dX10_digest_106 rfl (by decide) (ninc 1 rfl) rfl ?_
    refine r_goto 87 (pc := 109) dX10_digest_109 (by decide) ?_
    exact ih (k + 1) _ (by omega) (by rw [e_g]; rfl) KK
theorem lpd_4 {om : OM} {l : Launch} {B : Nat × Nat} {R : Hp} {C : Nat → Int32} {W : Nat → Int64} {ns cnt : Int32} {Post : Out → Hp → Prop} (hl : l.stackTraces = false) (hg : R.1 0 = .inr (8, gf ns cnt)) (x : Int64) (K : Nat) (hK : C 31 = nI K) (hK9 : K ≤ 9) (L : Nat) (hL : C (12 + 6) = nI L) (hL9 : L ≤ 9) : ∀ (n9 k : Nat) (g : Int64), k + n9 = L → g = R_mixN (R_pv C) k x → Runs om l M_X10_digest B 173 [some (.ref 0), some (.long (R_mixN (R_pv C) L x)), none, some (.int (nI L))] [] (sH R 1 C W) Post → Runs om l M_X10_digest B 138 [some (.ref 0), some (.long g), none, some (.int (nI k))] [] (sH R 1 C W) Post := by
  intro n9
  induction n9 with
  | zero =>
    intro k g hk e_g KK
    have e9 : k = L := by omega
    refine r_iload_n (pc := 138) dX10_digest_138 rfl rfl ?_
    refine r_aload_n (pc := 139) dX10_digest_139 rfl rfl ?_
    refine r_getfield (pc := 140) dX10_digest_140 rfl f_RX10_12 ((sH_out (Or.inl (by decide))).trans hg) rfl ?_
    refine cs_get0 (pc := 143) dX10_digest_143 rfl f_RX10_140 rfl ?_
    refine r_bipush (v := 6) (pc := 146) dX10_digest_146 (by decide) ?_
    refine q_callV (ci := 5) (T := TX6) (N := 1) (vs := [.int _]) (pc := 148) dX10_digest_148 rfl l_RX10_151 rfl ⟨by decide, by decide⟩ rfl (Nat.le_of_ble_eq_true rfl) hl (sH_at (i := 4) (by decide)) rfl (Nat.le_of_ble_eq_true rfl) (s_X6_value hl _ 6 rfl (by decide)) sH_22 ?_
    refine r_icmp_ge 173 (pc := 151) dX10_digest_151 (by decide) (fun c151 => ?_) (fun c151 => absurd (c_get rfl hL (a := k) (b := L) (by omega) (by omega) (by omega)) c151)
    subst e9
    subst e_g
    exact KK
  | succ n9 ih =>
    intro k g hk e_g KK
    refine r_iload_n (pc := 138) dX10_digest_138 rfl rfl ?_
    refine r_aload_n (pc := 139) dX10_digest_139 rfl rfl ?_
    refine r_getfield (pc := 140) dX10_digest_140 rfl f_RX10_12 ((sH_out (Or.inl (by decide))).trans hg) rfl ?_
    refine cs_get0 (pc := 143) dX10_digest_143 rfl f_RX10_140 rfl ?_
    refine r_bipush (v := 6) (pc := 146) dX10_digest_146 (by decide) ?_
    refine q_callV (ci := 5) (T := TX6) (N := 1) (vs := [.int _]) (pc := 148) dX10_digest_148 rfl l_RX10_151 rfl ⟨by decide, by decide⟩ rfl (Nat.le_of_ble_eq_true rfl) hl (sH_at (i := 4) (by decide)) rfl (Nat.le_of_ble_eq_true rfl) (s_X6_value hl _ 6 rfl (by decide)) sH_22 ?_
    refine r_icmp_ge 173 (pc := 151) dX10_digest_151 (by decide) (fun c151 => absurd c151 (c_gef rfl hL (a := k) (b := L) (by omega) (by omega) (by omega))) (fun c151 => ?_)
    refine r_ldc2 (pc := 154) dX10_digest_154 rfl k_RX10_341 ?_
    refine r_lload_n (pc := 157) dX10_digest_157 rfl rfl ?_
    refine r_lmul (pc := 158) dX10_digest_158 ?_
    refine r_aload_n (pc := 159) dX10_digest_159 rfl rfl ?_
    refine r_iload_n (pc := 160) dX10_digest_160 rfl rfl ?_
    refine q_callV (ci := 8) (T := TX10) (N := 6) (vs := [.int _]) (pc := 161) dX10_digest_161 rfl l_RX10_356 rfl ⟨by decide, by decide⟩ rfl (Nat.le_of_ble_eq_true rfl) hl ((sH_out (Or.inl (by decide))).trans hg) rfl (Nat.le_of_ble_eq_true rfl) (pick_any hl hg k K hK hK9 (by omega)) rfl ?_
    refine r_i2l (pc := 164) dX10_digest_164 ?_
    refine r_ladd (pc := 165) dX10_digest_165 ?_
    refine q_lstore_n [_, _, _, _] (pc := 166) dX10_digest_166 rfl (by decide) rfl ?_
    refine q_iinc (nI (k + 1)) [_, _, _, _] (pc := 167) dX10_digest_167 rfl (by decide) (ninc 1 rfl) rfl ?_
    refine r_goto 138 (pc := 170) dX10_digest_170 (by decide) ?_
    exact ih (k + 1) _ (by omega) (by rw [e_g]; rfl) KK
def K_dig (C : Nat → Int32) (W : Nat → Int64) (cnt ln : Int32) (K31 K4 K5 K41 L : Nat) : Int64 := R_mixN (K_bin W) 501 (R_mixN (R_pv C) L (itN (K_edb C) K41 (R_mixN (fun j => R_angle C (nI j)) K5 (R_mixN (fun j => C (134 + j)) (2 * K4) (R_mixN (K_gau C K31) 13 (R_mixN (fun j => C (12 + j)) 12 (R_mixN C 12 (R_mx (R_mx 18907 cnt) ln))))))))
theorem s_X10_digest {om : OM} {l : Launch} {B : Nat × Nat} {R : Hp} {C : Nat → Int32} {W : Nat → Int64} {ns cnt : Int32} (hl : l.stackTraces = false) (hg : R.1 0 = .inr (8, gf ns cnt)) {ln po : Int32} {wd : Value} {t nu : Nat → Int32} (hc : HC R ln po wd t nu) (K31 K4 K5 K41 LL : Nat) (h31 : C 31 = nI K31) (hK31 : K31 ≤ 9) (h4 : C 4 = nI K4) (hK4 : K4 ≤ 6) (h5 : C 5 = nI K5) (hK5 : K5 ≤ 6) (h41 : C 41 = nI K41) (hK41 : K41 ≤ 15) (h18 : C (12 + 6) = nI LL) (hL9 : LL ≤ 9) : Runs om l M_X10_digest B 0 (entL 4 [.ref 0]) [] (sH R 1 C W) (Det (some (.long (K_dig C W cnt ln K31 K4 K5 K41 LL))) (sH R 1 C W)) := by
  show Runs om l M_X10_digest B 0 [some (.ref 0), none, none, none] [] _ _
  refine r_ldc2 (pc := 0) dX10_digest_0 rfl k_RX10_339 ?_
  refine q_lstore_n [_, _, _, _] (pc := 3) dX10_digest_3 rfl (by decide) rfl ?_
  refine r_ldc2 (pc := 4) dX10_digest_4 rfl k_RX10_341 ?_
  refine r_lload_n (pc := 7) dX10_digest_7 rfl rfl ?_
  refine r_lmul (pc := 8) dX10_digest_8 ?_
  refine r_aload_n (pc := 9) dX10_digest_9 rfl rfl ?_
  refine r_getfield (pc := 10) dX10_digest_10 rfl f_RX10_27 ((sH_out (Or.inl (by decide))).trans hg) rfl ?_
  refine r_i2l (pc := 13) dX10_digest_13 ?_
  refine r_ladd (pc := 14) dX10_digest_14 ?_
  refine q_lstore_n [_, _, _, _] (pc := 15) dX10_digest_15 rfl (by decide) rfl ?_
  refine r_ldc2 (pc := 16) dX10_digest_16 rfl k_RX10_341 ?_
  refine r_lload_n (pc := 19) dX10_digest_19 rfl rfl ?_
  refine r_lmul (pc := 20) dX10_digest_20 ?_
  refine r_aload_n (pc := 21) dX10_digest_21 rfl rfl ?_
  refine r_getfield (pc := 22) dX10_digest_22 rfl f_RX10_33 ((sH_out (Or.inl (by decide))).trans hg) rfl ?_
  refine r_getfield (pc := 25) dX10_digest_25 rfl f_RX10_311 (HC_sH hc).1 rfl ?_
  refine r_i2l (pc := 28) dX10_digest_28 ?_
  refine r_ladd (pc := 29) dX10_digest_29 ?_
  refine q_lstore_n [_, _, _, _] (pc := 30) dX10_digest_30 rfl (by decide) rfl ?_
  refine r_iconst (v := 0) (pc := 31) dX10_digest_31 (by decide) ?_
  refine q_istore_n [_, _, _, _] (pc := 32) dX10_digest_32 rfl (by decide) rfl ?_
  refine lpd_1 hl hg _ 12 0 _ (by omega) mixN_0.symm ?_
  refine r_iconst (v := 0) (pc := 58) dX10_digest_58 (by decide) ?_
  refine q_istore_n [_, _, _, _] (pc := 59) dX10_digest_59 rfl (by decide) rfl ?_
  refine lpd_2 hl hg _ 12 0 _ (by omega) mixN_0.symm ?_
  refine r_iconst (v := 0) (pc := 85) dX10_digest_85 (by decide) ?_
  refine q_istore_n [_, _, _, _] (pc := 86) dX10_digest_86 rfl (by decide) rfl ?_
  refine lpd_3 hl hg _ K31 h31 hK31 13 0 _ (by omega) mixN_0.symm ?_
  refine r_aload_n (pc := 112) dX10_digest_112 rfl rfl ?_
  refine r_getfield (pc := 113) dX10_digest_113 rfl f_RX10_12 ((sH_out (Or.inl (by decide))).trans hg) rfl ?_
  refine cs_get0 (pc := 116) dX10_digest_116 rfl f_RX10_66 rfl ?_
  refine r_lload_n (pc := 119) dX10_digest_119 rfl rfl ?_
  refine q_callV (ci := 7) (T := TX8) (N := 14) (vs := [.long _]) (pc := 120) dX10_digest_120 rfl l_RX10_351 rfl ⟨by decide, by decide⟩ rfl (Nat.le_of_ble_eq_true rfl) hl (sH_at (i := 1) (by decide)) rfl (Nat.le_of_ble_eq_true rfl) (s_X8_addToDigest hl _ K4 K5 h4 hK4 h5 hK5) sH_22 ?_
  refine q_lstore_n [_, _, _, _] (pc := 123) dX10_digest_123 rfl (by decide) rfl ?_
  refine r_aload_n (pc := 124) dX10_digest_124 rfl rfl ?_
  refine r_getfield (pc := 125) dX10_digest_125 rfl f_RX10_12 ((sH_out (Or.inl (by decide))).trans hg) rfl ?_
  refine cs_get0 (pc := 128) dX10_digest_128 rfl f_RX10_206 rfl ?_
  refine r_lload_n (pc := 131) dX10_digest_131 rfl rfl ?_
  refine q_callV (ci := 2) (T := TX3) (N := 5) (vs := [.long _]) (pc := 132) dX10_digest_132 rfl l_RX10_355 rfl ⟨by decide, by decide⟩ rfl (Nat.le_of_ble_eq_true rfl) hl (sH_at (i := 8) (by decide)) rfl (Nat.le_of_ble_eq_true rfl) (s_X3_addToDigest hl _ K41 h41 hK41) sH_22 ?_
  refine q_lstore_n [_, _, _, _] (pc := 135) dX10_digest_135 rfl (by decide) rfl ?_
  refine r_iconst (v := 0) (pc := 136) dX10_digest_136 (by decide) ?_
  refine q_istore_n [_, _, _, _] (pc := 137) dX10_digest_137 rfl (by decide) rfl ?_
  refine lpd_4 hl hg _ K31 h31 hK31 LL h18 hL9 LL 0 _ (by omega) mixN_0.symm ?_
  refine r_aload_n (pc := 173) dX10_digest_173 rfl rfl ?_
  refine r_getfield (pc := 174) dX10_digest_174 rfl f_RX10_12 ((sH_out (Or.inl (by decide))).trans hg) rfl ?_
  refine cs_get0 (pc := 177) dX10_digest_177 rfl f_RX10_168 rfl ?_
  refine r_lload_n (pc := 180) dX10_digest_180 rfl rfl ?_
  refine q_callV (ci := 4) (T := TX5) (N := 2) (vs := [.long _]) (pc := 181) dX10_digest_181 rfl l_RX10_359 rfl ⟨by decide, by decide⟩ rfl (Nat.le_of_ble_eq_true rfl) hl (sH_at (i := 6) (by decide)) rfl (Nat.le_of_ble_eq_true rfl) (s_X5_addToDigest hl _) sH_22 ?_
  exact r_lreturn (S := []) (pc := 184) dX10_digest_184 rfl ⟨by rw [K_dig, R_mx, R_mx], rfl⟩
