/-! the class: shots taken, echoes learned -/
theorem s_X3_markP {om : OM} {l : Launch} {B : Nat × Nat} {h0 : Hp} {b : Nat} {C : Nat → Int32} {W : Nat → Int64} (hl : l.stackTraces = false) (x : Int32) (n : Nat) (hK : C 41 = nI n) (hx : KPI n x) (hn : n ≤ 15) : Runs om l M_X3_mark B 0 (entL 3 [.ref (b + 8), .int x, .int 4]) [] (sH h0 b C W) (Det none (sH h0 b (K_pk C x) W)) := by
  rcases hx with h | ⟨e, he, h⟩
  · rw [show K_pk C x = C from if_pos h]
    exact s_X3_markN hl x 4 (by rw [h]; decide)
  · have nb : ¬ x = -1 := by rw [h]; exact neg1_ne (by omega)
    rw [show K_pk C x = upd C (42 + 4 * e + 3) (C (42 + 4 * e + 3) ||| 4) by unfold K_pk; rw [if_neg nb, cl_nI h (by omega)]]
    exact s_X3_mark hl x e n h hK he hn 4
theorem s_X3_distP {om : OM} {l : Launch} {B : Nat × Nat} {h0 : Hp} {b : Nat} {C : Nat → Int32} {W : Nat → Int64} (hl : l.stackTraces = false) (x : Int32) (n : Nat) (hK : C 41 = nI n) (hx : KPI n x) (hn : n ≤ 15) : Runs om l M_X3_distance B 0 (entL 2 [.ref (b + 8), .int x]) [] (sH h0 b C W) (Det (some (.int (K_pd C x))) (sH h0 b C W)) := by
  rcases hx with h | ⟨e, he, h⟩
  · rw [show K_pd C x = -1 from if_pos h]
    exact s_X3_distanceN hl x (by rw [h]; decide)
  · have nb : ¬ x = -1 := by rw [h]; exact neg1_ne (by omega)
    rw [show K_pd C x = C (42 + 4 * e + 1) by unfold K_pd; rw [if_neg nb, cl_nI h (by omega)]]
    exact s_X3_distance hl x e n h hK he hn
theorem klook_1 {W : Nat → Int64} {Y : Nat → Int32} (h : K_find W Y (12 + 4) = 1) : K_look W Y = K_drop (K_find W Y) := by unfold K_look; exact if_pos h
theorem klook_0 {W : Nat → Int64} {Y : Nat → Int32} (h : ¬ K_find W Y (12 + 4) = 1) : K_look W Y = K_find W Y := by unfold K_look; exact if_neg h
/-- what one shot's walk stands on -/
theorem shot_pre {C A : Nat → Int32} {W : Nat → Int64} (h : AG C W A) (hw : WF A) (hx : WX A) : ∃ n D K4 K5 jn Ka Kb K L f : Nat, ∃ (X1 : Nat → Int32) (x : Int32), n ≤ 15 ∧ D ≤ 10000 ∧ K4 ≤ 6 ∧ K5 ≤ 6 ∧ jn ≤ 20 ∧ Ka ≤ 15 ∧ Kb ≤ 15 ∧ K ≤ 9 ∧ 1 ≤ L ∧ L ≤ 9 ∧ 1 ≤ f ∧ f ≤ 20 ∧ C 4 = nI K4 ∧ C 5 = nI K5 ∧ C 13 = nI jn ∧ K_fires C 41 = nI n ∧ K_fires C 0 = nI D ∧ (∀ e, e < n → 0 ≤ K_fires C (42 + 4 * e + 1)) ∧ K_find W (K_fires C) 41 = nI n ∧ K_find W (K_fires C) 102 = nI Ka ∧ K_find W (K_fires C) 118 = nI Kb ∧ K_look W (K_fires C) = X1 ∧ X1 41 = nI n ∧ K_best X1 (X1 17) (X1 26) n = x ∧ KPI n x ∧ K_pk X1 x 41 = nI n ∧ K_old (K_pk X1 x) 41 = nI n ∧ K_sh6 X1 x 41 = nI n ∧ K_sh6 X1 x 31 = nI K ∧ K_sh6 X1 x 18 = nI L ∧ K_sh6 X1 x 19 = nI f ∧ K_shot W C = K_enter (K_sh6 X1 x) (K_pd (K_sh6 X1 x) x) (K_sh6 X1 x 0) (min (K + 1) L) := by
  obtain ⟨hA, hW, -⟩ := h
  obtain ⟨n, hn, x41, y41, flo, fsl, fmz⟩ := fires_ag hA hw
  obtain ⟨D, hD, hD1⟩ := hw.D
  obtain ⟨K4, h4, hK4⟩ := hw.K4
  obtain ⟨K5, h5, hK5⟩ := hw.K5
  obtain ⟨K, h31, hK9⟩ := hw.K31
  obtain ⟨Ka, ha, hKa⟩ := hw.Ka
  obtain ⟨Kb, hb, hKb⟩ := hw.Kb
  obtain ⟨⟨jn, h13, hj20⟩, ⟨L, h18, hL1, hL9⟩, ⟨f, h19, hf1, hf20⟩, -⟩ := hx
  have hDI := fires_DI hw
  unfold DI at hDI
  rw [cl_nI y41 (by omega)] at hDI
  have c4 : cl (C 4) ≤ 6 := by rw [hA.lo (by omega), cl_nI h4 (by omega)]; exact hK4
  have c5 : cl (C 5) ≤ 6 := by rw [hA.lo (by omega), cl_nI h5 (by omega)]; exact hK5
  have xo : ∀ j, (j ≠ 1 ∧ j ≠ 8 ∧ j ≠ 11 ∧ j < 41) ∨ 102 ≤ j → K_fires C j = C j := fun j hj => kfires_n c4 c5 (by omega)
  have LF := KLI_fc (W := W) (A := K_fires C) n hn
  have eF : K_find W (K_fires C) = itN (K_fcb W) n (K_fires C) := by unfold K_find; rw [cl_nI x41 (by omega)]
  rw [← eF] at LF
  have hF41 : K_find W (K_fires C) 41 = nI n := (LF 41 (by omega) (by omega)).trans x41
  have LX : KLI (K_fires C) (K_look W (K_fires C)) := by
    unfold K_look
    split
    · have LD := KLI_dr (A := K_find W (K_fires C)) n hn
      have eD : K_drop (K_find W (K_fires C)) = itN K_drb n (K_find W (K_fires C)) := by unfold K_drop; rw [cl_nI hF41 (by omega)]
      rw [← eD] at LD
      exact fun j h1 h2 => (LD j h1 h2).trans (LF j h1 h2)
    · exact LF
  have ag102 : C 102 = nI Ka := (hA 102 (by unfold Lv; omega)).trans ha
  have ag118 : C 118 = nI Kb := (hA 118 (by unfold Lv; omega)).trans hb
  have e0 : K_fires C 0 = nI D := (xo 0 (by omega)).trans ((hA.lo (by omega)).trans hD)
  have e31 : K_look W (K_fires C) 31 = nI K := (LX 31 (by omega) (by omega)).trans ((xo 31 (by omega)).trans ((hA.lo (by omega)).trans h31))
  have e18 : K_look W (K_fires C) 18 = nI L := (LX 18 (by omega) (by omega)).trans ((xo 18 (by omega)).trans ((hA.lo (by omega)).trans h18))
  have e19 : K_look W (K_fires C) 19 = nI f := (LX 19 (by omega) (by omega)).trans ((xo 19 (by omega)).trans ((hA.lo (by omega)).trans h19))
  have e41 : K_look W (K_fires C) 41 = nI n := (LX 41 (by omega) (by omega)).trans x41
  have eS := kshot_eq (W := W) (C := C) rfl rfl
  rw [cl_nI e41 (by omega)] at eS
  have h102 : K_find W (K_fires C) 102 = nI Ka := (LF 102 (by omega) (by omega)).trans ((xo 102 (by omega)).trans ag102)
  have h118 : K_find W (K_fires C) 118 = nI Kb := (LF 118 (by omega) (by omega)).trans ((xo 118 (by omega)).trans ag118)
  have hnn : ∀ e, e < n → 0 ≤ K_fires C (42 + 4 * e + 1) := fun e he => by rw [fsl _ (by omega) (by omega)]; exact hDI e he
  have aux : ∀ (X1 : Nat → Int32) (x : Int32), X1 41 = nI n → X1 31 = nI K → X1 18 = nI L → X1 19 = nI f → KPI n x → K_pk X1 x 41 = nI n ∧ K_old (K_pk X1 x) 41 = nI n ∧ K_sh6 X1 x 41 = nI n ∧ K_sh6 X1 x 31 = nI K ∧ K_sh6 X1 x 18 = nI L ∧ K_sh6 X1 x 19 = nI f := by
    intro X1 x q41 q31 q18 q19 hk
    have hxx : x = -1 ∨ ∃ e, e < 15 ∧ x = nI e := hk.elim Or.inl fun ⟨e, a, b⟩ => Or.inr ⟨e, by omega, b⟩
    have p : ∀ j, j < 42 → K_pk X1 x j = X1 j := fun j hj => pk_n (by omega) hxx
    have o : ∀ j, j < 42 → K_old (K_pk X1 x) j = X1 j := fun j hj => (old_n (by omega)).trans (p j hj)
    have t : ∀ j, j < 42 → K_sh6 X1 x j = X1 j := fun j hj => by
      unfold K_sh6 K_take
      rw [o 41 (by omega), cl_nI q41 (by omega), (KTI_r (C := K_old (K_pk X1 x)) n hn).2 j (by omega)]
      exact o j hj
    exact ⟨(p 41 (by omega)).trans q41, (o 41 (by omega)).trans q41, (t 41 (by omega)).trans q41, (t 31 (by omega)).trans q31, (t 18 (by omega)).trans q18, (t 19 (by omega)).trans q19⟩
  have hk : KPI n (K_best (K_look W (K_fires C)) (K_look W (K_fires C) 17) (K_look W (K_fires C) 26) n) := KPI_best n
  obtain ⟨a1, a2, a3, a4, a5, a6⟩ := aux _ _ e41 e31 e18 e19 hk
  rw [a4, a5, cl_nI rfl (by omega), cl_nI rfl (by omega)] at eS
  exact ⟨n, D, K4, K5, jn, Ka, Kb, K, L, f, _, _, hn, hD1, hK4, hK5, hj20, hKa, hKb, hK9, hL1, hL9, hf1, hf20, (hA.lo (by omega)).trans h4, (hA.lo (by omega)).trans h5, (hA.lo (by omega)).trans h13, x41, e0, hnn, hF41, h102, h118, rfl, e41, rfl, hk, a1, a2, a3, a4, a5, a6, eS⟩
theorem lp_X7_take {om : OM} {l : Launch} {B : Nat × Nat} {h0 : Hp} {b : Nat} {C : Nat → Int32} {W : Nat → Int64} {Post : Out → Hp → Prop} (hl : l.stackTraces = false) (A : Nat → Int32) (y : Int32) (s : Nat) (hy : y = nI s) (hs : s ≤ 500) (hA : AG C W A) (hw : WF A) (hx : WX A) : ∀ (n9 k : Nat) (g : Nat → Int32), k + n9 = s → g = K_shots W C k → Runs om l M_X7_takeShots B 117 [some (.ref b), some (.int y), some (.int (nI s)), none] [] (sH h0 b ((K_shots W C s)) W) Post → Runs om l M_X7_takeShots B 2 [some (.ref b), some (.int y), some (.int (nI k)), none] [] (sH h0 b g W) Post := by
  intro n9
  induction n9 with
  | zero =>
    intro k g hk e_g KK
    have e9 : k = s := by omega
    refine r_iload_n (pc := 2) dX7_takeShots_2 rfl rfl ?_
    refine r_iload_n (pc := 3) dX7_takeShots_3 rfl rfl ?_
    refine r_icmp_ge 117 (pc := 4) dX7_takeShots_4 (by decide) (fun c4 => ?_) (fun c4 => absurd (c_get rfl hy (a := k) (b := s) (by omega) (by omega) (by omega)) c4)
    subst e9
    subst e_g
    exact KK
  | succ n9 ih =>
    intro k g hk e_g KK
    have hAG := AG_shots hA hw hx k
    rw [← e_g] at hAG
    obtain ⟨n, D, K4, K5, jn, Ka, Kb, K, L, f, X1, x, hn, hD1, hK4, hK5, hj20, hKa, hKb, hK9, hL1, hL9, hf1, hf20, g4, g5, g13, f41, f0, fnn, d41, d102, d118, hX1, x41, hx, hkp, p41, o41, u41, u31, u18, u19, eS⟩ := shot_pre hAG.1 (WF_shoots hw k) hAG.2
    refine r_iload_n (pc := 2) dX7_takeShots_2 rfl rfl ?_
    refine r_iload_n (pc := 3) dX7_takeShots_3 rfl rfl ?_
    refine r_icmp_ge 117 (pc := 4) dX7_takeShots_4 (by decide) (fun c4 => absurd c4 (c_gef rfl hy (a := k) (b := s) (by omega) (by omega) (by omega))) (fun c4 => ?_)
    refine r_aload_n (pc := 7) dX7_takeShots_7 rfl rfl ?_
    refine q_callV (ci := 6) (T := TX7) (N := 7) (vs := []) (pc := 8) dX7_takeShots_8 rfl l_RX7_98 rfl ⟨by decide, by decide⟩ rfl (Nat.le_of_ble_eq_true rfl) hl sH_0 rfl (Nat.le_of_ble_eq_true rfl) (s_X7_send hl K4 K5 jn g4 hK4 g5 hK5 g13 hj20) sH_22 ?_
    refine r_aload_n (pc := 11) dX7_takeShots_11 rfl rfl ?_
    refine q_callV (ci := 6) (T := TX7) (N := 7) (vs := []) (pc := 12) dX7_takeShots_12 rfl l_RX7_101 rfl ⟨by decide, by decide⟩ rfl (Nat.le_of_ble_eq_true rfl) hl sH_0 rfl (Nat.le_of_ble_eq_true rfl) (s_X7_findCandidates hl n D f41 hn f0 hD1 fnn) sH_22 ?_
    refine r_joinH 31 [some (.ref b), some (.int y), some (.int (nI k)), none] (sH h0 b (K_look W (K_fires g)) W) (?_) (fun J15 => ?_)
    · rw [hX1]
      refine r_aload_n (pc := 31) dX7_takeShots_31 rfl rfl ?_
      refine cs_get0 (pc := 32) dX7_takeShots_32 rfl f_RX7_35 rfl ?_
      refine r_aload_n (pc := 35) dX7_takeShots_35 rfl rfl ?_
      refine cs_get0 (pc := 36) dX7_takeShots_36 rfl f_RX7_21 rfl ?_
      refine r_iconst (v := 5) (pc := 39) dX7_takeShots_39 (by decide) ?_
      refine q_callV (ci := 5) (T := TX6) (N := 1) (vs := [.int _]) (pc := 40) dX7_takeShots_40 rfl l_RX7_104 rfl ⟨by decide, by decide⟩ rfl (Nat.le_of_ble_eq_true rfl) hl (sH_at (i := 4) (by decide)) rfl (Nat.le_of_ble_eq_true rfl) (s_X6_value hl _ 5 rfl (by decide)) sH_22 ?_
      refine r_aload_n (pc := 43) dX7_takeShots_43 rfl rfl ?_
      refine cs_get0 (pc := 44) dX7_takeShots_44 rfl f_RX7_42 rfl ?_
      refine cs_get (i := 13) (pc := 47) dX7_takeShots_47 rfl f_RX7_111 (by decide) rfl rfl ?_
      refine q_callV (ci := 2) (T := TX3) (N := 5) (vs := [.int _, .int _]) (pc := 50) dX7_takeShots_50 rfl l_RX7_114 rfl ⟨by decide, by decide⟩ rfl (Nat.le_of_ble_eq_true rfl) hl (sH_at (i := 8) (by decide)) rfl (Nat.le_of_ble_eq_true rfl) (s_X3_bestOf hl _ _ n x41 hn) sH_22 ?_
      rw [show K_best X1 (X1 (12 + 5)) (X1 26) n = x from hx]
      refine q_istore_n [_, _, _, _] (pc := 53) dX7_takeShots_53 rfl (by decide) rfl ?_
      refine r_aload_n (pc := 54) dX7_takeShots_54 rfl rfl ?_
      refine cs_get0 (pc := 55) dX7_takeShots_55 rfl f_RX7_35 rfl ?_
      refine r_iload_n (pc := 58) dX7_takeShots_58 rfl rfl ?_
      refine r_iconst (v := 4) (pc := 59) dX7_takeShots_59 (by decide) ?_
      refine q_callV (ci := 2) (T := TX3) (N := 5) (vs := [.int _, .int _]) (pc := 60) dX7_takeShots_60 rfl l_RX7_118 rfl ⟨by decide, by decide⟩ rfl (Nat.le_of_ble_eq_true rfl) hl (sH_at (i := 8) (by decide)) rfl (Nat.le_of_ble_eq_true rfl) (s_X3_markP hl x n x41 hkp hn) sH_22 ?_
      refine r_aload_n (pc := 63) dX7_takeShots_63 rfl rfl ?_
      refine cs_get0 (pc := 64) dX7_takeShots_64 rfl f_RX7_53 rfl ?_
      refine r_aload_n (pc := 67) dX7_takeShots_67 rfl rfl ?_
      refine cs_get0 (pc := 68) dX7_takeShots_68 rfl f_RX7_49 rfl ?_
      refine q_callV (ci := 1) (T := TX2) (N := 2) (vs := [.ref _]) (pc := 71) dX7_takeShots_71 rfl l_RX7_72 rfl ⟨by decide, by decide⟩ rfl (Nat.le_of_ble_eq_true rfl) hl (sH_at (i := 17) (by decide)) rfl (Nat.le_of_ble_eq_true rfl) (s_X2_copyOld hl) sH_22 ?_
      refine r_aload_n (pc := 74) dX7_takeShots_74 rfl rfl ?_
      refine cs_get0 (pc := 75) dX7_takeShots_75 rfl f_RX7_49 rfl ?_
      refine r_aload_n (pc := 78) dX7_takeShots_78 rfl rfl ?_
      refine cs_get0 (pc := 79) dX7_takeShots_79 rfl f_RX7_35 rfl ?_
      refine q_callV (ci := 1) (T := TX2) (N := 2) (vs := [.ref _]) (pc := 82) dX7_takeShots_82 rfl l_RX7_121 rfl ⟨by decide, by decide⟩ rfl (Nat.le_of_ble_eq_true rfl) hl (sH_at (i := 15) (by decide)) rfl (Nat.le_of_ble_eq_true rfl) (s_X2_takeCandidates hl n o41 hn) sH_22 ?_
      have e6 : K_take (K_old (K_pk X1 x)) = K_sh6 X1 x := rfl
      rw [e6]
      refine r_aload_n (pc := 85) dX7_takeShots_85 rfl rfl ?_
      refine cs_get0 (pc := 86) dX7_takeShots_86 rfl f_RX7_42 rfl ?_
      refine r_aload_n (pc := 89) dX7_takeShots_89 rfl rfl ?_
      refine cs_get0 (pc := 90) dX7_takeShots_90 rfl f_RX7_35 rfl ?_
      refine r_iload_n (pc := 93) dX7_takeShots_93 rfl rfl ?_
      refine q_callV (ci := 2) (T := TX3) (N := 5) (vs := [.int _]) (pc := 94) dX7_takeShots_94 rfl l_RX7_124 rfl ⟨by decide, by decide⟩ rfl (Nat.le_of_ble_eq_true rfl) hl (sH_at (i := 8) (by decide)) rfl (Nat.le_of_ble_eq_true rfl) (s_X3_distP hl x n u41 hkp hn) sH_22 ?_
      refine r_aload_n (pc := 97) dX7_takeShots_97 rfl rfl ?_
      refine cs_get0 (pc := 98) dX7_takeShots_98 rfl f_RX7_21 rfl ?_
      refine r_aload_n (pc := 101) dX7_takeShots_101 rfl rfl ?_
      refine cs_get0 (pc := 102) dX7_takeShots_102 rfl f_RX7_12 rfl ?_
      refine cs_get (i := 1) (pc := 105) dX7_takeShots_105 rfl f_RX7_82 (by decide) rfl rfl ?_
      refine q_callV (ci := 3) (T := TX4) (N := 9) (vs := [.int _, .ref _, .int _]) (pc := 108) dX7_takeShots_108 rfl l_RX7_127 rfl ⟨by decide, by decide⟩ rfl (Nat.le_of_ble_eq_true rfl) hl (sH_at (i := 13) (by decide)) rfl (Nat.le_of_ble_eq_true rfl) (s_X4_enter hl _ _ K u31 hK9 L f u18 hL1 hL9 u19 hf1 hf20) sH_22 ?_
      refine q_iinc (nI (k + 1)) [_, _, _, _] (pc := 111) dX7_takeShots_111 rfl (by decide) (ninc 1 rfl) rfl ?_
      refine r_goto 2 (pc := 114) dX7_takeShots_114 (by decide) ?_
      refine r_wk [some _, some _, some _, none] ⟨rfl, ⟨rfl, ⟨rfl, trivial⟩⟩⟩ ?_
      exact ih (k + 1) _ (by omega) (by rw [show K_shots W C (k + 1) = K_shot W (K_shots W C k) by unfold K_shots; rw [itN_s]]; rw [← e_g, eS]) KK
    · refine r_aload_n (pc := 15) dX7_takeShots_15 rfl rfl ?_
      refine cs_get0 (pc := 16) dX7_takeShots_16 rfl f_RX7_21 rfl ?_
      refine r_iconst (v := 4) (pc := 19) dX7_takeShots_19 (by decide) ?_
      refine q_callV (ci := 5) (T := TX6) (N := 1) (vs := [.int _]) (pc := 20) dX7_takeShots_20 rfl l_RX7_104 rfl ⟨by decide, by decide⟩ rfl (Nat.le_of_ble_eq_true rfl) hl (sH_at (i := 4) (by decide)) rfl (Nat.le_of_ble_eq_true rfl) (s_X6_value hl _ 4 rfl (by decide)) sH_22 ?_
      refine r_iconst (v := 1) (pc := 23) dX7_takeShots_23 (by decide) ?_
      refine r_icmp_ne 31 (pc := 24) dX7_takeShots_24 (by decide) (fun c24 => ?_) (fun c24 => ?_)
      · exact r_wkH J15 ⟨rfl, rfl, rfl, trivial⟩ (by first | rw [klook_1 c24] | rw [klook_0 c24])
      · refine r_aload_n (pc := 27) dX7_takeShots_27 rfl rfl ?_
        refine q_callV (ci := 6) (T := TX7) (N := 7) (vs := []) (pc := 28) dX7_takeShots_28 rfl l_RX7_108 rfl ⟨by decide, by decide⟩ rfl (Nat.le_of_ble_eq_true rfl) hl sH_0 rfl (Nat.le_of_ble_eq_true rfl) (s_X7_dropBlades hl n Ka Kb d41 hn d102 hKa d118 hKb) sH_22 ?_
        exact r_wkH J15 ⟨rfl, rfl, rfl, trivial⟩ (by first | rw [klook_1 c24] | rw [klook_0 c24])
theorem s_X7_takeShots {om : OM} {l : Launch} {B : Nat × Nat} {h0 : Hp} {b : Nat} {C : Nat → Int32} {W : Nat → Int64} (hl : l.stackTraces = false) (A : Nat → Int32) (y : Int32) (s : Nat) (hy : y = nI s) (hs : s ≤ 500) (hA : AG C W A) (hw : WF A) (hx : WX A) : Runs om l M_X7_takeShots B 0 (entL 4 [.ref b, .int y]) [] (sH h0 b C W) (Det (none) (sH h0 b (K_shots W C s) W)) := by
  show Runs om l M_X7_takeShots B 0 [some (.ref b), some (.int y), none, none] [] _ _
  refine r_iconst (v := 0) (pc := 0) dX7_takeShots_0 (by decide) ?_
  refine q_istore_n [_, _, _, _] (pc := 1) dX7_takeShots_1 rfl (by decide) rfl ?_
  refine lp_X7_take hl A y s hy hs hA hw hx s 0 _ (by omega) rfl ?_
  exact r_return (S := []) (pc := 117) dX7_takeShots_117 rfl ⟨rfl, rfl⟩
theorem lp_X7_lrn1 {om : OM} {l : Launch} {B : Nat × Nat} {h0 : Hp} {b : Nat} {C : Nat → Int32} {W : Nat → Int64} {Post : Out → Hp → Prop} (hl : l.stackTraces = false) (y : Int32) (kk : Nat) (n D : Nat) (hK : C 41 = nI n) (hn : n ≤ 15) (hD : C 0 = nI D) (hD1 : D ≤ 10000) (hnn : ∀ e, e < n → 0 ≤ C (42 + 4 * e + 1)) : ∀ (n9 k : Nat) (g : Nat → Int32) (v : Nat → Int64), k + n9 = n → g = (itN K_lrb k (C, W)).1 → v = (itN K_lrb k (C, W)).2 → Runs om l M_X7_learnFalseEchoes B 74 [some (.ref b), some (.int y), some (.int (nI kk)), some (.int (nI n)), none] [] (sH h0 b (((itN K_lrb n (C, W)).1)) (((itN K_lrb n (C, W)).2))) Post → Runs om l M_X7_learnFalseEchoes B 13 [some (.ref b), some (.int y), some (.int (nI kk)), some (.int (nI k)), none] [] (sH h0 b g v) Post := by
  intro n9
  induction n9 with
  | zero =>
    intro k g v hk e_g e_v KK
    have hout : ∀ j, j ≠ 647 → g j = C j := fun j hj => by rw [e_g]; exact klrb_n hj k
    have h41g : g 41 = nI n := (hout 41 (by omega)).trans hK
    have hDg : g 0 = nI D := (hout 0 (by omega)).trans hD
    have e9 : k = n := by omega
    refine r_iload_n (pc := 13) dX7_learnFalseEchoes_13 rfl rfl ?_
    refine r_aload_n (pc := 14) dX7_learnFalseEchoes_14 rfl rfl ?_
    refine cs_get0 (pc := 15) dX7_learnFalseEchoes_15 rfl f_RX7_35 rfl ?_
    refine cs_get (i := 8) (pc := 18) dX7_learnFalseEchoes_18 rfl f_RX7_131 (by decide) rfl rfl ?_
    refine r_icmp_ge 74 (pc := 21) dX7_learnFalseEchoes_21 (by decide) (fun c21 => ?_) (fun c21 => absurd (c_get rfl h41g (a := k) (b := n) (by omega) (by omega) (by omega)) c21)
    subst e9
    subst e_g
    subst e_v
    exact KK
  | succ n9 ih =>
    intro k g v hk e_g e_v KK
    have hout : ∀ j, j ≠ 647 → g j = C j := fun j hj => by rw [e_g]; exact klrb_n hj k
    have h41g : g 41 = nI n := (hout 41 (by omega)).trans hK
    have hDg : g 0 = nI D := (hout 0 (by omega)).trans hD
    obtain ⟨x, hx31, hx⟩ := nn_ex (hnn k (by omega))
    have hgx : g (42 + 4 * k + 1) = nI x := (hout _ (by omega)).trans hx
    refine r_iload_n (pc := 13) dX7_learnFalseEchoes_13 rfl rfl ?_
    refine r_aload_n (pc := 14) dX7_learnFalseEchoes_14 rfl rfl ?_
    refine cs_get0 (pc := 15) dX7_learnFalseEchoes_15 rfl f_RX7_35 rfl ?_
    refine cs_get (i := 8) (pc := 18) dX7_learnFalseEchoes_18 rfl f_RX7_131 (by decide) rfl rfl ?_
    refine r_icmp_ge 74 (pc := 21) dX7_learnFalseEchoes_21 (by decide) (fun c21 => absurd c21 (c_gef rfl h41g (a := k) (b := n) (by omega) (by omega) (by omega))) (fun c21 => ?_)
    refine r_aload_n (pc := 24) dX7_learnFalseEchoes_24 rfl rfl ?_
    refine cs_get0 (pc := 25) dX7_learnFalseEchoes_25 rfl f_RX7_35 rfl ?_
    refine r_iload_n (pc := 28) dX7_learnFalseEchoes_28 rfl rfl ?_
    refine q_callV (ci := 2) (T := TX3) (N := 5) (vs := [.int _]) (pc := 29) dX7_learnFalseEchoes_29 rfl l_RX7_124 rfl ⟨by decide, by decide⟩ rfl (Nat.le_of_ble_eq_true rfl) hl (sH_at (i := 8) (by decide)) rfl (Nat.le_of_ble_eq_true rfl) (s_X3_distance hl _ k n rfl h41g (by omega) hn) sH_22 ?_
    refine q_istore [_, _, _, _, _] (pc := 32) dX7_learnFalseEchoes_32 (by decide) rfl ?_
    refine r_aload_n (pc := 34) dX7_learnFalseEchoes_34 rfl rfl ?_
    refine cs_get0 (pc := 35) dX7_learnFalseEchoes_35 rfl f_RX7_35 rfl ?_
    refine r_iload_n (pc := 38) dX7_learnFalseEchoes_38 rfl rfl ?_
    refine q_callV (ci := 2) (T := TX3) (N := 5) (vs := [.int _]) (pc := 39) dX7_learnFalseEchoes_39 rfl l_RX7_134 rfl ⟨by decide, by decide⟩ rfl (Nat.le_of_ble_eq_true rfl) hl (sH_at (i := 8) (by decide)) rfl (Nat.le_of_ble_eq_true rfl) (s_X3_kind hl _ k n rfl h41g (by omega) hn) sH_22 ?_
    refine r_iconst (v := 1) (pc := 42) dX7_learnFalseEchoes_42 (by decide) ?_
    refine r_icmp_gt 68 (pc := 43) dX7_learnFalseEchoes_43 (by decide) (fun c43 => ?_) (fun c43 => ?_)
    · refine q_iinc (nI (k + 1)) [_, _, _, _, _] (pc := 68) dX7_learnFalseEchoes_68 rfl (by decide) (ninc 1 rfl) rfl ?_
      refine r_goto 13 (pc := 71) dX7_learnFalseEchoes_71 (by decide) ?_
      refine r_wk [some _, some _, some _, some _, none] ⟨rfl, ⟨rfl, ⟨rfl, ⟨rfl, trivial⟩⟩⟩⟩ ?_
      exact ih (k + 1) _ _ (by omega) (by rw [itN_s, K_lrb, ← e_g, ← e_v]; first | (rw [if_pos c43]; done) | (rw [if_neg c43, if_pos c55]; done) | (rw [if_neg c43, if_neg c55, cl_nI hgx hx31]; done) | (rw [if_pos c43]; exact e_g) | (rw [if_neg c43, if_pos c55]; exact e_g)) (by rw [itN_s, K_lrb, ← e_g, ← e_v]; first | (rw [if_pos c43]; exact e_v) | (rw [if_neg c43, if_pos c55]; exact e_v) | (rw [if_neg c43, if_neg c55, cl_nI hgx hx31]; done)) KK
    · refine r_iload (pc := 46) dX7_learnFalseEchoes_46 rfl ?_
      refine r_aload_n (pc := 48) dX7_learnFalseEchoes_48 rfl rfl ?_
      refine cs_get0 (pc := 49) dX7_learnFalseEchoes_49 rfl f_RX7_12 rfl ?_
      refine cs_get (i := 1) (pc := 52) dX7_learnFalseEchoes_52 rfl f_RX7_82 (by decide) rfl rfl ?_
      refine r_icmp_gt 68 (pc := 55) dX7_learnFalseEchoes_55 (by decide) (fun c55 => ?_) (fun c55 => ?_)
      · refine q_iinc (nI (k + 1)) [_, _, _, _, _] (pc := 68) dX7_learnFalseEchoes_68 rfl (by decide) (ninc 1 rfl) rfl ?_
        refine r_goto 13 (pc := 71) dX7_learnFalseEchoes_71 (by decide) ?_
        refine r_wk [some _, some _, some _, some _, none] ⟨rfl, ⟨rfl, ⟨rfl, ⟨rfl, trivial⟩⟩⟩⟩ ?_
        exact ih (k + 1) _ _ (by omega) (by rw [itN_s, K_lrb, ← e_g, ← e_v]; first | (rw [if_pos c43]; done) | (rw [if_neg c43, if_pos c55]; done) | (rw [if_neg c43, if_neg c55, cl_nI hgx hx31]; done) | (rw [if_pos c43]; exact e_g) | (rw [if_neg c43, if_pos c55]; exact e_g)) (by rw [itN_s, K_lrb, ← e_g, ← e_v]; first | (rw [if_pos c43]; exact e_v) | (rw [if_neg c43, if_pos c55]; exact e_v) | (rw [if_neg c43, if_neg c55, cl_nI hgx hx31]; done)) KK
      · have hxD : x ≤ D := n_nlt hgx hDg hx31 (by omega) c55
        refine r_aload_n (pc := 58) dX7_learnFalseEchoes_58 rfl rfl ?_
        refine cs_get0 (pc := 59) dX7_learnFalseEchoes_59 rfl f_RX7_28 rfl ?_
        refine r_iload (pc := 62) dX7_learnFalseEchoes_62 rfl ?_
        refine r_iconst (v := 1) (pc := 64) dX7_learnFalseEchoes_64 (by decide) ?_
        refine q_callV (ci := 4) (T := TX5) (N := 2) (vs := [.int _, .int _]) (pc := 65) dX7_learnFalseEchoes_65 rfl l_RX7_137 rfl ⟨by decide, by decide⟩ rfl (Nat.le_of_ble_eq_true rfl) hl (sH_at (i := 6) (by decide)) rfl (Nat.le_of_ble_eq_true rfl) (s_X5_put hl x _ 1 hgx (by omega)) sH_22 ?_
        refine q_iinc (nI (k + 1)) [_, _, _, _, _] (pc := 68) dX7_learnFalseEchoes_68 rfl (by decide) (ninc 1 rfl) rfl ?_
        refine r_goto 13 (pc := 71) dX7_learnFalseEchoes_71 (by decide) ?_
        refine r_wk [some _, some _, some _, some _, none] ⟨rfl, ⟨rfl, ⟨rfl, ⟨rfl, trivial⟩⟩⟩⟩ ?_
        exact ih (k + 1) _ _ (by omega) (by rw [itN_s, K_lrb, ← e_g, ← e_v]; first | (rw [if_pos c43]; done) | (rw [if_neg c43, if_pos c55]; done) | (rw [if_neg c43, if_neg c55, cl_nI hgx hx31]; done) | (rw [if_pos c43]; exact e_g) | (rw [if_neg c43, if_pos c55]; exact e_g)) (by rw [itN_s, K_lrb, ← e_g, ← e_v]; first | (rw [if_pos c43]; exact e_v) | (rw [if_neg c43, if_pos c55]; exact e_v) | (rw [if_neg c43, if_neg c55, cl_nI hgx hx31]; done)) KK
theorem lp_X7_lrn2 {om : OM} {l : Launch} {B : Nat × Nat} {h0 : Hp} {b : Nat} {C : Nat → Int32} {W : Nat → Int64} {Post : Out → Hp → Prop} (hl : l.stackTraces = false) (A : Nat → Int32) (y : Int32) (s : Nat) (hy : y = nI s) (hs : s ≤ 50) (hA : AG C W A) (hw : WF A) (hx : WX A) : ∀ (n9 k : Nat) (g : Nat → Int32) (v : Nat → Int64), k + n9 = s → g = (K_learns C W k).1 → v = (K_learns C W k).2 → Runs om l M_X7_learnFalseEchoes B 80 [some (.ref b), some (.int y), some (.int (nI s)), none, none] [] (sH h0 b (((K_learns C W s).1)) (((K_learns C W s).2))) Post → Runs om l M_X7_learnFalseEchoes B 2 [some (.ref b), some (.int y), some (.int (nI k)), none, none] [] (sH h0 b g v) Post := by
  intro n9
  induction n9 with
  | zero =>
    intro k g v hk e_g e_v KK
    have e9 : k = s := by omega
    refine r_iload_n (pc := 2) dX7_learnFalseEchoes_2 rfl rfl ?_
    refine r_iload_n (pc := 3) dX7_learnFalseEchoes_3 rfl rfl ?_
    refine r_icmp_ge 80 (pc := 4) dX7_learnFalseEchoes_4 (by decide) (fun c4 => ?_) (fun c4 => absurd (c_get rfl hy (a := k) (b := s) (by omega) (by omega) (by omega)) c4)
    subst e9
    subst e_g
    subst e_v
    exact KK
  | succ n9 ih =>
    intro k g v hk e_g e_v KK
    have hAG := AG_learns hA hw hx k
    rw [← e_g, ← e_v] at hAG
    obtain ⟨n, D, K4, K5, jn, Ka, Kb, K, L, f, X1, x, hn, hD1, hK4, hK5, hj20, hKa, hKb, hK9, hL1, hL9, hf1, hf20, g4, g5, g13, f41, f0, fnn, -⟩ := shot_pre hAG.1 (WF_learns hw k) hAG.2
    refine r_iload_n (pc := 2) dX7_learnFalseEchoes_2 rfl rfl ?_
    refine r_iload_n (pc := 3) dX7_learnFalseEchoes_3 rfl rfl ?_
    refine r_icmp_ge 80 (pc := 4) dX7_learnFalseEchoes_4 (by decide) (fun c4 => absurd c4 (c_gef rfl hy (a := k) (b := s) (by omega) (by omega) (by omega))) (fun c4 => ?_)
    refine r_aload_n (pc := 7) dX7_learnFalseEchoes_7 rfl rfl ?_
    refine q_callV (ci := 6) (T := TX7) (N := 7) (vs := []) (pc := 8) dX7_learnFalseEchoes_8 rfl l_RX7_98 rfl ⟨by decide, by decide⟩ rfl (Nat.le_of_ble_eq_true rfl) hl sH_0 rfl (Nat.le_of_ble_eq_true rfl) (s_X7_send hl K4 K5 jn g4 hK4 g5 hK5 g13 hj20) sH_22 ?_
    refine r_iconst (v := 0) (pc := 11) dX7_learnFalseEchoes_11 (by decide) ?_
    refine q_istore_n [_, _, _, _, _] (pc := 12) dX7_learnFalseEchoes_12 rfl (by decide) rfl ?_
    refine lp_X7_lrn1 hl y k n D f41 hn f0 hD1 fnn n 0 _ _ (by omega) rfl rfl ?_
    refine q_iinc (nI (k + 1)) [_, _, _, _, _] (pc := 74) dX7_learnFalseEchoes_74 rfl (by decide) (ninc 1 rfl) rfl ?_
    refine r_goto 2 (pc := 77) dX7_learnFalseEchoes_77 (by decide) ?_
    refine r_wk [some _, some _, some _, none, none] ⟨rfl, ⟨rfl, ⟨rfl, trivial⟩⟩⟩ ?_
    exact ih (k + 1) _ _ (by omega) (by rw [show K_learns C W (k + 1) = K_lr (K_learns C W k) by unfold K_learns; rw [itN_s]]; unfold K_lr; rw [← e_g, ← e_v, cl_nI f41 (by omega)]) (by rw [show K_learns C W (k + 1) = K_lr (K_learns C W k) by unfold K_learns; rw [itN_s]]; unfold K_lr; rw [← e_g, ← e_v, cl_nI f41 (by omega)]) KK
theorem s_X7_learnFalseEchoes {om : OM} {l : Launch} {B : Nat × Nat} {h0 : Hp} {b : Nat} {C : Nat → Int32} {W : Nat → Int64} (hl : l.stackTraces = false) (A : Nat → Int32) (y : Int32) (s : Nat) (hy : y = nI s) (hs : s ≤ 50) (hA : AG C W A) (hw : WF A) (hx : WX A) : Runs om l M_X7_learnFalseEchoes B 0 (entL 5 [.ref b, .int y]) [] (sH h0 b C W) (Det (none) (sH h0 b ((K_learns C W s).1) ((K_learns C W s).2))) := by
  show Runs om l M_X7_learnFalseEchoes B 0 [some (.ref b), some (.int y), none, none, none] [] _ _
  refine r_iconst (v := 0) (pc := 0) dX7_learnFalseEchoes_0 (by decide) ?_
  refine q_istore_n [_, _, _, _, _] (pc := 1) dX7_learnFalseEchoes_1 rfl (by decide) rfl ?_
  refine lp_X7_lrn2 hl A y s hy hs hA hw hx s 0 _ _ (by omega) rfl rfl ?_
  exact r_return (S := []) (pc := 80) dX7_learnFalseEchoes_80 rfl ⟨rfl, rfl⟩
