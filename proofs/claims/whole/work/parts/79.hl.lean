/-! the law's round: isMasked; what is called without a catch -/
section LCD
variable {om : OM} {l : Launch} {Post : Out → Hp → Prop} {B : Nat × Nat} {g : Hp} {k : GS} {r : RS} {w : Nat → Int64}
theorem op_isMasked01 {C T : Nat → Int32} {W U : Nat → Int64} {S : Nat → Nat → Int32} {V : Nat → Nat → Int64} {ns cnt ln po : Int32} {wd : Value} {t nu : Nat → Int32} {I A a v n : Nat → Int32} {J : Nat → Int64} (hl : l.stackTraces = false) (G : GAp (C, W, T, U, S, V, ns, cnt, ln, po, wd, t, nu) (I, J, A, a, v, t, n)) (x : Int32) :
    ∃ Q : Nat → Int32 → GS → Prop,
    (∀ (g : Hp) (B : Nat × Nat), 1 ≤ B.1 ∧ 6 ≤ B.2 → Runs om l M_X10_isMasked B 0 (entL (mi_ml M_X10_isMasked) (.ref 0 :: [.int x])) [] (EHp g (C, W, T, U, S, V, ns, cnt, ln, po, wd, t, nu) (I, J, A, a, v, t, n)) (CPo [1] exI g (C, W, T, U, S, V, ns, cnt, ln, po, wd, t, nu) (I, J, A, a, v, t, n) Q)) ∧
    (∀ (c : Nat) (x1 : Int32) (k' : GS), Q c x1 k' → ∀ (g : Hp) (B : Nat × Nat), Runs om l M_X11_isMasked B 0 (entL (mi_ml M_X11_isMasked) (.ref 119 :: [.int x])) [] (EHp g k' (I, J, A, a, v, t, n)) (fun o h2 => ∃ (y : Int32) (r' : RS), o = .inl (some (.int y)) ∧ h2 = EHp g k' r' ∧ GAp k' r' ∧ r'.1 0 = nI c ∧ (c = 0 → x1 = y))) ∧ ∀ (x1 : Int32) (k' : GS), Q 0 x1 k' → x1 = 0 ∨ x1 = 1 := by
  have gA : AG C W A := G.1
  by_cases h : R_in x 0 10000 = 0
  · refine ⟨fun c1 x1 k1 => c1 = 1 ∧ k1 = (C, W, T, U, S, V, ns, cnt, ln, po, wd, t, nu), fun g B hB => ?_, fun c1 x1 k1 q g B => ?_, fun x1 k' q => absurd q.1 (by decide)⟩
    · exact r_mono (s_X10_isMasked_no hl hB EH_0 x h) (fun o h1 z => Or.inr ⟨1, by decide, z.1, z.2, rfl, rfl⟩)
    · obtain ⟨rfl, rfl⟩ := q
      exact r_mono (ref_on (fun Y => s_X11_isMasked_no hl x h)) (fun o h2 z => ⟨0, (upd I 0 1, J, A, a, v, t, n), z.1, z.2, GA_I G rfl rfl, rfl, fun e => absurd e (by decide)⟩)
  · obtain ⟨k, hx, -, hk⟩ := in_ex (a := 0) (b := 10000) (in1 h) rfl rfl (by omega) (by omega)
    refine ⟨fun c1 x1 k1 => c1 = 0 ∧ x1 = K_bin W (k / 20) ∧ k1 = (C, W, T, U, S, V, ns, cnt, ln, po, wd, t, nu), fun g B hB => ?_, fun c1 x1 k1 q g B => ?_, fun x1 k' q => by rw [q.2.1]; exact bin01 _ _⟩
    · exact r_mono (s_X10_isMasked_yes hl EH_0 x (in1 h) k hx hk) (fun o h1 z => Or.inl ⟨_, _, z.1, z.2, rfl, rfl, rfl⟩)
    · obtain ⟨rfl, rfl, rfl⟩ := q
      exact r_mono (ref_on (fun Y => s_X11_isMasked_yes hl x (in1 h) k hx hk)) (fun o h2 z => ⟨_, (upd I 0 0, J, A, a, v, t, n), z.1, z.2, GA_I G rfl rfl, rfl, fun _ => isM_ag gA.2.1 hk⟩)
theorem lc_isMasked (hl : l.stackTraces = false) (i : Nat) (hi : i + 6 ≤ om_L om) (hL : om_L om ≤ 3072) (hB : 1 ≤ B.1 ∧ 6 ≤ B.2) (KK : LawK om l Post i B) (G : GAp k r) (hg : g.1 125 = LA w) (hf : g.2.2 = false) : Runs om l M_L_law B 1089 [some (.ref 100000), some (.ref 0), some (.ref 119), some (.ref 125), some (.int (nI i)), none, none, none, none] [] (EHp g k r) Post := by
  refine r_aload_n (pc := 1089) dL_law_1089 rfl rfl ?_
  refine r_aload_n (pc := 1090) dL_law_1090 rfl rfl ?_
  refine r_iload (pc := 1091) dL_law_1091 rfl ?_
  refine r_iconst (v := nI 1) (pc := 1093) dL_law_1093 (by decide) ?_
  refine r_iadd (pc := 1094) dL_law_1094 ?_
  refine r_taload (n := om_L om) (pc := 1095) dL_law_1095 law_a (vin_n (k := i + 1) (nadd rfl rfl) (by omega) (by omega)) ?_
  rw [cl_n (k := i + 1) (n := om_L om) (nadd (x := i) (y := 1) rfl rfl) (by omega) (by omega)]
  refine r_aload_n (pc := 1096) dL_law_1096 rfl rfl ?_
  obtain ⟨C, W, T, U, S, V, ns, cnt, ln, po, wd, t, nu⟩ := k
  obtain ⟨I, J, A, a, v, x0, n⟩ := r
  have ht : t = x0 := G.2.2.2.2
  subst ht
  obtain ⟨Q, q1, q2, h01q⟩ := op_isMasked01 hl G (om_xs om (i + 1))
  refine r_callSH (vs := [.ref 0, .int _, .ref 125]) (pc := 1097) 1 6 dL_law_1097 rfl l_RL_158 rfl ⟨by decide, by decide⟩ rfl (Nat.le_of_ble_eq_true rfl) hl hB.1 hB.2 (Nat.le_of_ble_eq_true rfl) (w_isMasked hl (om_xs om (i + 1)) q1 hg hf ⟨Nat.le_refl _, Nat.le_refl _⟩ h01q) (fun E h1 z => by obtain ⟨c, x, k', w', z, -⟩ := z; cases z) (fun o h1 z hc => by obtain ⟨c, x, k', w', -, -, rfl, -, -⟩ := z; rw [EHp_2, hsf hf] at hc; cases hc) (fun o h1 z => ?_)
  obtain ⟨c, x, k', w', z, hc2, rfl, hq, hw⟩ := z
  cases z
  refine q_istore [_, _, _, _, _, _, _, _, _] (pc := 1100) dL_law_1100 (by decide) rfl ?_
  refine r_aload_n (pc := 1102) dL_law_1102 rfl rfl ?_
  refine r_aload_n (pc := 1103) dL_law_1103 rfl rfl ?_
  refine r_iload (pc := 1104) dL_law_1104 rfl ?_
  refine r_iconst (v := nI 1) (pc := 1106) dL_law_1106 (by decide) ?_
  refine r_iadd (pc := 1107) dL_law_1107 ?_
  refine r_taload (n := om_L om) (pc := 1108) dL_law_1108 law_a (vin_n (k := i + 1) (nadd rfl rfl) (by omega) (by omega)) ?_
  rw [cl_n (k := i + 1) (n := om_L om) (nadd (x := i) (y := 1) rfl rfl) (by omega) (by omega)]
  refine r_callV (vs := [.int _]) (pc := 1109) 0 0 (ci := 9) (T := TX11) (N := 11) dL_law_1109 rfl l_RL_160 rfl ⟨by decide, by decide⟩ rfl (Nat.le_of_ble_eq_true rfl) hl EHp_119 rfl (Nat.zero_le _) (Nat.zero_le _) (Nat.le_of_ble_eq_true rfl) (q2 c x k' hq _ _) (fun E h1 z => by obtain ⟨y, r', z, -⟩ := z; cases z) (fun o h1 z hc => by obtain ⟨y, r', -, rfl, -⟩ := z; rw [EHp_2, hsf hf] at hc; cases hc) (fun o h1 z => ?_)
  obtain ⟨y, r', z, rfl, G', h0', hxy⟩ := z
  cases z
  refine q_istore [_, _, _, _, _, _, _, _, _] (pc := 1112) dL_law_1112 (by decide) rfl ?_
  refine r_aload_n (pc := 1114) dL_law_1114 rfl rfl ?_
  refine q_callV (ci := 9) (T := TX11) (N := 11) (vs := []) (pc := 1115) dL_law_1115 rfl l_RL_109 rfl ⟨by decide, by decide⟩ rfl (Nat.le_of_ble_eq_true rfl) hl EHp_119 rfl (Nat.le_of_ble_eq_true rfl) s_thr rfl ?_
  rw [h0']
  refine r_iload (pc := 1118) dL_law_1118 rfl ?_
  refine r_icmp_eq 1125 (pc := 1120) dL_law_1120 (by decide) (fun _ => ?_) (fun z => absurd rfl z)
  refine r_iload (pc := 1125) dL_law_1125 rfl ?_
  refine r_if_ne 1149 (pc := 1127) dL_law_1127 (by decide) (fun _ => ?_) (fun hz => ?_)
  · refine r_goto 1849 (pc := 1149) dL_law_1149 (by decide) ?_
    refine r_wk [some _, some _, some _, some _, some _, none, none, none, none] ⟨rfl, rfl, rfl, rfl, rfl, trivial⟩ ?_
    exact KK _ ⟨Nat.le_refl _, Nat.le_refl _⟩ _ _ _ w' G' hs_same (hsf hf)
  · have c0 : c = 0 := nI_injL (b := 0) (by omega) (by omega) hz
    subst c0
    have exy : x = y := hxy rfl
    subst exy
    refine r_aload_n (pc := 1130) dL_law_1130 rfl rfl ?_
    refine r_iconst (v := 0) (pc := 1131) dL_law_1131 rfl ?_
    refine r_laload (n := 1) (f := w') (pc := 1132) dL_law_1132 ((EHp_out (by omega)).trans hs_same) (vin_n (k := 0) rfl (by decide) (by decide)) ?_
    rw [show Int32.toNatClampNeg 0 = 0 from by decide, hw rfl]
    refine r_iload (pc := 1133) dL_law_1133 rfl ?_
    refine r_if_eq 1142 (pc := 1135) dL_law_1135 (by decide) (fun hx0 => ?_) (fun hx0 => ?_)
    · refine r_lconst (v := 0) (pc := 1142) dL_law_1142 rfl ?_
      refine r_lcmp (pc := 1143) dL_law_1143 ?_
      refine r_if_eq 1149 (pc := 1144) dL_law_1144 (by decide) (fun _ => ?_) (fun z => absurd (cmp_eq.mpr (by rw [hx0]; rfl)) z)
      refine r_goto 1849 (pc := 1149) dL_law_1149 (by decide) ?_
      refine r_wk [some _, some _, some _, some _, some _, none, none, none, none] ⟨rfl, rfl, rfl, rfl, rfl, trivial⟩ ?_
      exact KK _ ⟨Nat.le_refl _, Nat.le_refl _⟩ _ _ _ w' G' hs_same (hsf hf)
    · refine r_lconst (v := 1) (pc := 1138) dL_law_1138 rfl ?_
      refine r_goto 1143 (pc := 1139) dL_law_1139 (by decide) ?_
      refine r_lcmp (pc := 1143) dL_law_1143 ?_
      refine r_if_eq 1149 (pc := 1144) dL_law_1144 (by decide) (fun _ => ?_) (fun z => absurd (cmp_eq.mpr (by rw [(h01q _ _ hq).resolve_left hx0]; rfl)) z)
      refine r_goto 1849 (pc := 1149) dL_law_1149 (by decide) ?_
      refine r_wk [some _, some _, some _, some _, some _, none, none, none, none] ⟨rfl, rfl, rfl, rfl, rfl, trivial⟩ ?_
      exact KK _ ⟨Nat.le_refl _, Nat.le_refl _⟩ _ _ _ w' G' hs_same (hsf hf)
theorem lc_forget (hl : l.stackTraces = false) (i : Nat) (hi : i + 6 ≤ om_L om) (hL : om_L om ≤ 3072) (hB : 1 ≤ B.1 ∧ 6 ≤ B.2) (KK : LawK om l Post i B) (G : GAp k r) (hg : g.1 125 = LA w) (hf : g.2.2 = false) : Runs om l M_L_law B 896 [some (.ref 100000), some (.ref 0), some (.ref 119), some (.ref 125), some (.int (nI i)), none, none, none, none] [] (EHp g k r) Post := by
  obtain ⟨C, W, T, U, S, V, ns, cnt, ln, po, wd, t, nu⟩ := k
  obtain ⟨I, J, A, a, v, x0, n⟩ := r
  have ht : t = x0 := G.2.2.2.2
  subst ht
  obtain ⟨Q, q1, q2⟩ := op_forget hl G
  have q3 : ∀ (g : Hp) (B : Nat × Nat), 1 ≤ B.1 ∧ 6 ≤ B.2 → Runs om l M_X10_forget B 0 (entL (mi_ml M_X10_forget) (.ref 0 :: [])) [] (EHp g (C, W, T, U, S, V, ns, cnt, ln, po, wd, t, nu) (I, J, A, a, v, t, n)) (CPo [] exI g (C, W, T, U, S, V, ns, cnt, ln, po, wd, t, nu) (I, J, A, a, v, t, n) Q) := q1
  refine r_aload_n (pc := 896) dL_law_896 rfl rfl ?_
  obtain ⟨ns0, cnt0, hh0⟩ := EHp_0 (g := g) (k := (C, W, T, U, S, V, ns, cnt, ln, po, wd, t, nu)) (r := (I, J, A, a, v, t, n))
  refine r_callV (vs := []) (pc := 897) 1 6 (ci := 8) (T := TX10) (N := 6) dL_law_897 rfl l_RL_145 rfl ⟨by decide, by decide⟩ rfl (Nat.le_of_ble_eq_true rfl) hl hh0 rfl hB.1 hB.2 (Nat.le_of_ble_eq_true rfl) (q3 g (1, 6) ⟨Nat.le_refl _, Nat.le_refl _⟩) (fun E h1 z => ?_) (fun o h1 z hc => ?_) (fun o h1 z => ?_)
  · rcases z with ⟨x, k', z, -, -⟩ | ⟨c, hc, -, -, -⟩
    · cases z
    · exact absurd hc List.not_mem_nil
  · rcases z with ⟨x, k', -, rfl, -⟩ | ⟨c, hc, -, -, -⟩
    · rw [EHp_2, hf] at hc; cases hc
    · exact absurd hc List.not_mem_nil
  · rcases z with ⟨x, k', z, rfl, hq⟩ | ⟨c, hc, -, -, -⟩
    · cases z
      refine r_aload_n (pc := 900) dL_law_900 rfl rfl ?_
      refine r_callV (vs := []) (pc := 901) 0 0 (ci := 9) (T := TX11) (N := 11) dL_law_901 rfl l_RL_148 rfl ⟨by decide, by decide⟩ rfl (Nat.le_of_ble_eq_true rfl) hl EHp_119 rfl (Nat.zero_le _) (Nat.zero_le _) (Nat.le_of_ble_eq_true rfl) (q2 0 x k' hq _ _) (fun E h1 z => by obtain ⟨y, r', z, -⟩ := z; cases z) (fun o h1 z hc => by obtain ⟨y, r', -, rfl, -⟩ := z; rw [EHp_2, hf] at hc; cases hc) (fun o h1 z => ?_)
      obtain ⟨y, r', z, rfl, G', h0', hxy⟩ := z
      cases z
      have exy : x = y := hxy rfl
      subst exy
      refine r_icmp_eq 1849 (pc := 904) dL_law_904 (by decide) (fun _ => ?_) (fun z => absurd rfl z)
      exact KK _ ⟨Nat.le_refl _, Nat.le_refl _⟩ _ _ _ w G' hg hf
    · exact absurd hc List.not_mem_nil
theorem lc_clearCommands (hl : l.stackTraces = false) (i : Nat) (hi : i + 6 ≤ om_L om) (hL : om_L om ≤ 3072) (hB : 1 ≤ B.1 ∧ 6 ≤ B.2) (KK : LawK om l Post i B) (G : GAp k r) (hg : g.1 125 = LA w) (hf : g.2.2 = false) : Runs om l M_L_law B 1765 [some (.ref 100000), some (.ref 0), some (.ref 119), some (.ref 125), some (.int (nI i)), none, none, none, none] [] (EHp g k r) Post := by
  obtain ⟨C, W, T, U, S, V, ns, cnt, ln, po, wd, t, nu⟩ := k
  obtain ⟨I, J, A, a, v, x0, n⟩ := r
  have ht : t = x0 := G.2.2.2.2
  subst ht
  obtain ⟨Q, q1, q2⟩ := op_clearCommands hl G (ex := exI)
  have q3 : ∀ (g : Hp) (B : Nat × Nat), 1 ≤ B.1 ∧ 6 ≤ B.2 → Runs om l M_X10_clearCommands B 0 (entL (mi_ml M_X10_clearCommands) (.ref 0 :: [])) [] (EHp g (C, W, T, U, S, V, ns, cnt, ln, po, wd, t, nu) (I, J, A, a, v, t, n)) (CPo [] exI g (C, W, T, U, S, V, ns, cnt, ln, po, wd, t, nu) (I, J, A, a, v, t, n) Q) := q1
  refine r_aload_n (pc := 1765) dL_law_1765 rfl rfl ?_
  obtain ⟨ns0, cnt0, hh0⟩ := EHp_0 (g := g) (k := (C, W, T, U, S, V, ns, cnt, ln, po, wd, t, nu)) (r := (I, J, A, a, v, t, n))
  refine r_callV (vs := []) (pc := 1766) 1 6 (ci := 8) (T := TX10) (N := 6) dL_law_1766 rfl l_RL_196 rfl ⟨by decide, by decide⟩ rfl (Nat.le_of_ble_eq_true rfl) hl hh0 rfl hB.1 hB.2 (Nat.le_of_ble_eq_true rfl) (q3 g (1, 6) ⟨Nat.le_refl _, Nat.le_refl _⟩) (fun E h1 z => ?_) (fun o h1 z hc => ?_) (fun o h1 z => ?_)
  · rcases z with ⟨x, k', z, -, -⟩ | ⟨c, hc, -, -, -⟩
    · cases z
    · exact absurd hc List.not_mem_nil
  · rcases z with ⟨x, k', -, rfl, -⟩ | ⟨c, hc, -, -, -⟩
    · rw [EHp_2, hf] at hc; cases hc
    · exact absurd hc List.not_mem_nil
  · rcases z with ⟨x, k', z, rfl, hq⟩ | ⟨c, hc, -, -, -⟩
    · cases z
      refine r_aload_n (pc := 1769) dL_law_1769 rfl rfl ?_
      refine r_callV (vs := []) (pc := 1770) 0 0 (ci := 9) (T := TX11) (N := 11) dL_law_1770 rfl l_RL_199 rfl ⟨by decide, by decide⟩ rfl (Nat.le_of_ble_eq_true rfl) hl EHp_119 rfl (Nat.zero_le _) (Nat.zero_le _) (Nat.le_of_ble_eq_true rfl) (q2 0 x k' hq _ _) (fun E h1 z => by obtain ⟨y, r', z, -⟩ := z; cases z) (fun o h1 z hc => by obtain ⟨y, r', -, rfl, -⟩ := z; rw [EHp_2, hf] at hc; cases hc) (fun o h1 z => ?_)
      obtain ⟨y, r', z, rfl, G', h0', hxy⟩ := z
      cases z
      have exy : x = y := hxy rfl
      subst exy
      refine r_icmp_eq 1849 (pc := 1773) dL_law_1773 (by decide) (fun _ => ?_) (fun z => absurd rfl z)
      exact KK _ ⟨Nat.le_refl _, Nat.le_refl _⟩ _ _ _ w G' hg hf
    · exact absurd hc List.not_mem_nil
theorem lc_runCommands (hl : l.stackTraces = false) (i : Nat) (hi : i + 6 ≤ om_L om) (hL : om_L om ≤ 3072) (hB : 1 ≤ B.1 ∧ 6 ≤ B.2) (KK : LawK om l Post i B) (G : GAp k r) (hg : g.1 125 = LA w) (hf : g.2.2 = false) : Runs om l M_L_law B 1778 [some (.ref 100000), some (.ref 0), some (.ref 119), some (.ref 125), some (.int (nI i)), none, none, none, none] [] (EHp g k r) Post := by
  obtain ⟨C, W, T, U, S, V, ns, cnt, ln, po, wd, t, nu⟩ := k
  obtain ⟨I, J, A, a, v, x0, n⟩ := r
  have ht : t = x0 := G.2.2.2.2
  subst ht
  obtain ⟨Q, q1, q2⟩ := op_runCommands hl G (ex := exI)
  have q3 : ∀ (g : Hp) (B : Nat × Nat), 1 ≤ B.1 ∧ 6 ≤ B.2 → Runs om l M_X10_runCommands B 0 (entL (mi_ml M_X10_runCommands) (.ref 0 :: [])) [] (EHp g (C, W, T, U, S, V, ns, cnt, ln, po, wd, t, nu) (I, J, A, a, v, t, n)) (CPo [] exI g (C, W, T, U, S, V, ns, cnt, ln, po, wd, t, nu) (I, J, A, a, v, t, n) Q) := q1
  refine r_aload_n (pc := 1778) dL_law_1778 rfl rfl ?_
  obtain ⟨ns0, cnt0, hh0⟩ := EHp_0 (g := g) (k := (C, W, T, U, S, V, ns, cnt, ln, po, wd, t, nu)) (r := (I, J, A, a, v, t, n))
  refine r_callV (vs := []) (pc := 1779) 1 6 (ci := 8) (T := TX10) (N := 6) dL_law_1779 rfl l_RL_200 rfl ⟨by decide, by decide⟩ rfl (Nat.le_of_ble_eq_true rfl) hl hh0 rfl hB.1 hB.2 (Nat.le_of_ble_eq_true rfl) (q3 g (1, 6) ⟨Nat.le_refl _, Nat.le_refl _⟩) (fun E h1 z => ?_) (fun o h1 z hc => ?_) (fun o h1 z => ?_)
  · rcases z with ⟨x, k', z, -, -⟩ | ⟨c, hc, -, -, -⟩
    · cases z
    · exact absurd hc List.not_mem_nil
  · rcases z with ⟨x, k', -, rfl, -⟩ | ⟨c, hc, -, -, -⟩
    · rw [EHp_2, hf] at hc; cases hc
    · exact absurd hc List.not_mem_nil
  · rcases z with ⟨x, k', z, rfl, hq⟩ | ⟨c, hc, -, -, -⟩
    · cases z
      refine r_aload_n (pc := 1782) dL_law_1782 rfl rfl ?_
      refine r_callV (vs := []) (pc := 1783) 0 0 (ci := 9) (T := TX11) (N := 11) dL_law_1783 rfl l_RL_203 rfl ⟨by decide, by decide⟩ rfl (Nat.le_of_ble_eq_true rfl) hl EHp_119 rfl (Nat.zero_le _) (Nat.zero_le _) (Nat.le_of_ble_eq_true rfl) (q2 0 x k' hq _ _) (fun E h1 z => by obtain ⟨y, r', z, -⟩ := z; cases z) (fun o h1 z hc => by obtain ⟨y, r', -, rfl, -⟩ := z; rw [EHp_2, hf] at hc; cases hc) (fun o h1 z => ?_)
      obtain ⟨y, r', z, rfl, G', h0', hxy⟩ := z
      cases z
      have exy : x = y := hxy rfl
      subst exy
      refine r_icmp_eq 1849 (pc := 1786) dL_law_1786 (by decide) (fun _ => ?_) (fun z => absurd rfl z)
      exact KK _ ⟨Nat.le_refl _, Nat.le_refl _⟩ _ _ _ w G' hg hf
    · exact absurd hc List.not_mem_nil
theorem lc_digest (hl : l.stackTraces = false) (i : Nat) (hi : i + 6 ≤ om_L om) (hL : om_L om ≤ 3072) (hB : 1 ≤ B.1 ∧ 6 ≤ B.2) (KK : LawK om l Post i B) (G : GAp k r) (hg : g.1 125 = LA w) (hf : g.2.2 = false) : Runs om l M_L_law B 1835 [some (.ref 100000), some (.ref 0), some (.ref 119), some (.ref 125), some (.int (nI i)), none, none, none, none] [] (EHp g k r) Post := by
  obtain ⟨C, W, T, U, S, V, ns, cnt, ln, po, wd, t, nu⟩ := k
  obtain ⟨I, J, A, a, v, x0, n⟩ := r
  have ht : t = x0 := G.2.2.2.2
  subst ht
  obtain ⟨x, r', G', q1, q2⟩ := op_digest hl G
  obtain ⟨ns0, cnt0, hh0⟩ := EHp_0 (g := g) (k := (C, W, T, U, S, V, ns, cnt, ln, po, wd, t, nu)) (r := (I, J, A, a, v, t, n))
  refine r_aload_n (pc := 1835) dL_law_1835 rfl rfl ?_
  refine q_callV (ci := 8) (T := TX10) (N := 6) (vs := []) (pc := 1836) dL_law_1836 rfl l_RL_208 rfl ⟨by decide, by decide⟩ rfl (Nat.le_of_ble_eq_true rfl) hl hh0 rfl (Nat.le_of_ble_eq_true rfl) (q1 g _) rfl ?_
  refine r_aload_n (pc := 1839) dL_law_1839 rfl rfl ?_
  refine q_callV (ci := 9) (T := TX11) (N := 11) (vs := []) (pc := 1840) dL_law_1840 rfl l_RL_212 rfl ⟨by decide, by decide⟩ rfl (Nat.le_of_ble_eq_true rfl) hl EHp_119 rfl (Nat.le_of_ble_eq_true rfl) (q2 g _) (EHp_2.trans EHp_2.symm) ?_
  refine r_lcmp (pc := 1843) dL_law_1843 ?_
  refine r_if_eq 1849 (pc := 1844) dL_law_1844 (by decide) (fun _ => ?_) (fun z => absurd (cmp_eq.mpr rfl) z)
  exact KK _ ⟨Nat.sub_le _ _, Nat.sub_le _ _⟩ _ _ _ w G' hg hf
theorem lc_meanPick (hl : l.stackTraces = false) (hN : NNq) (i : Nat) (hi : i + 6 ≤ om_L om) (hL : om_L om ≤ 3072) (hB : 1 ≤ B.1 ∧ 6 ≤ B.2) (KK : LawK om l Post i B) (G : GAp k r) (hg : g.1 125 = LA w) (hf : g.2.2 = false) : Runs om l M_L_law B 1500 [some (.ref 100000), some (.ref 0), some (.ref 119), some (.ref 125), some (.int (nI i)), none, none, none, none] [] (EHp g k r) Post := by
  obtain ⟨C, W, T, U, S, V, ns, cnt, ln, po, wd, t, nu⟩ := k
  obtain ⟨I, J, A, a, v, x0, n⟩ := r
  have ht : t = x0 := G.2.2.2.2
  subst ht
  obtain ⟨x, r', -, G', q1, q2⟩ := op_meanPick hl hN G
  obtain ⟨ns0, cnt0, hh0⟩ := EHp_0 (g := g) (k := (C, W, T, U, S, V, ns, cnt, ln, po, wd, t, nu)) (r := (I, J, A, a, v, t, n))
  refine r_aload_n (pc := 1500) dL_law_1500 rfl rfl ?_
  refine q_callV (ci := 8) (T := TX10) (N := 6) (vs := []) (pc := 1501) dL_law_1501 rfl l_RL_179 rfl ⟨by decide, by decide⟩ rfl (Nat.le_of_ble_eq_true rfl) hl hh0 rfl (Nat.le_of_ble_eq_true rfl) (q1 g _) rfl ?_
  refine q_dstore [_, _, _, _, _, _, _, _, _] (pc := 1504) dL_law_1504 (by decide) rfl ?_
  refine r_aload_n (pc := 1506) dL_law_1506 rfl rfl ?_
  refine q_callV (ci := 9) (T := TX11) (N := 11) (vs := []) (pc := 1507) dL_law_1507 rfl l_RL_183 rfl ⟨by decide, by decide⟩ rfl (Nat.le_of_ble_eq_true rfl) hl EHp_119 rfl (Nat.le_of_ble_eq_true rfl) (q2 g _) (EHp_2.trans EHp_2.symm) ?_
  refine q_dstore [_, _, _, _, _, _, _, _, _] (pc := 1510) dL_law_1510 (by decide) rfl ?_
  refine r_dload (pc := 1512) dL_law_1512 rfl ?_
  refine r_dload (pc := 1514) dL_law_1514 rfl ?_
  refine r_dcmp (pc := 1516) dL_law_1516 ?_
  have fin : Runs om l M_L_law B 1538 [some (.ref 100000), some (.ref 0), some (.ref 119), some (.ref 125), some (.int (nI i)), some (.double x), none, some (.double x), none] [] (EHp g (C, W, T, U, S, V, ns, cnt, ln, po, wd, t, nu) r') Post := by
    refine r_goto 1849 (pc := 1538) dL_law_1538 (by decide) ?_
    refine r_wk [some _, some _, some _, some _, some _, none, none, none, none] ⟨rfl, rfl, rfl, rfl, rfl, trivial⟩ ?_
    exact KK _ ⟨Nat.sub_le _ _, Nat.sub_le _ _⟩ _ _ _ w G' hg hf
  refine r_if_eq 1538 (pc := 1517) dL_law_1517 (by decide) (fun _ => fin) (fun z => ?_)
  refine r_dload (pc := 1520) dL_law_1520 rfl ?_
  refine r_dload (pc := 1522) dL_law_1522 rfl ?_
  refine r_dcmp (pc := 1524) dL_law_1524 ?_
  refine r_if_eq 1536 (pc := 1525) dL_law_1525 (by decide) (fun z2 => absurd z2 z) (fun _ => ?_)
  refine r_dload (pc := 1528) dL_law_1528 rfl ?_
  refine r_dload (pc := 1530) dL_law_1530 rfl ?_
  refine r_dcmp (pc := 1532) dL_law_1532 ?_
  exact r_if_ne 1538 (pc := 1533) dL_law_1533 (by decide) (fun _ => fin) (fun z2 => absurd z2 z)
end LCD
