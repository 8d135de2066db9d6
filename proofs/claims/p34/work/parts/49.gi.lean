/-! EchoGauge's own methods: what is asked, what is set -/
abbrev gf (ns cnt : Int32) : List Value := [.ref 1, .ref 20, .ref 39, .int ns, .int cnt, .ref 40]
theorem s_X10_begin_yes {om : OM} {l : Launch} {B : Nat × Nat} {R : Hp} {C : Nat → Int32} {W : Nat → Int64} {ns cnt : Int32} (hl : l.stackTraces = false) (hg : R.1 0 = .inr (8, gf ns cnt)) (d : Int32) (h : R_in d 500 10000 = 1) {R' : Hp} {ns' cnt' : Int32} (hg' : R'.1 0 = .inr (8, gf ns' cnt')) (hR : R'.2 = R.2) (hsv : ∀ B : Nat × Nat, Runs om l M_X10_save B 0 (entL 1 [.ref 0]) [] (sH R 1 C W) (Det none (sH R' 1 C W)))  : Runs om l M_X10_begin B 0 (entL 3 [.ref 0, .int d]) [] (sH R 1 C W) (Det (some (.int (C 24))) (sH R' 1 (K_start C d) (K_zero W 8))) := by
  show Runs om l M_X10_begin B 0 [some (.ref 0), some (.int d), none] [] _ _
  refine r_iload_n (pc := 0) dX10_begin_0 rfl rfl ?_
  refine q_callS (vs := [.int _]) (pc := 1) dX10_begin_1 rfl l_RX10_37 rfl ⟨by decide, by decide⟩ rfl (Nat.le_of_ble_eq_true rfl) hl (Nat.le_of_ble_eq_true rfl) (s_X8_allowsDepth _) sH_22 ?_
  refine r_if_ne 17 (pc := 4) dX10_begin_4 (by decide) (fun c4 => ?_) (fun c4 => absurd c4 (c_eqf h rfl (a := 1) (b := 0) (by omega) (by omega) (by omega)))
  refine r_aload_n (pc := 17) dX10_begin_17 rfl rfl ?_
  refine q_callV (ci := 8) (T := TX10) (N := 6) (vs := []) (pc := 18) dX10_begin_18 rfl l_RX10_50 rfl ⟨by decide, by decide⟩ rfl (Nat.le_of_ble_eq_true rfl) hl ((sH_out (Or.inl (by decide))).trans hg) rfl (Nat.le_of_ble_eq_true rfl) (hsv _) hR ?_
  refine r_aload_n (pc := 21) dX10_begin_21 rfl rfl ?_
  refine r_getfield (pc := 22) dX10_begin_22 rfl f_RX10_12 ((sH_out (Or.inl (by decide))).trans hg') rfl ?_
  refine cs_get0 (pc := 25) dX10_begin_25 rfl f_RX10_53 rfl ?_
  refine cs_get (i := 13) (pc := 28) dX10_begin_28 rfl f_RX10_57 (by decide) rfl rfl ?_
  refine q_istore_n [_, _, _] (pc := 31) dX10_begin_31 rfl (by decide) rfl ?_
  refine r_aload_n (pc := 32) dX10_begin_32 rfl rfl ?_
  refine r_getfield (pc := 33) dX10_begin_33 rfl f_RX10_12 ((sH_out (Or.inl (by decide))).trans hg') rfl ?_
  refine r_iload_n (pc := 36) dX10_begin_36 rfl rfl ?_
  refine q_callV (ci := 6) (T := TX7) (N := 7) (vs := [.int _]) (pc := 37) dX10_begin_37 rfl l_RX10_62 rfl ⟨by decide, by decide⟩ rfl (Nat.le_of_ble_eq_true rfl) hl sH_0 rfl (Nat.le_of_ble_eq_true rfl) (s_X7_startAgain hl _) sH_22 ?_
  refine r_iload_n (pc := 40) dX10_begin_40 rfl rfl ?_
  exact r_ireturn (S := []) (pc := 41) dX10_begin_41 rfl rfl ⟨rfl, rfl⟩
theorem s_X10_setLevel_yes {om : OM} {l : Launch} {B : Nat × Nat} {R : Hp} {C : Nat → Int32} {W : Nat → Int64} {ns cnt : Int32} (hl : l.stackTraces = false) (hg : R.1 0 = .inr (8, gf ns cnt)) (d : Int32) (h : R_in d 0 (C 0) = 1) {R' : Hp} {ns' cnt' : Int32} (hg' : R'.1 0 = .inr (8, gf ns' cnt')) (hR : R'.2 = R.2) (hsv : ∀ B : Nat × Nat, Runs om l M_X10_save B 0 (entL 1 [.ref 0]) [] (sH R 1 C W) (Det none (sH R' 1 C W)))  : Runs om l M_X10_setLevel B 0 (entL 3 [.ref 0, .int d]) [] (sH R 1 C W) (Det (some (.int (C 1))) (sH R' 1 (upd C 1 d) W)) := by
  show Runs om l M_X10_setLevel B 0 [some (.ref 0), some (.int d), none] [] _ _
  refine r_aload_n (pc := 0) dX10_setLevel_0 rfl rfl ?_
  refine r_getfield (pc := 1) dX10_setLevel_1 rfl f_RX10_12 ((sH_out (Or.inl (by decide))).trans hg) rfl ?_
  refine cs_get0 (pc := 4) dX10_setLevel_4 rfl f_RX10_66 rfl ?_
  refine r_iload_n (pc := 7) dX10_setLevel_7 rfl rfl ?_
  refine q_callV (ci := 7) (T := TX8) (N := 14) (vs := [.int _]) (pc := 8) dX10_setLevel_8 rfl l_RX10_70 rfl ⟨by decide, by decide⟩ rfl (Nat.le_of_ble_eq_true rfl) hl (sH_at (i := 1) (by decide)) rfl (Nat.le_of_ble_eq_true rfl) (s_X8_allowsLevel _) sH_22 ?_
  refine r_if_ne 24 (pc := 11) dX10_setLevel_11 (by decide) (fun c11 => ?_) (fun c11 => absurd c11 (c_eqf h rfl (a := 1) (b := 0) (by omega) (by omega) (by omega)))
  refine r_aload_n (pc := 24) dX10_setLevel_24 rfl rfl ?_
  refine q_callV (ci := 8) (T := TX10) (N := 6) (vs := []) (pc := 25) dX10_setLevel_25 rfl l_RX10_50 rfl ⟨by decide, by decide⟩ rfl (Nat.le_of_ble_eq_true rfl) hl ((sH_out (Or.inl (by decide))).trans hg) rfl (Nat.le_of_ble_eq_true rfl) (hsv _) hR ?_
  refine r_aload_n (pc := 28) dX10_setLevel_28 rfl rfl ?_
  refine r_getfield (pc := 29) dX10_setLevel_29 rfl f_RX10_12 ((sH_out (Or.inl (by decide))).trans hg') rfl ?_
  refine cs_get0 (pc := 32) dX10_setLevel_32 rfl f_RX10_66 rfl ?_
  refine cs_get (i := 1) (pc := 35) dX10_setLevel_35 rfl f_RX10_75 (by decide) rfl rfl ?_
  refine q_istore_n [_, _, _] (pc := 38) dX10_setLevel_38 rfl (by decide) rfl ?_
  refine r_aload_n (pc := 39) dX10_setLevel_39 rfl rfl ?_
  refine r_getfield (pc := 40) dX10_setLevel_40 rfl f_RX10_12 ((sH_out (Or.inl (by decide))).trans hg') rfl ?_
  refine cs_get0 (pc := 43) dX10_setLevel_43 rfl f_RX10_66 rfl ?_
  refine r_iload_n (pc := 46) dX10_setLevel_46 rfl rfl ?_
  refine cs_put (i := 1) 1 (pc := 47) dX10_setLevel_47 rfl f_RX10_75 (by decide) rfl (Nat.le_of_ble_eq_true rfl) rfl rfl ?_
  refine r_iload_n (pc := 50) dX10_setLevel_50 rfl rfl ?_
  exact r_ireturn (S := []) (pc := 51) dX10_setLevel_51 rfl rfl ⟨rfl, rfl⟩
theorem s_X10_setFlow_yes {om : OM} {l : Launch} {B : Nat × Nat} {R : Hp} {C : Nat → Int32} {W : Nat → Int64} {ns cnt : Int32} (hl : l.stackTraces = false) (hg : R.1 0 = .inr (8, gf ns cnt)) (d : Int32) (h : R_in d (-200) 200 = 1) {R' : Hp} {ns' cnt' : Int32} (hg' : R'.1 0 = .inr (8, gf ns' cnt')) (hR : R'.2 = R.2) (hsv : ∀ B : Nat × Nat, Runs om l M_X10_save B 0 (entL 1 [.ref 0]) [] (sH R 1 C W) (Det none (sH R' 1 C W)))  : Runs om l M_X10_setFlow B 0 (entL 3 [.ref 0, .int d]) [] (sH R 1 C W) (Det (some (.int (C 2))) (sH R' 1 (upd C 2 d) W)) := by
  show Runs om l M_X10_setFlow B 0 [some (.ref 0), some (.int d), none] [] _ _
  refine r_iload_n (pc := 0) dX10_setFlow_0 rfl rfl ?_
  refine q_callS (vs := [.int _]) (pc := 1) dX10_setFlow_1 rfl l_RX10_78 rfl ⟨by decide, by decide⟩ rfl (Nat.le_of_ble_eq_true rfl) hl (Nat.le_of_ble_eq_true rfl) (s_X8_allowsFlow _) sH_22 ?_
  refine r_if_ne 17 (pc := 4) dX10_setFlow_4 (by decide) (fun c4 => ?_) (fun c4 => absurd c4 (c_eqf h rfl (a := 1) (b := 0) (by omega) (by omega) (by omega)))
  refine r_aload_n (pc := 17) dX10_setFlow_17 rfl rfl ?_
  refine q_callV (ci := 8) (T := TX10) (N := 6) (vs := []) (pc := 18) dX10_setFlow_18 rfl l_RX10_50 rfl ⟨by decide, by decide⟩ rfl (Nat.le_of_ble_eq_true rfl) hl ((sH_out (Or.inl (by decide))).trans hg) rfl (Nat.le_of_ble_eq_true rfl) (hsv _) hR ?_
  refine r_aload_n (pc := 21) dX10_setFlow_21 rfl rfl ?_
  refine r_getfield (pc := 22) dX10_setFlow_22 rfl f_RX10_12 ((sH_out (Or.inl (by decide))).trans hg') rfl ?_
  refine cs_get0 (pc := 25) dX10_setFlow_25 rfl f_RX10_66 rfl ?_
  refine cs_get (i := 1) (pc := 28) dX10_setFlow_28 rfl f_RX10_83 (by decide) rfl rfl ?_
  refine q_istore_n [_, _, _] (pc := 31) dX10_setFlow_31 rfl (by decide) rfl ?_
  refine r_aload_n (pc := 32) dX10_setFlow_32 rfl rfl ?_
  refine r_getfield (pc := 33) dX10_setFlow_33 rfl f_RX10_12 ((sH_out (Or.inl (by decide))).trans hg') rfl ?_
  refine cs_get0 (pc := 36) dX10_setFlow_36 rfl f_RX10_66 rfl ?_
  refine r_iload_n (pc := 39) dX10_setFlow_39 rfl rfl ?_
  refine cs_put (i := 1) 2 (pc := 40) dX10_setFlow_40 rfl f_RX10_83 (by decide) rfl (Nat.le_of_ble_eq_true rfl) rfl rfl ?_
  refine r_iload_n (pc := 43) dX10_setFlow_43 rfl rfl ?_
  exact r_ireturn (S := []) (pc := 44) dX10_setFlow_44 rfl rfl ⟨rfl, rfl⟩
theorem s_X10_setFoam_yes {om : OM} {l : Launch} {B : Nat × Nat} {R : Hp} {C : Nat → Int32} {W : Nat → Int64} {ns cnt : Int32} (hl : l.stackTraces = false) (hg : R.1 0 = .inr (8, gf ns cnt)) (d : Int32) (h : R_in d 0 500 = 1) {R' : Hp} {ns' cnt' : Int32} (hg' : R'.1 0 = .inr (8, gf ns' cnt')) (hR : R'.2 = R.2) (hsv : ∀ B : Nat × Nat, Runs om l M_X10_save B 0 (entL 1 [.ref 0]) [] (sH R 1 C W) (Det none (sH R' 1 C W)))  : Runs om l M_X10_setFoam B 0 (entL 3 [.ref 0, .int d]) [] (sH R 1 C W) (Det (some (.int (C 3))) (sH R' 1 (upd C 3 d) W)) := by
  show Runs om l M_X10_setFoam B 0 [some (.ref 0), some (.int d), none] [] _ _
  refine r_iload_n (pc := 0) dX10_setFoam_0 rfl rfl ?_
  refine q_callS (vs := [.int _]) (pc := 1) dX10_setFoam_1 rfl l_RX10_86 rfl ⟨by decide, by decide⟩ rfl (Nat.le_of_ble_eq_true rfl) hl (Nat.le_of_ble_eq_true rfl) (s_X8_allowsFoam _) sH_22 ?_
  refine r_if_ne 17 (pc := 4) dX10_setFoam_4 (by decide) (fun c4 => ?_) (fun c4 => absurd c4 (c_eqf h rfl (a := 1) (b := 0) (by omega) (by omega) (by omega)))
  refine r_aload_n (pc := 17) dX10_setFoam_17 rfl rfl ?_
  refine q_callV (ci := 8) (T := TX10) (N := 6) (vs := []) (pc := 18) dX10_setFoam_18 rfl l_RX10_50 rfl ⟨by decide, by decide⟩ rfl (Nat.le_of_ble_eq_true rfl) hl ((sH_out (Or.inl (by decide))).trans hg) rfl (Nat.le_of_ble_eq_true rfl) (hsv _) hR ?_
  refine r_aload_n (pc := 21) dX10_setFoam_21 rfl rfl ?_
  refine r_getfield (pc := 22) dX10_setFoam_22 rfl f_RX10_12 ((sH_out (Or.inl (by decide))).trans hg') rfl ?_
  refine cs_get0 (pc := 25) dX10_setFoam_25 rfl f_RX10_66 rfl ?_
  refine cs_get (i := 1) (pc := 28) dX10_setFoam_28 rfl f_RX10_91 (by decide) rfl rfl ?_
  refine q_istore_n [_, _, _] (pc := 31) dX10_setFoam_31 rfl (by decide) rfl ?_
  refine r_aload_n (pc := 32) dX10_setFoam_32 rfl rfl ?_
  refine r_getfield (pc := 33) dX10_setFoam_33 rfl f_RX10_12 ((sH_out (Or.inl (by decide))).trans hg') rfl ?_
  refine cs_get0 (pc := 36) dX10_setFoam_36 rfl f_RX10_66 rfl ?_
  refine r_iload_n (pc := 39) dX10_setFoam_39 rfl rfl ?_
  refine cs_put (i := 1) 3 (pc := 40) dX10_setFoam_40 rfl f_RX10_91 (by decide) rfl (Nat.le_of_ble_eq_true rfl) rfl rfl ?_
  refine r_iload_n (pc := 43) dX10_setFoam_43 rfl rfl ?_
  exact r_ireturn (S := []) (pc := 44) dX10_setFoam_44 rfl rfl ⟨rfl, rfl⟩
theorem s_X10_addThing_yes {om : OM} {l : Launch} {B : Nat × Nat} {R : Hp} {C : Nat → Int32} {W : Nat → Int64} {ns cnt : Int32} (hl : l.stackTraces = false) (hg : R.1 0 = .inr (8, gf ns cnt)) (d s : Int32) (h : R_cThing d s = 1) (h2 : K_lt (C 4) 6 = 1) {R' : Hp} {ns' cnt' : Int32} (hg' : R'.1 0 = .inr (8, gf ns' cnt')) (hR : R'.2 = R.2) (hsv : ∀ B : Nat × Nat, Runs om l M_X10_save B 0 (entL 1 [.ref 0]) [] (sH R 1 C W) (Det none (sH R' 1 C W))) (k : Nat) (h4 : C 4 = nI k) (hk : k < 6) : Runs om l M_X10_addThing B 0 (entL 3 [.ref 0, .int d, .int s]) [] (sH R 1 C W) (Det (some (.int (R_adds C k d s 4 - 1))) (sH R' 1 (R_adds C k d s) W)) := by
  show Runs om l M_X10_addThing B 0 [some (.ref 0), some (.int d), some (.int s)] [] _ _
  refine r_iload_n (pc := 0) dX10_addThing_0 rfl rfl ?_
  refine r_iload_n (pc := 1) dX10_addThing_1 rfl rfl ?_
  refine q_callS (vs := [.int _, .int _]) (pc := 2) dX10_addThing_2 rfl l_RX10_94 rfl ⟨by decide, by decide⟩ rfl (Nat.le_of_ble_eq_true rfl) hl (Nat.le_of_ble_eq_true rfl) (s_X8_allowsThing hl _ _) sH_22 ?_
  refine r_if_ne 18 (pc := 5) dX10_addThing_5 (by decide) (fun c5 => ?_) (fun c5 => absurd c5 (c_eqf h rfl (a := 1) (b := 0) (by omega) (by omega) (by omega)))
  refine r_aload_n (pc := 18) dX10_addThing_18 rfl rfl ?_
  refine r_getfield (pc := 19) dX10_addThing_19 rfl f_RX10_12 ((sH_out (Or.inl (by decide))).trans hg) rfl ?_
  refine cs_get0 (pc := 22) dX10_addThing_22 rfl f_RX10_66 rfl ?_
  refine q_callV (ci := 7) (T := TX8) (N := 14) (vs := []) (pc := 25) dX10_addThing_25 rfl l_RX10_100 rfl ⟨by decide, by decide⟩ rfl (Nat.le_of_ble_eq_true rfl) hl (sH_at (i := 1) (by decide)) rfl (Nat.le_of_ble_eq_true rfl) (s_X8_hasPlaceForThing) sH_22 ?_
  refine r_if_ne 41 (pc := 28) dX10_addThing_28 (by decide) (fun c28 => ?_) (fun c28 => absurd c28 (c_eqf h2 rfl (a := 1) (b := 0) (by omega) (by omega) (by omega)))
  refine r_aload_n (pc := 41) dX10_addThing_41 rfl rfl ?_
  refine q_callV (ci := 8) (T := TX10) (N := 6) (vs := []) (pc := 42) dX10_addThing_42 rfl l_RX10_50 rfl ⟨by decide, by decide⟩ rfl (Nat.le_of_ble_eq_true rfl) hl ((sH_out (Or.inl (by decide))).trans hg) rfl (Nat.le_of_ble_eq_true rfl) (hsv _) hR ?_
  refine r_aload_n (pc := 45) dX10_addThing_45 rfl rfl ?_
  refine r_getfield (pc := 46) dX10_addThing_46 rfl f_RX10_12 ((sH_out (Or.inl (by decide))).trans hg') rfl ?_
  refine cs_get0 (pc := 49) dX10_addThing_49 rfl f_RX10_66 rfl ?_
  refine r_iload_n (pc := 52) dX10_addThing_52 rfl rfl ?_
  refine r_iload_n (pc := 53) dX10_addThing_53 rfl rfl ?_
  refine q_callV (ci := 7) (T := TX8) (N := 14) (vs := [.int _, .int _]) (pc := 54) dX10_addThing_54 rfl l_RX10_109 rfl ⟨by decide, by decide⟩ rfl (Nat.le_of_ble_eq_true rfl) hl (sH_at (i := 1) (by decide)) rfl (Nat.le_of_ble_eq_true rfl) (s_X8_putThing k h4 hk _ _) sH_22 ?_
  refine r_aload_n (pc := 57) dX10_addThing_57 rfl rfl ?_
  refine r_getfield (pc := 58) dX10_addThing_58 rfl f_RX10_12 ((sH_out (Or.inl (by decide))).trans hg') rfl ?_
  refine cs_get0 (pc := 61) dX10_addThing_61 rfl f_RX10_66 rfl ?_
  refine cs_get (i := 1) (pc := 64) dX10_addThing_64 rfl f_RX10_113 (by decide) rfl rfl ?_
  refine r_iconst (v := 1) (pc := 67) dX10_addThing_67 (by decide) ?_
  refine r_isub (pc := 68) dX10_addThing_68 ?_
  exact r_ireturn (S := []) (pc := 69) dX10_addThing_69 rfl rfl ⟨rfl, rfl⟩
theorem s_X10_removeThing_yes {om : OM} {l : Launch} {B : Nat × Nat} {R : Hp} {C : Nat → Int32} {W : Nat → Int64} {ns cnt : Int32} (hl : l.stackTraces = false) (hg : R.1 0 = .inr (8, gf ns cnt)) (d : Int32) (h : K_hasT d (C 4) = 1) {R' : Hp} {ns' cnt' : Int32} (hg' : R'.1 0 = .inr (8, gf ns' cnt')) (hR : R'.2 = R.2) (hsv : ∀ B : Nat × Nat, Runs om l M_X10_save B 0 (entL 1 [.ref 0]) [] (sH R 1 C W) (Det none (sH R' 1 C W))) (k k0 : Nat) (hx : d = nI k) (h4 : C 4 = nI (k0 + 1)) (hk : k < k0 + 1) (hK : k0 + 1 ≤ 6) : Runs om l M_X10_removeThing B 0 (entL 2 [.ref 0, .int d]) [] (sH R 1 C W) (Det (some (.int (upd (K_dr C k k0) 4 (K_dr C k k0 4 - 1) 4))) (sH R' 1 (upd (K_dr C k k0) 4 (K_dr C k k0 4 - 1)) W)) := by
  show Runs om l M_X10_removeThing B 0 [some (.ref 0), some (.int d)] [] _ _
  refine r_aload_n (pc := 0) dX10_removeThing_0 rfl rfl ?_
  refine r_getfield (pc := 1) dX10_removeThing_1 rfl f_RX10_12 ((sH_out (Or.inl (by decide))).trans hg) rfl ?_
  refine cs_get0 (pc := 4) dX10_removeThing_4 rfl f_RX10_66 rfl ?_
  refine r_iload_n (pc := 7) dX10_removeThing_7 rfl rfl ?_
  refine q_callV (ci := 7) (T := TX8) (N := 14) (vs := [.int _]) (pc := 8) dX10_removeThing_8 rfl l_RX10_116 rfl ⟨by decide, by decide⟩ rfl (Nat.le_of_ble_eq_true rfl) hl (sH_at (i := 1) (by decide)) rfl (Nat.le_of_ble_eq_true rfl) (s_X8_hasThing _) sH_22 ?_
  refine r_if_ne 24 (pc := 11) dX10_removeThing_11 (by decide) (fun c11 => ?_) (fun c11 => absurd c11 (c_eqf h rfl (a := 1) (b := 0) (by omega) (by omega) (by omega)))
  refine r_aload_n (pc := 24) dX10_removeThing_24 rfl rfl ?_
  refine q_callV (ci := 8) (T := TX10) (N := 6) (vs := []) (pc := 25) dX10_removeThing_25 rfl l_RX10_50 rfl ⟨by decide, by decide⟩ rfl (Nat.le_of_ble_eq_true rfl) hl ((sH_out (Or.inl (by decide))).trans hg) rfl (Nat.le_of_ble_eq_true rfl) (hsv _) hR ?_
  refine r_aload_n (pc := 28) dX10_removeThing_28 rfl rfl ?_
  refine r_getfield (pc := 29) dX10_removeThing_29 rfl f_RX10_12 ((sH_out (Or.inl (by decide))).trans hg') rfl ?_
  refine cs_get0 (pc := 32) dX10_removeThing_32 rfl f_RX10_66 rfl ?_
  refine r_iload_n (pc := 35) dX10_removeThing_35 rfl rfl ?_
  refine q_callV (ci := 7) (T := TX8) (N := 14) (vs := [.int _]) (pc := 36) dX10_removeThing_36 rfl l_RX10_124 rfl ⟨by decide, by decide⟩ rfl (Nat.le_of_ble_eq_true rfl) hl (sH_at (i := 1) (by decide)) rfl (Nat.le_of_ble_eq_true rfl) (s_X8_dropThing hl _ k k0 hx h4 hk hK) sH_22 ?_
  refine r_aload_n (pc := 39) dX10_removeThing_39 rfl rfl ?_
  refine r_getfield (pc := 40) dX10_removeThing_40 rfl f_RX10_12 ((sH_out (Or.inl (by decide))).trans hg') rfl ?_
  refine cs_get0 (pc := 43) dX10_removeThing_43 rfl f_RX10_66 rfl ?_
  refine cs_get (i := 1) (pc := 46) dX10_removeThing_46 rfl f_RX10_113 (by decide) rfl rfl ?_
  exact r_ireturn (S := []) (pc := 49) dX10_removeThing_49 rfl rfl ⟨rfl, rfl⟩
theorem s_X10_setStirrer_yes {om : OM} {l : Launch} {B : Nat × Nat} {R : Hp} {C : Nat → Int32} {W : Nat → Int64} {ns cnt : Int32} (hl : l.stackTraces = false) (hg : R.1 0 = .inr (8, gf ns cnt)) (p u x sp be : Int32) (h : R_cStir p u x sp be = 1) {R' : Hp} {ns' cnt' : Int32} (hg' : R'.1 0 = .inr (8, gf ns' cnt')) (hR : R'.2 = R.2) (hsv : ∀ B : Nat × Nat, Runs om l M_X10_save B 0 (entL 1 [.ref 0]) [] (sH R 1 C W) (Det none (sH R' 1 C W)))  : Runs om l M_X10_setStirrer B 0 (entL 7 [.ref 0, .int p, .int u, .int x, .int sp, .int be]) [] (sH R 1 C W) (Det (some (.int (C 5))) (sH R' 1 (R_stirs C p u x sp be) W)) := by
  show Runs om l M_X10_setStirrer B 0 [some (.ref 0), some (.int p), some (.int u), some (.int x), some (.int sp), some (.int be), none] [] _ _
  refine r_iload_n (pc := 0) dX10_setStirrer_0 rfl rfl ?_
  refine r_iload_n (pc := 1) dX10_setStirrer_1 rfl rfl ?_
  refine r_iload_n (pc := 2) dX10_setStirrer_2 rfl rfl ?_
  refine r_iload (pc := 3) dX10_setStirrer_3 rfl ?_
  refine r_iload (pc := 5) dX10_setStirrer_5 rfl ?_
  refine q_callS (vs := [.int _, .int _, .int _, .int _, .int _]) (pc := 7) dX10_setStirrer_7 rfl l_RX10_127 rfl ⟨by decide, by decide⟩ rfl (Nat.le_of_ble_eq_true rfl) hl (Nat.le_of_ble_eq_true rfl) (s_X8_allowsStirrer hl _ _ _ _ _) sH_22 ?_
  refine r_if_ne 23 (pc := 10) dX10_setStirrer_10 (by decide) (fun c10 => ?_) (fun c10 => absurd c10 (c_eqf h rfl (a := 1) (b := 0) (by omega) (by omega) (by omega)))
  refine r_aload_n (pc := 23) dX10_setStirrer_23 rfl rfl ?_
  refine q_callV (ci := 8) (T := TX10) (N := 6) (vs := []) (pc := 24) dX10_setStirrer_24 rfl l_RX10_50 rfl ⟨by decide, by decide⟩ rfl (Nat.le_of_ble_eq_true rfl) hl ((sH_out (Or.inl (by decide))).trans hg) rfl (Nat.le_of_ble_eq_true rfl) (hsv _) hR ?_
  refine r_aload_n (pc := 27) dX10_setStirrer_27 rfl rfl ?_
  refine r_getfield (pc := 28) dX10_setStirrer_28 rfl f_RX10_12 ((sH_out (Or.inl (by decide))).trans hg') rfl ?_
  refine cs_get0 (pc := 31) dX10_setStirrer_31 rfl f_RX10_66 rfl ?_
  refine cs_get (i := 1) (pc := 34) dX10_setStirrer_34 rfl f_RX10_133 (by decide) rfl rfl ?_
  refine q_istore [_, _, _, _, _, _, _] (pc := 37) dX10_setStirrer_37 (by decide) rfl ?_
  refine r_aload_n (pc := 39) dX10_setStirrer_39 rfl rfl ?_
  refine r_getfield (pc := 40) dX10_setStirrer_40 rfl f_RX10_12 ((sH_out (Or.inl (by decide))).trans hg') rfl ?_
  refine cs_get0 (pc := 43) dX10_setStirrer_43 rfl f_RX10_66 rfl ?_
  refine r_iload_n (pc := 46) dX10_setStirrer_46 rfl rfl ?_
  refine r_iload_n (pc := 47) dX10_setStirrer_47 rfl rfl ?_
  refine r_iload_n (pc := 48) dX10_setStirrer_48 rfl rfl ?_
  refine r_iload (pc := 49) dX10_setStirrer_49 rfl ?_
  refine r_iload (pc := 51) dX10_setStirrer_51 rfl ?_
  refine q_callV (ci := 7) (T := TX8) (N := 14) (vs := [.int _, .int _, .int _, .int _, .int _]) (pc := 53) dX10_setStirrer_53 rfl l_RX10_136 rfl ⟨by decide, by decide⟩ rfl (Nat.le_of_ble_eq_true rfl) hl (sH_at (i := 1) (by decide)) rfl (Nat.le_of_ble_eq_true rfl) (s_X8_putStirrer _ _ _ _ _) sH_22 ?_
  refine r_iload (pc := 56) dX10_setStirrer_56 rfl ?_
  exact r_ireturn (S := []) (pc := 58) dX10_setStirrer_58 rfl rfl ⟨rfl, rfl⟩
theorem s_X10_set_yes {om : OM} {l : Launch} {B : Nat × Nat} {R : Hp} {C : Nat → Int32} {W : Nat → Int64} {ns cnt : Int32} (hl : l.stackTraces = false) (hg : R.1 0 = .inr (8, gf ns cnt)) (x d : Int32) (h : R_cSet C x d = 1) {R' : Hp} {ns' cnt' : Int32} (hg' : R'.1 0 = .inr (8, gf ns' cnt')) (hR : R'.2 = R.2) (hsv : ∀ B : Nat × Nat, Runs om l M_X10_save B 0 (entL 1 [.ref 0]) [] (sH R 1 C W) (Det none (sH R' 1 C W))) (k : Nat) (hx : x = nI k) (hk : k < 12) (h6 : k ≠ 6) : Runs om l M_X10_set B 0 (entL 4 [.ref 0, .int x, .int d]) [] (sH R 1 C W) (Det (some (.int (C (12 + k)))) (sH R' 1 (upd C (12 + k) d) W)) := by
  show Runs om l M_X10_set B 0 [some (.ref 0), some (.int x), some (.int d), none] [] _ _
  refine r_aload_n (pc := 0) dX10_set_0 rfl rfl ?_
  refine r_getfield (pc := 1) dX10_set_1 rfl f_RX10_12 ((sH_out (Or.inl (by decide))).trans hg) rfl ?_
  refine cs_get0 (pc := 4) dX10_set_4 rfl f_RX10_140 rfl ?_
  refine r_iload_n (pc := 7) dX10_set_7 rfl rfl ?_
  refine r_iload_n (pc := 8) dX10_set_8 rfl rfl ?_
  refine q_callV (ci := 5) (T := TX6) (N := 1) (vs := [.int _, .int _]) (pc := 9) dX10_set_9 rfl l_RX10_144 rfl ⟨by decide, by decide⟩ rfl (Nat.le_of_ble_eq_true rfl) hl (sH_at (i := 4) (by decide)) rfl (Nat.le_of_ble_eq_true rfl) (s_X6_allows hl _ _) sH_22 ?_
  refine r_if_ne 25 (pc := 12) dX10_set_12 (by decide) (fun c12 => ?_) (fun c12 => absurd c12 (c_eqf h rfl (a := 1) (b := 0) (by omega) (by omega) (by omega)))
  refine r_aload_n (pc := 25) dX10_set_25 rfl rfl ?_
  refine q_callV (ci := 8) (T := TX10) (N := 6) (vs := []) (pc := 26) dX10_set_26 rfl l_RX10_50 rfl ⟨by decide, by decide⟩ rfl (Nat.le_of_ble_eq_true rfl) hl ((sH_out (Or.inl (by decide))).trans hg) rfl (Nat.le_of_ble_eq_true rfl) (hsv _) hR ?_
  refine r_aload_n (pc := 29) dX10_set_29 rfl rfl ?_
  refine r_getfield (pc := 30) dX10_set_30 rfl f_RX10_12 ((sH_out (Or.inl (by decide))).trans hg') rfl ?_
  refine cs_get0 (pc := 33) dX10_set_33 rfl f_RX10_140 rfl ?_
  refine r_iload_n (pc := 36) dX10_set_36 rfl rfl ?_
  refine q_callV (ci := 5) (T := TX6) (N := 1) (vs := [.int _]) (pc := 37) dX10_set_37 rfl l_RX10_151 rfl ⟨by decide, by decide⟩ rfl (Nat.le_of_ble_eq_true rfl) hl (sH_at (i := 4) (by decide)) rfl (Nat.le_of_ble_eq_true rfl) (s_X6_value hl _ k hx hk) sH_22 ?_
  refine q_istore_n [_, _, _, _] (pc := 40) dX10_set_40 rfl (by decide) rfl ?_
  refine r_aload_n (pc := 41) dX10_set_41 rfl rfl ?_
  refine r_getfield (pc := 42) dX10_set_42 rfl f_RX10_12 ((sH_out (Or.inl (by decide))).trans hg') rfl ?_
  refine r_iload_n (pc := 45) dX10_set_45 rfl rfl ?_
  refine r_iload_n (pc := 46) dX10_set_46 rfl rfl ?_
  refine q_callV (ci := 6) (T := TX7) (N := 7) (vs := [.int _, .int _]) (pc := 47) dX10_set_47 rfl l_RX10_155 rfl ⟨by decide, by decide⟩ rfl (Nat.le_of_ble_eq_true rfl) hl sH_0 rfl (Nat.le_of_ble_eq_true rfl) (s_X7_change hl _ _ k hx hk h6) sH_22 ?_
  refine r_iload_n (pc := 50) dX10_set_50 rfl rfl ?_
  exact r_ireturn (S := []) (pc := 51) dX10_set_51 rfl rfl ⟨rfl, rfl⟩
theorem s_X10_set_yes6 {om : OM} {l : Launch} {B : Nat × Nat} {R : Hp} {C : Nat → Int32} {W : Nat → Int64} {ns cnt : Int32} (hl : l.stackTraces = false) (hg : R.1 0 = .inr (8, gf ns cnt)) (x d : Int32) (h : R_cSet C x d = 1) {R' : Hp} {ns' cnt' : Int32} (hg' : R'.1 0 = .inr (8, gf ns' cnt')) (hR : R'.2 = R.2) (hsv : ∀ B : Nat × Nat, Runs om l M_X10_save B 0 (entL 1 [.ref 0]) [] (sH R 1 C W) (Det none (sH R' 1 C W))) (hx : x = nI 6) (K L : Nat) (hK : C 31 = nI K) (hK9 : K ≤ 9) (hd : d = nI L) (hL : L ≤ 9) : Runs om l M_X10_set B 0 (entL 4 [.ref 0, .int x, .int d]) [] (sH R 1 C W) (Det (some (.int (C (12 + 6)))) (sH R' 1 (upd (upd C (12 + 6) d) 31 (nI (min K L))) W)) := by
  show Runs om l M_X10_set B 0 [some (.ref 0), some (.int x), some (.int d), none] [] _ _
  refine r_aload_n (pc := 0) dX10_set_0 rfl rfl ?_
  refine r_getfield (pc := 1) dX10_set_1 rfl f_RX10_12 ((sH_out (Or.inl (by decide))).trans hg) rfl ?_
  refine cs_get0 (pc := 4) dX10_set_4 rfl f_RX10_140 rfl ?_
  refine r_iload_n (pc := 7) dX10_set_7 rfl rfl ?_
  refine r_iload_n (pc := 8) dX10_set_8 rfl rfl ?_
  refine q_callV (ci := 5) (T := TX6) (N := 1) (vs := [.int _, .int _]) (pc := 9) dX10_set_9 rfl l_RX10_144 rfl ⟨by decide, by decide⟩ rfl (Nat.le_of_ble_eq_true rfl) hl (sH_at (i := 4) (by decide)) rfl (Nat.le_of_ble_eq_true rfl) (s_X6_allows hl _ _) sH_22 ?_
  refine r_if_ne 25 (pc := 12) dX10_set_12 (by decide) (fun c12 => ?_) (fun c12 => absurd c12 (c_eqf h rfl (a := 1) (b := 0) (by omega) (by omega) (by omega)))
  refine r_aload_n (pc := 25) dX10_set_25 rfl rfl ?_
  refine q_callV (ci := 8) (T := TX10) (N := 6) (vs := []) (pc := 26) dX10_set_26 rfl l_RX10_50 rfl ⟨by decide, by decide⟩ rfl (Nat.le_of_ble_eq_true rfl) hl ((sH_out (Or.inl (by decide))).trans hg) rfl (Nat.le_of_ble_eq_true rfl) (hsv _) hR ?_
  refine r_aload_n (pc := 29) dX10_set_29 rfl rfl ?_
  refine r_getfield (pc := 30) dX10_set_30 rfl f_RX10_12 ((sH_out (Or.inl (by decide))).trans hg') rfl ?_
  refine cs_get0 (pc := 33) dX10_set_33 rfl f_RX10_140 rfl ?_
  refine r_iload_n (pc := 36) dX10_set_36 rfl rfl ?_
  refine q_callV (ci := 5) (T := TX6) (N := 1) (vs := [.int _]) (pc := 37) dX10_set_37 rfl l_RX10_151 rfl ⟨by decide, by decide⟩ rfl (Nat.le_of_ble_eq_true rfl) hl (sH_at (i := 4) (by decide)) rfl (Nat.le_of_ble_eq_true rfl) (s_X6_value hl _ 6 hx (by decide)) sH_22 ?_
  refine q_istore_n [_, _, _, _] (pc := 40) dX10_set_40 rfl (by decide) rfl ?_
  refine r_aload_n (pc := 41) dX10_set_41 rfl rfl ?_
  refine r_getfield (pc := 42) dX10_set_42 rfl f_RX10_12 ((sH_out (Or.inl (by decide))).trans hg') rfl ?_
  refine r_iload_n (pc := 45) dX10_set_45 rfl rfl ?_
  refine r_iload_n (pc := 46) dX10_set_46 rfl rfl ?_
  refine q_callV (ci := 6) (T := TX7) (N := 7) (vs := [.int _, .int _]) (pc := 47) dX10_set_47 rfl l_RX10_155 rfl ⟨by decide, by decide⟩ rfl (Nat.le_of_ble_eq_true rfl) hl sH_0 rfl (Nat.le_of_ble_eq_true rfl) (s_X7_change6 hl _ _ hx K L hK hK9 hd hL) sH_22 ?_
  refine r_iload_n (pc := 50) dX10_set_50 rfl rfl ?_
  exact r_ireturn (S := []) (pc := 51) dX10_set_51 rfl rfl ⟨rfl, rfl⟩
theorem s_X10_setS_yes {om : OM} {l : Launch} {B : Nat × Nat} {R : Hp} {C : Nat → Int32} {W : Nat → Int64} {ns cnt : Int32} (hl : l.stackTraces = false) (hg : R.1 0 = .inr (8, gf ns cnt)) (d : Int32) (h : R_nn d = 1) {R' : Hp} {ns' cnt' : Int32} (hg' : R'.1 0 = .inr (8, gf ns' cnt')) (hR : R'.2 = R.2) (hsv : ∀ B : Nat × Nat, Runs om l M_X10_save B 0 (entL 1 [.ref 0]) [] (sH R 1 C W) (Det none (sH R' 1 C W))) : Runs om l M_X10_setS B 0 (entL 3 [.ref 0, .int d]) [] (sH R 1 C W) (Det (some (.int (C 11))) (sH R' 1 (upd C 11 d) W)) := by
  show Runs om l M_X10_setS B 0 [some (.ref 0), some (.int d), none] [] _ _
  refine r_iload_n (pc := 0) dX10_setS_0 rfl rfl ?_
  refine r_if_ge 14 (pc := 1) dX10_setS_1 (by decide) (fun c1 => ?_) (fun c1 => absurd h (by rw [R_nn, if_pos (Int32.not_le.mp c1)]; decide))
  refine r_aload_n (pc := 14) dX10_setS_14 rfl rfl ?_
  refine q_callV (ci := 8) (T := TX10) (N := 6) (vs := []) (pc := 15) dX10_setS_15 rfl l_RX10_50 rfl ⟨by decide, by decide⟩ rfl (Nat.le_of_ble_eq_true rfl) hl ((sH_out (Or.inl (by decide))).trans hg) rfl (Nat.le_of_ble_eq_true rfl) (hsv _) hR ?_
  refine r_aload_n (pc := 18) dX10_setS_18 rfl rfl ?_
  refine r_getfield (pc := 19) dX10_setS_19 rfl f_RX10_12 ((sH_out (Or.inl (by decide))).trans hg') rfl ?_
  refine cs_get0 (pc := 22) dX10_setS_22 rfl f_RX10_66 rfl ?_
  refine cs_get (i := 1) (pc := 25) dX10_setS_25 rfl f_RX10_160 (by decide) rfl rfl ?_
  refine q_istore_n [_, _, _] (pc := 28) dX10_setS_28 rfl (by decide) rfl ?_
  refine r_aload_n (pc := 29) dX10_setS_29 rfl rfl ?_
  refine r_getfield (pc := 30) dX10_setS_30 rfl f_RX10_12 ((sH_out (Or.inl (by decide))).trans hg') rfl ?_
  refine cs_get0 (pc := 33) dX10_setS_33 rfl f_RX10_66 rfl ?_
  refine r_iload_n (pc := 36) dX10_setS_36 rfl rfl ?_
  refine cs_put (i := 1) 11 (pc := 37) dX10_setS_37 rfl f_RX10_160 (by decide) rfl (Nat.le_of_ble_eq_true rfl) rfl rfl ?_
  refine r_iload_n (pc := 40) dX10_setS_40 rfl rfl ?_
  exact r_ireturn (S := []) (pc := 41) dX10_setS_41 rfl rfl ⟨rfl, rfl⟩
theorem s_X10_mask_yes {om : OM} {l : Launch} {B : Nat × Nat} {R : Hp} {C : Nat → Int32} {W : Nat → Int64} {ns cnt : Int32} (hl : l.stackTraces = false) (hg : R.1 0 = .inr (8, gf ns cnt)) (d y : Int32) (h : R_in d 0 10000 = 1) {R' : Hp} {ns' cnt' : Int32} (hg' : R'.1 0 = .inr (8, gf ns' cnt')) (hR : R'.2 = R.2) (hsv : ∀ B : Nat × Nat, Runs om l M_X10_save B 0 (entL 1 [.ref 0]) [] (sH R 1 C W) (Det none (sH R' 1 C W))) (x : Nat) (hx : d = nI x) (hx1 : x ≤ 10000) : Runs om l M_X10_mask B 0 (entL 4 [.ref 0, .int d, .int y]) [] (sH R 1 C W) (Det (some (.int (K_bin W (x / 20)))) (sH R' 1 (K_mputC C W (x / 20) y) (K_mputW W (x / 20) y))) := by
  show Runs om l M_X10_mask B 0 [some (.ref 0), some (.int d), some (.int y), none] [] _ _
  refine r_iload_n (pc := 0) dX10_mask_0 rfl rfl ?_
  refine q_callS (vs := [.int _]) (pc := 1) dX10_mask_1 rfl l_RX10_163 rfl ⟨by decide, by decide⟩ rfl (Nat.le_of_ble_eq_true rfl) hl (Nat.le_of_ble_eq_true rfl) (s_X10_allowsDistance _) sH_22 ?_
  refine r_if_ne 17 (pc := 4) dX10_mask_4 (by decide) (fun c4 => ?_) (fun c4 => absurd c4 (c_eqf h rfl (a := 1) (b := 0) (by omega) (by omega) (by omega)))
  refine r_aload_n (pc := 17) dX10_mask_17 rfl rfl ?_
  refine q_callV (ci := 8) (T := TX10) (N := 6) (vs := []) (pc := 18) dX10_mask_18 rfl l_RX10_50 rfl ⟨by decide, by decide⟩ rfl (Nat.le_of_ble_eq_true rfl) hl ((sH_out (Or.inl (by decide))).trans hg) rfl (Nat.le_of_ble_eq_true rfl) (hsv _) hR ?_
  refine r_aload_n (pc := 21) dX10_mask_21 rfl rfl ?_
  refine r_getfield (pc := 22) dX10_mask_22 rfl f_RX10_12 ((sH_out (Or.inl (by decide))).trans hg') rfl ?_
  refine cs_get0 (pc := 25) dX10_mask_25 rfl f_RX10_168 rfl ?_
  refine r_iload_n (pc := 28) dX10_mask_28 rfl rfl ?_
  refine q_callV (ci := 4) (T := TX5) (N := 2) (vs := [.int _]) (pc := 29) dX10_mask_29 rfl l_RX10_172 rfl ⟨by decide, by decide⟩ rfl (Nat.le_of_ble_eq_true rfl) hl (sH_at (i := 6) (by decide)) rfl (Nat.le_of_ble_eq_true rfl) (s_X5_covers hl x _ hx (by omega)) sH_22 ?_
  refine q_istore_n [_, _, _, _] (pc := 32) dX10_mask_32 rfl (by decide) rfl ?_
  refine r_aload_n (pc := 33) dX10_mask_33 rfl rfl ?_
  refine r_getfield (pc := 34) dX10_mask_34 rfl f_RX10_12 ((sH_out (Or.inl (by decide))).trans hg') rfl ?_
  refine cs_get0 (pc := 37) dX10_mask_37 rfl f_RX10_168 rfl ?_
  refine r_iload_n (pc := 40) dX10_mask_40 rfl rfl ?_
  refine r_iload_n (pc := 41) dX10_mask_41 rfl rfl ?_
  refine q_callV (ci := 4) (T := TX5) (N := 2) (vs := [.int _, .int _]) (pc := 42) dX10_mask_42 rfl l_RX10_177 rfl ⟨by decide, by decide⟩ rfl (Nat.le_of_ble_eq_true rfl) hl (sH_at (i := 6) (by decide)) rfl (Nat.le_of_ble_eq_true rfl) (s_X5_put hl x _ _ hx (by omega)) sH_22 ?_
  refine r_iload_n (pc := 45) dX10_mask_45 rfl rfl ?_
  refine r_if_eq 53 (pc := 46) dX10_mask_46 (by decide) (fun c46 => ?_) (fun c46 => ?_)
  · refine r_iconst (v := 0) (pc := 53) dX10_mask_53 (by decide) ?_
    exact r_ireturn (S := []) (pc := 54) dX10_mask_54 rfl rfl ⟨by first | (rw [(bin01 W (x / 20)).resolve_left c46]; done) | (rw [c46]; done), rfl⟩
  · refine r_iconst (v := 1) (pc := 49) dX10_mask_49 (by decide) ?_
    refine r_goto 54 (pc := 50) dX10_mask_50 (by decide) ?_
    exact r_ireturn (S := []) (pc := 54) dX10_mask_54 rfl rfl ⟨by first | (rw [(bin01 W (x / 20)).resolve_left c46]; done) | (rw [c46]; done), rfl⟩
theorem s_X10_learn_yes {om : OM} {l : Launch} {B : Nat × Nat} {R : Hp} {C : Nat → Int32} {W : Nat → Int64} {ns cnt : Int32} (hl : l.stackTraces = false) (hg : R.1 0 = .inr (8, gf ns cnt)) (d : Int32) (h : R_in d 1 50 = 1) {R' : Hp} {ns' cnt' : Int32} (hg' : R'.1 0 = .inr (8, gf ns' cnt')) (hR : R'.2 = R.2) (hsv : ∀ B : Nat × Nat, Runs om l M_X10_save B 0 (entL 1 [.ref 0]) [] (sH R 1 C W) (Det none (sH R' 1 C W))) (A : Nat → Int32) (s : Nat) (hd : d = nI s) (hs : s ≤ 50) (hA : AG C W A) (hw : WF A) (hx : WX A) : Runs om l M_X10_learn B 0 (entL 2 [.ref 0, .int d]) [] (sH R 1 C W) (Det (some (.int ((K_learns C W s).1 647))) (sH R' 1 ((K_learns C W s).1) ((K_learns C W s).2))) := by
  show Runs om l M_X10_learn B 0 [some (.ref 0), some (.int d)] [] _ _
  refine r_iload_n (pc := 0) dX10_learn_0 rfl rfl ?_
  refine q_callS (vs := [.int _]) (pc := 1) dX10_learn_1 rfl l_RX10_181 rfl ⟨by decide, by decide⟩ rfl (Nat.le_of_ble_eq_true rfl) hl (Nat.le_of_ble_eq_true rfl) (s_X10_allowsLearning _) sH_22 ?_
  refine r_if_ne 17 (pc := 4) dX10_learn_4 (by decide) (fun c4 => ?_) (fun c4 => absurd c4 (c_eqf h rfl (a := 1) (b := 0) (by omega) (by omega) (by omega)))
  refine r_aload_n (pc := 17) dX10_learn_17 rfl rfl ?_
  refine q_callV (ci := 8) (T := TX10) (N := 6) (vs := []) (pc := 18) dX10_learn_18 rfl l_RX10_50 rfl ⟨by decide, by decide⟩ rfl (Nat.le_of_ble_eq_true rfl) hl ((sH_out (Or.inl (by decide))).trans hg) rfl (Nat.le_of_ble_eq_true rfl) (hsv _) hR ?_
  refine r_aload_n (pc := 21) dX10_learn_21 rfl rfl ?_
  refine r_getfield (pc := 22) dX10_learn_22 rfl f_RX10_12 ((sH_out (Or.inl (by decide))).trans hg') rfl ?_
  refine r_iload_n (pc := 25) dX10_learn_25 rfl rfl ?_
  refine q_callV (ci := 6) (T := TX7) (N := 7) (vs := [.int _]) (pc := 26) dX10_learn_26 rfl l_RX10_186 rfl ⟨by decide, by decide⟩ rfl (Nat.le_of_ble_eq_true rfl) hl sH_0 rfl (Nat.le_of_ble_eq_true rfl) (s_X7_learnFalseEchoes hl A _ s hd hs hA hw hx) sH_22 ?_
  refine r_aload_n (pc := 29) dX10_learn_29 rfl rfl ?_
  refine r_getfield (pc := 30) dX10_learn_30 rfl f_RX10_12 ((sH_out (Or.inl (by decide))).trans hg') rfl ?_
  refine cs_get0 (pc := 33) dX10_learn_33 rfl f_RX10_168 rfl ?_
  refine cs_get (i := 6) (pc := 36) dX10_learn_36 rfl f_RX10_189 (by decide) rfl rfl ?_
  exact r_ireturn (S := []) (pc := 39) dX10_learn_39 rfl rfl ⟨rfl, rfl⟩
theorem s_X10_shoot_yes {om : OM} {l : Launch} {B : Nat × Nat} {R : Hp} {C : Nat → Int32} {W : Nat → Int64} {ns cnt : Int32} (hl : l.stackTraces = false) (hg : R.1 0 = .inr (8, gf ns cnt)) (d : Int32) (h : R_in d 1 500 = 1) {R' : Hp} {ns' cnt' : Int32} (hg' : R'.1 0 = .inr (8, gf ns' cnt')) (hR : R'.2 = R.2) (hsv : ∀ B : Nat × Nat, Runs om l M_X10_save B 0 (entL 1 [.ref 0]) [] (sH R 1 C W) (Det none (sH R' 1 C W))) (A : Nat → Int32) (s : Nat) (hd : d = nI s) (hs : s ≤ 500) (hA : AG C W A) (hw : WF A) (hx : WX A) : Runs om l M_X10_shoot B 0 (entL 3 [.ref 0, .int d]) [] (sH R 1 C W) (Det (some (.int (K_shots W C s 25 - C 25))) (sH R' 1 (K_shots W C s) W)) := by
  show Runs om l M_X10_shoot B 0 [some (.ref 0), some (.int d), none] [] _ _
  refine r_iload_n (pc := 0) dX10_shoot_0 rfl rfl ?_
  refine q_callS (vs := [.int _]) (pc := 1) dX10_shoot_1 rfl l_RX10_195 rfl ⟨by decide, by decide⟩ rfl (Nat.le_of_ble_eq_true rfl) hl (Nat.le_of_ble_eq_true rfl) (s_X10_allowsShooting _) sH_22 ?_
  refine r_if_ne 17 (pc := 4) dX10_shoot_4 (by decide) (fun c4 => ?_) (fun c4 => absurd c4 (c_eqf h rfl (a := 1) (b := 0) (by omega) (by omega) (by omega)))
  refine r_aload_n (pc := 17) dX10_shoot_17 rfl rfl ?_
  refine q_callV (ci := 8) (T := TX10) (N := 6) (vs := []) (pc := 18) dX10_shoot_18 rfl l_RX10_50 rfl ⟨by decide, by decide⟩ rfl (Nat.le_of_ble_eq_true rfl) hl ((sH_out (Or.inl (by decide))).trans hg) rfl (Nat.le_of_ble_eq_true rfl) (hsv _) hR ?_
  refine r_aload_n (pc := 21) dX10_shoot_21 rfl rfl ?_
  refine r_getfield (pc := 22) dX10_shoot_22 rfl f_RX10_12 ((sH_out (Or.inl (by decide))).trans hg') rfl ?_
  refine cs_get0 (pc := 25) dX10_shoot_25 rfl f_RX10_53 rfl ?_
  refine cs_get (i := 13) (pc := 28) dX10_shoot_28 rfl f_RX10_198 (by decide) rfl rfl ?_
  refine q_istore_n [_, _, _] (pc := 31) dX10_shoot_31 rfl (by decide) rfl ?_
  refine r_aload_n (pc := 32) dX10_shoot_32 rfl rfl ?_
  refine r_getfield (pc := 33) dX10_shoot_33 rfl f_RX10_12 ((sH_out (Or.inl (by decide))).trans hg') rfl ?_
  refine r_iload_n (pc := 36) dX10_shoot_36 rfl rfl ?_
  refine q_callV (ci := 6) (T := TX7) (N := 7) (vs := [.int _]) (pc := 37) dX10_shoot_37 rfl l_RX10_201 rfl ⟨by decide, by decide⟩ rfl (Nat.le_of_ble_eq_true rfl) hl sH_0 rfl (Nat.le_of_ble_eq_true rfl) (s_X7_takeShots hl A _ s hd hs hA hw hx) sH_22 ?_
  refine r_aload_n (pc := 40) dX10_shoot_40 rfl rfl ?_
  refine r_getfield (pc := 41) dX10_shoot_41 rfl f_RX10_12 ((sH_out (Or.inl (by decide))).trans hg') rfl ?_
  refine cs_get0 (pc := 44) dX10_shoot_44 rfl f_RX10_53 rfl ?_
  refine cs_get (i := 13) (pc := 47) dX10_shoot_47 rfl f_RX10_198 (by decide) rfl rfl ?_
  refine r_iload_n (pc := 50) dX10_shoot_50 rfl rfl ?_
  refine r_isub (pc := 51) dX10_shoot_51 ?_
  exact r_ireturn (S := []) (pc := 52) dX10_shoot_52 rfl rfl ⟨rfl, rfl⟩
theorem s_X10_forget {om : OM} {l : Launch} {B : Nat × Nat} {R : Hp} {C : Nat → Int32} {W : Nat → Int64} {ns cnt : Int32} (hl : l.stackTraces = false) (hg : R.1 0 = .inr (8, gf ns cnt)) {R' : Hp} {ns' cnt' : Int32} (hg' : R'.1 0 = .inr (8, gf ns' cnt')) (hR : R'.2 = R.2) (hsv : ∀ B : Nat × Nat, Runs om l M_X10_save B 0 (entL 1 [.ref 0]) [] (sH R 1 C W) (Det none (sH R' 1 C W))) : Runs om l M_X10_forget B 0 (entL 2 [.ref 0]) [] (sH R 1 C W) (Det (some (.int (C 647))) (sH R' 1 (upd C 647 0) (K_zero W 8))) := by
  show Runs om l M_X10_forget B 0 [some (.ref 0), none] [] _ _
  refine r_aload_n (pc := 0) dX10_forget_0 rfl rfl ?_
  refine q_callV (ci := 8) (T := TX10) (N := 6) (vs := []) (pc := 1) dX10_forget_1 rfl l_RX10_50 rfl ⟨by decide, by decide⟩ rfl (Nat.le_of_ble_eq_true rfl) hl ((sH_out (Or.inl (by decide))).trans hg) rfl (Nat.le_of_ble_eq_true rfl) (hsv _) hR ?_
  refine r_aload_n (pc := 4) dX10_forget_4 rfl rfl ?_
  refine r_getfield (pc := 5) dX10_forget_5 rfl f_RX10_12 ((sH_out (Or.inl (by decide))).trans hg') rfl ?_
  refine cs_get0 (pc := 8) dX10_forget_8 rfl f_RX10_168 rfl ?_
  refine cs_get (i := 6) (pc := 11) dX10_forget_11 rfl f_RX10_189 (by decide) rfl rfl ?_
  refine q_istore_n [_, _] (pc := 14) dX10_forget_14 rfl (by decide) rfl ?_
  refine r_aload_n (pc := 15) dX10_forget_15 rfl rfl ?_
  refine r_getfield (pc := 16) dX10_forget_16 rfl f_RX10_12 ((sH_out (Or.inl (by decide))).trans hg') rfl ?_
  refine cs_get0 (pc := 19) dX10_forget_19 rfl f_RX10_168 rfl ?_
  refine q_callV (ci := 4) (T := TX5) (N := 2) (vs := []) (pc := 22) dX10_forget_22 rfl l_RX10_192 rfl ⟨by decide, by decide⟩ rfl (Nat.le_of_ble_eq_true rfl) hl (sH_at (i := 6) (by decide)) rfl (Nat.le_of_ble_eq_true rfl) (s_X5_reset) sH_22 ?_
  refine r_iload_n (pc := 25) dX10_forget_25 rfl rfl ?_
  exact r_ireturn (S := []) (pc := 26) dX10_forget_26 rfl rfl ⟨rfl, rfl⟩
theorem s_X10_echo_yes {om : OM} {l : Launch} {B : Nat × Nat} {R : Hp} {C : Nat → Int32} {W : Nat → Int64} {ns cnt : Int32} (hl : l.stackTraces = false) (hg : R.1 0 = .inr (8, gf ns cnt)) (x y : Int32) (k q K : Nat) (hx : x = nI k) (hy : y = nI q) (hq : q ≤ 5) (hK : C 41 = nI K) (hK15 : K ≤ 15) (hk : k < K) : Runs om l M_X10_echo B 0 (entL 3 [.ref 0, .int x, .int y]) [] (sH R 1 C W) (Det (some (.int (K_val C k q))) (sH R 1 C W)) := by
  show Runs om l M_X10_echo B 0 [some (.ref 0), some (.int x), some (.int y)] [] _ _
  refine r_iload_n (pc := 0) dX10_echo_0 rfl rfl ?_
  refine r_if_lt 14 (pc := 1) dX10_echo_1 (by decide) (fun c1 => absurd c1 (c_ltf hx rfl (a := k) (b := 0) (by omega) (by omega) (by omega))) (fun c1 => ?_)
  refine r_iload_n (pc := 4) dX10_echo_4 rfl rfl ?_
  refine r_if_lt 14 (pc := 5) dX10_echo_5 (by decide) (fun c5 => absurd c5 (c_ltf hy rfl (a := q) (b := 0) (by omega) (by omega) (by omega))) (fun c5 => ?_)
  refine r_iload_n (pc := 8) dX10_echo_8 rfl rfl ?_
  refine r_bipush (v := 6) (pc := 9) dX10_echo_9 (by decide) ?_
  refine r_icmp_lt 24 (pc := 11) dX10_echo_11 (by decide) (fun c11 => ?_) (fun c11 => absurd (c_ltt hy rfl (a := q) (b := 6) (by omega) (by omega) (by omega)) c11)
  refine r_aload_n (pc := 24) dX10_echo_24 rfl rfl ?_
  refine r_getfield (pc := 25) dX10_echo_25 rfl f_RX10_12 ((sH_out (Or.inl (by decide))).trans hg) rfl ?_
  refine cs_get0 (pc := 28) dX10_echo_28 rfl f_RX10_206 rfl ?_
  refine r_iload_n (pc := 31) dX10_echo_31 rfl rfl ?_
  refine r_iload_n (pc := 32) dX10_echo_32 rfl rfl ?_
  refine q_callV (ci := 2) (T := TX3) (N := 5) (vs := [.int _, .int _]) (pc := 33) dX10_echo_33 rfl l_RX10_210 rfl ⟨by decide, by decide⟩ rfl (Nat.le_of_ble_eq_true rfl) hl (sH_at (i := 8) (by decide)) rfl (Nat.le_of_ble_eq_true rfl) (s_X3_value hl _ k K hx hK hk hK15 _ q hy hq) sH_22 ?_
  exact r_ireturn (S := []) (pc := 36) dX10_echo_36 rfl rfl ⟨rfl, rfl⟩
theorem s_X10_pick_yes {om : OM} {l : Launch} {B : Nat × Nat} {R : Hp} {C : Nat → Int32} {W : Nat → Int64} {ns cnt : Int32} (hl : l.stackTraces = false) (hg : R.1 0 = .inr (8, gf ns cnt)) (x : Int32) (k K : Nat) (hx : x = nI k) (hK : C 31 = nI K) (hK9 : K ≤ 9) (hk : k < K) : Runs om l M_X10_pick B 0 (entL 2 [.ref 0, .int x]) [] (sH R 1 C W) (Det (some (.int (C (32 + k)))) (sH R 1 C W)) := by
  show Runs om l M_X10_pick B 0 [some (.ref 0), some (.int x)] [] _ _
  refine r_iload_n (pc := 0) dX10_pick_0 rfl rfl ?_
  refine r_if_ge 14 (pc := 1) dX10_pick_1 (by decide) (fun c1 => ?_) (fun c1 => absurd (c_get hx rfl (a := k) (b := 0) (by omega) (by omega) (by omega)) c1)
  refine r_aload_n (pc := 14) dX10_pick_14 rfl rfl ?_
  refine r_getfield (pc := 15) dX10_pick_15 rfl f_RX10_12 ((sH_out (Or.inl (by decide))).trans hg) rfl ?_
  refine cs_get0 (pc := 18) dX10_pick_18 rfl f_RX10_53 rfl ?_
  refine r_iload_n (pc := 21) dX10_pick_21 rfl rfl ?_
  refine q_callV (ci := 3) (T := TX4) (N := 9) (vs := [.int _]) (pc := 22) dX10_pick_22 rfl l_RX10_217 rfl ⟨by decide, by decide⟩ rfl (Nat.le_of_ble_eq_true rfl) hl (sH_at (i := 13) (by decide)) rfl (Nat.le_of_ble_eq_true rfl) (s_X4_pickAt K hK hK9 k _ hx hk) sH_22 ?_
  exact r_ireturn (S := []) (pc := 25) dX10_pick_25 rfl rfl ⟨rfl, rfl⟩
theorem s_X10_pick_yesO {om : OM} {l : Launch} {B : Nat × Nat} {R : Hp} {C : Nat → Int32} {W : Nat → Int64} {ns cnt : Int32} (hl : l.stackTraces = false) (hg : R.1 0 = .inr (8, gf ns cnt)) (x : Int32) (k K : Nat) (hx : x = nI k) (hK : C 31 = nI K) (hK9 : K ≤ 9) (hk : K ≤ k) (hk2 : k < 2 ^ 31) : Runs om l M_X10_pick B 0 (entL 2 [.ref 0, .int x]) [] (sH R 1 C W) (Det (some (.int (-1))) (sH R 1 C W)) := by
  show Runs om l M_X10_pick B 0 [some (.ref 0), some (.int x)] [] _ _
  refine r_iload_n (pc := 0) dX10_pick_0 rfl rfl ?_
  refine r_if_ge 14 (pc := 1) dX10_pick_1 (by decide) (fun c1 => ?_) (fun c1 => absurd (c_get hx rfl (a := k) (b := 0) (by omega) (by omega) (by omega)) c1)
  refine r_aload_n (pc := 14) dX10_pick_14 rfl rfl ?_
  refine r_getfield (pc := 15) dX10_pick_15 rfl f_RX10_12 ((sH_out (Or.inl (by decide))).trans hg) rfl ?_
  refine cs_get0 (pc := 18) dX10_pick_18 rfl f_RX10_53 rfl ?_
  refine r_iload_n (pc := 21) dX10_pick_21 rfl rfl ?_
  refine q_callV (ci := 3) (T := TX4) (N := 9) (vs := [.int _]) (pc := 22) dX10_pick_22 rfl l_RX10_217 rfl ⟨by decide, by decide⟩ rfl (Nat.le_of_ble_eq_true rfl) hl (sH_at (i := 13) (by decide)) rfl (Nat.le_of_ble_eq_true rfl) (s_X4_pickAtO K hK hK9 k _ hx hk hk2) sH_22 ?_
  exact r_ireturn (S := []) (pc := 25) dX10_pick_25 rfl rfl ⟨rfl, rfl⟩
theorem s_X10_isMasked_yes {om : OM} {l : Launch} {B : Nat × Nat} {R : Hp} {C : Nat → Int32} {W : Nat → Int64} {ns cnt : Int32} (hl : l.stackTraces = false) (hg : R.1 0 = .inr (8, gf ns cnt)) (d : Int32) (h : R_in d 0 10000 = 1) (x : Nat) (hx : d = nI x) (hx1 : x ≤ 10000) : Runs om l M_X10_isMasked B 0 (entL 2 [.ref 0, .int d]) [] (sH R 1 C W) (Det (some (.int (K_bin W (x / 20)))) (sH R 1 C W)) := by
  show Runs om l M_X10_isMasked B 0 [some (.ref 0), some (.int d)] [] _ _
  refine r_iload_n (pc := 0) dX10_isMasked_0 rfl rfl ?_
  refine q_callS (vs := [.int _]) (pc := 1) dX10_isMasked_1 rfl l_RX10_163 rfl ⟨by decide, by decide⟩ rfl (Nat.le_of_ble_eq_true rfl) hl (Nat.le_of_ble_eq_true rfl) (s_X10_allowsDistance _) sH_22 ?_
  refine r_if_ne 17 (pc := 4) dX10_isMasked_4 (by decide) (fun c4 => ?_) (fun c4 => absurd c4 (c_eqf h rfl (a := 1) (b := 0) (by omega) (by omega) (by omega)))
  refine r_aload_n (pc := 17) dX10_isMasked_17 rfl rfl ?_
  refine r_getfield (pc := 18) dX10_isMasked_18 rfl f_RX10_12 ((sH_out (Or.inl (by decide))).trans hg) rfl ?_
  refine cs_get0 (pc := 21) dX10_isMasked_21 rfl f_RX10_168 rfl ?_
  refine r_iload_n (pc := 24) dX10_isMasked_24 rfl rfl ?_
  refine q_callV (ci := 4) (T := TX5) (N := 2) (vs := [.int _]) (pc := 25) dX10_isMasked_25 rfl l_RX10_172 rfl ⟨by decide, by decide⟩ rfl (Nat.le_of_ble_eq_true rfl) hl (sH_at (i := 6) (by decide)) rfl (Nat.le_of_ble_eq_true rfl) (s_X5_covers hl x _ hx (by omega)) sH_22 ?_
  exact r_ireturn (S := []) (pc := 28) dX10_isMasked_28 rfl (nar_b (bin01 _ _)) ⟨rfl, rfl⟩
theorem s_X10_need_yes {om : OM} {l : Launch} {B : Nat × Nat} {R : Hp} {C : Nat → Int32} {W : Nat → Int64} {ns cnt : Int32} (hl : l.stackTraces = false) (hg : R.1 0 = .inr (8, gf ns cnt)) (d : Int32) (h : R_in d 0 10000 = 1)  : Runs om l M_X10_need B 0 (entL 2 [.ref 0, .int d]) [] (sH R 1 C W) (Det (some (.int (R_need C d))) (sH R 1 C W)) := by
  show Runs om l M_X10_need B 0 [some (.ref 0), some (.int d)] [] _ _
  refine r_iload_n (pc := 0) dX10_need_0 rfl rfl ?_
  refine q_callS (vs := [.int _]) (pc := 1) dX10_need_1 rfl l_RX10_163 rfl ⟨by decide, by decide⟩ rfl (Nat.le_of_ble_eq_true rfl) hl (Nat.le_of_ble_eq_true rfl) (s_X10_allowsDistance _) sH_22 ?_
  refine r_if_ne 17 (pc := 4) dX10_need_4 (by decide) (fun c4 => ?_) (fun c4 => absurd c4 (c_eqf h rfl (a := 1) (b := 0) (by omega) (by omega) (by omega)))
  refine r_aload_n (pc := 17) dX10_need_17 rfl rfl ?_
  refine r_getfield (pc := 18) dX10_need_18 rfl f_RX10_12 ((sH_out (Or.inl (by decide))).trans hg) rfl ?_
  refine cs_get0 (pc := 21) dX10_need_21 rfl f_RX10_140 rfl ?_
  refine r_iload_n (pc := 24) dX10_need_24 rfl rfl ?_
  refine q_callV (ci := 5) (T := TX6) (N := 1) (vs := [.int _]) (pc := 25) dX10_need_25 rfl l_RX10_220 rfl ⟨by decide, by decide⟩ rfl (Nat.le_of_ble_eq_true rfl) hl (sH_at (i := 4) (by decide)) rfl (Nat.le_of_ble_eq_true rfl) (s_X6_needAt hl _) sH_22 ?_
  exact r_ireturn (S := []) (pc := 28) dX10_need_28 rfl rfl ⟨rfl, rfl⟩
theorem s_X10_setting_yes {om : OM} {l : Launch} {B : Nat × Nat} {R : Hp} {C : Nat → Int32} {W : Nat → Int64} {ns cnt : Int32} (hl : l.stackTraces = false) (hg : R.1 0 = .inr (8, gf ns cnt)) (d : Int32) (h : R_in d 0 11 = 1) (k : Nat) (hx : d = nI k) (hk : k < 12) : Runs om l M_X10_setting B 0 (entL 2 [.ref 0, .int d]) [] (sH R 1 C W) (Det (some (.int (C (12 + k)))) (sH R 1 C W)) := by
  show Runs om l M_X10_setting B 0 [some (.ref 0), some (.int d)] [] _ _
  refine r_iload_n (pc := 0) dX10_setting_0 rfl rfl ?_
  refine q_callS (vs := [.int _]) (pc := 1) dX10_setting_1 rfl l_RX10_254 rfl ⟨by decide, by decide⟩ rfl (Nat.le_of_ble_eq_true rfl) hl (Nat.le_of_ble_eq_true rfl) (s_X6_has _) sH_22 ?_
  refine r_if_ne 17 (pc := 4) dX10_setting_4 (by decide) (fun c4 => ?_) (fun c4 => absurd c4 (c_eqf h rfl (a := 1) (b := 0) (by omega) (by omega) (by omega)))
  refine r_aload_n (pc := 17) dX10_setting_17 rfl rfl ?_
  refine r_getfield (pc := 18) dX10_setting_18 rfl f_RX10_12 ((sH_out (Or.inl (by decide))).trans hg) rfl ?_
  refine cs_get0 (pc := 21) dX10_setting_21 rfl f_RX10_140 rfl ?_
  refine r_iload_n (pc := 24) dX10_setting_24 rfl rfl ?_
  refine q_callV (ci := 5) (T := TX6) (N := 1) (vs := [.int _]) (pc := 25) dX10_setting_25 rfl l_RX10_151 rfl ⟨by decide, by decide⟩ rfl (Nat.le_of_ble_eq_true rfl) hl (sH_at (i := 4) (by decide)) rfl (Nat.le_of_ble_eq_true rfl) (s_X6_value hl _ k hx hk) sH_22 ?_
  exact r_ireturn (S := []) (pc := 28) dX10_setting_28 rfl rfl ⟨rfl, rfl⟩
def K_gau (C : Nat → Int32) (K k : Nat) : Int32 := if k = 0 then C 24 else if k = 1 then C 25 else if k = 2 then C 26 else if k = 3 then K_tl C (C 0) else if k = 4 then C 27 else if k = 5 then C 28 else if k = 6 then C 647 else if k = 7 then C 41 else if k = 8 then C 31 else if k = 9 then R_kp C K else if k = 10 then K_med C K (C 18) else if k = 11 then C 29 else C 30
theorem s_X10_tank_yes {om : OM} {l : Launch} {B : Nat × Nat} {R : Hp} {C : Nat → Int32} {W : Nat → Int64} {ns cnt : Int32} (hl : l.stackTraces = false) (hg : R.1 0 = .inr (8, gf ns cnt)) (x : Int32) (k : Nat) (hx : x = nI k) (hk : k ≤ 11)  : Runs om l M_X10_tank B 0 (entL 3 [.ref 0, .int x]) [] (sH R 1 C W) (Det (some (.int (C k))) (sH R 1 C W)) := by
  subst hx
  have hk' : k = 0 ∨ k = 1 ∨ k = 2 ∨ k = 3 ∨ k = 4 ∨ k = 5 ∨ k = 6 ∨ k = 7 ∨ k = 8 ∨ k = 9 ∨ k = 10 ∨ k = 11 := by omega
  rcases hk' with rfl | rfl | rfl | rfl | rfl | rfl | rfl | rfl | rfl | rfl | rfl | rfl
  · show Runs om l M_X10_tank B 0 [some (.ref 0), some (.int (nI 0)), none] [] _ _
    refine r_aload_n (pc := 0) dX10_tank_0 rfl rfl ?_
    refine r_getfield (pc := 1) dX10_tank_1 rfl f_RX10_12 ((sH_out (Or.inl (by decide))).trans hg) rfl ?_
    refine cs_get0 (pc := 4) dX10_tank_4 rfl f_RX10_66 rfl ?_
    refine q_astore_n [_, _, _] (pc := 7) dX10_tank_7 rfl (by decide) rfl ?_
    refine r_iload_n (pc := 8) dX10_tank_8 rfl rfl ?_
    refine r_tableIn 72 (pc := 9) dX10_tank_9 (by decide) (by decide) rfl (by decide) ?_
    refine r_aload_n (pc := 72) dX10_tank_72 rfl rfl ?_
    refine cs_get (i := 1) (pc := 73) dX10_tank_73 rfl f_RX10_236 (by decide) rfl rfl ?_
    exact r_ireturn (S := []) (pc := 76) dX10_tank_76 rfl rfl ⟨rfl, rfl⟩
  · show Runs om l M_X10_tank B 0 [some (.ref 0), some (.int (nI 1)), none] [] _ _
    refine r_aload_n (pc := 0) dX10_tank_0 rfl rfl ?_
    refine r_getfield (pc := 1) dX10_tank_1 rfl f_RX10_12 ((sH_out (Or.inl (by decide))).trans hg) rfl ?_
    refine cs_get0 (pc := 4) dX10_tank_4 rfl f_RX10_66 rfl ?_
    refine q_astore_n [_, _, _] (pc := 7) dX10_tank_7 rfl (by decide) rfl ?_
    refine r_iload_n (pc := 8) dX10_tank_8 rfl rfl ?_
    refine r_tableIn 77 (pc := 9) dX10_tank_9 (by decide) (by decide) rfl (by decide) ?_
    refine r_aload_n (pc := 77) dX10_tank_77 rfl rfl ?_
    refine cs_get (i := 1) (pc := 78) dX10_tank_78 rfl f_RX10_75 (by decide) rfl rfl ?_
    exact r_ireturn (S := []) (pc := 81) dX10_tank_81 rfl rfl ⟨rfl, rfl⟩
  · show Runs om l M_X10_tank B 0 [some (.ref 0), some (.int (nI 2)), none] [] _ _
    refine r_aload_n (pc := 0) dX10_tank_0 rfl rfl ?_
    refine r_getfield (pc := 1) dX10_tank_1 rfl f_RX10_12 ((sH_out (Or.inl (by decide))).trans hg) rfl ?_
    refine cs_get0 (pc := 4) dX10_tank_4 rfl f_RX10_66 rfl ?_
    refine q_astore_n [_, _, _] (pc := 7) dX10_tank_7 rfl (by decide) rfl ?_
    refine r_iload_n (pc := 8) dX10_tank_8 rfl rfl ?_
    refine r_tableIn 82 (pc := 9) dX10_tank_9 (by decide) (by decide) rfl (by decide) ?_
    refine r_aload_n (pc := 82) dX10_tank_82 rfl rfl ?_
    refine cs_get (i := 1) (pc := 83) dX10_tank_83 rfl f_RX10_83 (by decide) rfl rfl ?_
    exact r_ireturn (S := []) (pc := 86) dX10_tank_86 rfl rfl ⟨rfl, rfl⟩
  · show Runs om l M_X10_tank B 0 [some (.ref 0), some (.int (nI 3)), none] [] _ _
    refine r_aload_n (pc := 0) dX10_tank_0 rfl rfl ?_
    refine r_getfield (pc := 1) dX10_tank_1 rfl f_RX10_12 ((sH_out (Or.inl (by decide))).trans hg) rfl ?_
    refine cs_get0 (pc := 4) dX10_tank_4 rfl f_RX10_66 rfl ?_
    refine q_astore_n [_, _, _] (pc := 7) dX10_tank_7 rfl (by decide) rfl ?_
    refine r_iload_n (pc := 8) dX10_tank_8 rfl rfl ?_
    refine r_tableIn 87 (pc := 9) dX10_tank_9 (by decide) (by decide) rfl (by decide) ?_
    refine r_aload_n (pc := 87) dX10_tank_87 rfl rfl ?_
    refine cs_get (i := 1) (pc := 88) dX10_tank_88 rfl f_RX10_91 (by decide) rfl rfl ?_
    exact r_ireturn (S := []) (pc := 91) dX10_tank_91 rfl rfl ⟨rfl, rfl⟩
  · show Runs om l M_X10_tank B 0 [some (.ref 0), some (.int (nI 4)), none] [] _ _
    refine r_aload_n (pc := 0) dX10_tank_0 rfl rfl ?_
    refine r_getfield (pc := 1) dX10_tank_1 rfl f_RX10_12 ((sH_out (Or.inl (by decide))).trans hg) rfl ?_
    refine cs_get0 (pc := 4) dX10_tank_4 rfl f_RX10_66 rfl ?_
    refine q_astore_n [_, _, _] (pc := 7) dX10_tank_7 rfl (by decide) rfl ?_
    refine r_iload_n (pc := 8) dX10_tank_8 rfl rfl ?_
    refine r_tableIn 92 (pc := 9) dX10_tank_9 (by decide) (by decide) rfl (by decide) ?_
    refine r_aload_n (pc := 92) dX10_tank_92 rfl rfl ?_
    refine cs_get (i := 1) (pc := 93) dX10_tank_93 rfl f_RX10_113 (by decide) rfl rfl ?_
    exact r_ireturn (S := []) (pc := 96) dX10_tank_96 rfl rfl ⟨rfl, rfl⟩
  · show Runs om l M_X10_tank B 0 [some (.ref 0), some (.int (nI 5)), none] [] _ _
    refine r_aload_n (pc := 0) dX10_tank_0 rfl rfl ?_
    refine r_getfield (pc := 1) dX10_tank_1 rfl f_RX10_12 ((sH_out (Or.inl (by decide))).trans hg) rfl ?_
    refine cs_get0 (pc := 4) dX10_tank_4 rfl f_RX10_66 rfl ?_
    refine q_astore_n [_, _, _] (pc := 7) dX10_tank_7 rfl (by decide) rfl ?_
    refine r_iload_n (pc := 8) dX10_tank_8 rfl rfl ?_
    refine r_tableIn 97 (pc := 9) dX10_tank_9 (by decide) (by decide) rfl (by decide) ?_
    refine r_aload_n (pc := 97) dX10_tank_97 rfl rfl ?_
    refine cs_get (i := 1) (pc := 98) dX10_tank_98 rfl f_RX10_133 (by decide) rfl rfl ?_
    exact r_ireturn (S := []) (pc := 101) dX10_tank_101 rfl rfl ⟨rfl, rfl⟩
  · show Runs om l M_X10_tank B 0 [some (.ref 0), some (.int (nI 6)), none] [] _ _
    refine r_aload_n (pc := 0) dX10_tank_0 rfl rfl ?_
    refine r_getfield (pc := 1) dX10_tank_1 rfl f_RX10_12 ((sH_out (Or.inl (by decide))).trans hg) rfl ?_
    refine cs_get0 (pc := 4) dX10_tank_4 rfl f_RX10_66 rfl ?_
    refine q_astore_n [_, _, _] (pc := 7) dX10_tank_7 rfl (by decide) rfl ?_
    refine r_iload_n (pc := 8) dX10_tank_8 rfl rfl ?_
    refine r_tableIn 102 (pc := 9) dX10_tank_9 (by decide) (by decide) rfl (by decide) ?_
    refine r_aload_n (pc := 102) dX10_tank_102 rfl rfl ?_
    refine cs_get (i := 1) (pc := 103) dX10_tank_103 rfl f_RX10_239 (by decide) rfl rfl ?_
    exact r_ireturn (S := []) (pc := 106) dX10_tank_106 rfl rfl ⟨rfl, rfl⟩
  · show Runs om l M_X10_tank B 0 [some (.ref 0), some (.int (nI 7)), none] [] _ _
    refine r_aload_n (pc := 0) dX10_tank_0 rfl rfl ?_
    refine r_getfield (pc := 1) dX10_tank_1 rfl f_RX10_12 ((sH_out (Or.inl (by decide))).trans hg) rfl ?_
    refine cs_get0 (pc := 4) dX10_tank_4 rfl f_RX10_66 rfl ?_
    refine q_astore_n [_, _, _] (pc := 7) dX10_tank_7 rfl (by decide) rfl ?_
    refine r_iload_n (pc := 8) dX10_tank_8 rfl rfl ?_
    refine r_tableIn 107 (pc := 9) dX10_tank_9 (by decide) (by decide) rfl (by decide) ?_
    refine r_aload_n (pc := 107) dX10_tank_107 rfl rfl ?_
    refine cs_get (i := 1) (pc := 108) dX10_tank_108 rfl f_RX10_242 (by decide) rfl rfl ?_
    exact r_ireturn (S := []) (pc := 111) dX10_tank_111 rfl rfl ⟨rfl, rfl⟩
  · show Runs om l M_X10_tank B 0 [some (.ref 0), some (.int (nI 8)), none] [] _ _
    refine r_aload_n (pc := 0) dX10_tank_0 rfl rfl ?_
    refine r_getfield (pc := 1) dX10_tank_1 rfl f_RX10_12 ((sH_out (Or.inl (by decide))).trans hg) rfl ?_
    refine cs_get0 (pc := 4) dX10_tank_4 rfl f_RX10_66 rfl ?_
    refine q_astore_n [_, _, _] (pc := 7) dX10_tank_7 rfl (by decide) rfl ?_
    refine r_iload_n (pc := 8) dX10_tank_8 rfl rfl ?_
    refine r_tableIn 112 (pc := 9) dX10_tank_9 (by decide) (by decide) rfl (by decide) ?_
    refine r_aload_n (pc := 112) dX10_tank_112 rfl rfl ?_
    refine cs_get (i := 1) (pc := 113) dX10_tank_113 rfl f_RX10_245 (by decide) rfl rfl ?_
    exact r_ireturn (S := []) (pc := 116) dX10_tank_116 rfl rfl ⟨rfl, rfl⟩
  · show Runs om l M_X10_tank B 0 [some (.ref 0), some (.int (nI 9)), none] [] _ _
    refine r_aload_n (pc := 0) dX10_tank_0 rfl rfl ?_
    refine r_getfield (pc := 1) dX10_tank_1 rfl f_RX10_12 ((sH_out (Or.inl (by decide))).trans hg) rfl ?_
    refine cs_get0 (pc := 4) dX10_tank_4 rfl f_RX10_66 rfl ?_
    refine q_astore_n [_, _, _] (pc := 7) dX10_tank_7 rfl (by decide) rfl ?_
    refine r_iload_n (pc := 8) dX10_tank_8 rfl rfl ?_
    refine r_tableIn 117 (pc := 9) dX10_tank_9 (by decide) (by decide) rfl (by decide) ?_
    refine r_aload_n (pc := 117) dX10_tank_117 rfl rfl ?_
    refine cs_get (i := 1) (pc := 118) dX10_tank_118 rfl f_RX10_248 (by decide) rfl rfl ?_
    exact r_ireturn (S := []) (pc := 121) dX10_tank_121 rfl rfl ⟨rfl, rfl⟩
  · show Runs om l M_X10_tank B 0 [some (.ref 0), some (.int (nI 10)), none] [] _ _
    refine r_aload_n (pc := 0) dX10_tank_0 rfl rfl ?_
    refine r_getfield (pc := 1) dX10_tank_1 rfl f_RX10_12 ((sH_out (Or.inl (by decide))).trans hg) rfl ?_
    refine cs_get0 (pc := 4) dX10_tank_4 rfl f_RX10_66 rfl ?_
    refine q_astore_n [_, _, _] (pc := 7) dX10_tank_7 rfl (by decide) rfl ?_
    refine r_iload_n (pc := 8) dX10_tank_8 rfl rfl ?_
    refine r_tableIn 122 (pc := 9) dX10_tank_9 (by decide) (by decide) rfl (by decide) ?_
    refine r_aload_n (pc := 122) dX10_tank_122 rfl rfl ?_
    refine cs_get (i := 1) (pc := 123) dX10_tank_123 rfl f_RX10_251 (by decide) rfl rfl ?_
    exact r_ireturn (S := []) (pc := 126) dX10_tank_126 rfl rfl ⟨rfl, rfl⟩
  · show Runs om l M_X10_tank B 0 [some (.ref 0), some (.int (nI 11)), none] [] _ _
    refine r_aload_n (pc := 0) dX10_tank_0 rfl rfl ?_
    refine r_getfield (pc := 1) dX10_tank_1 rfl f_RX10_12 ((sH_out (Or.inl (by decide))).trans hg) rfl ?_
    refine cs_get0 (pc := 4) dX10_tank_4 rfl f_RX10_66 rfl ?_
    refine q_astore_n [_, _, _] (pc := 7) dX10_tank_7 rfl (by decide) rfl ?_
    refine r_iload_n (pc := 8) dX10_tank_8 rfl rfl ?_
    refine r_tableIn 127 (pc := 9) dX10_tank_9 (by decide) (by decide) rfl (by decide) ?_
    refine r_aload_n (pc := 127) dX10_tank_127 rfl rfl ?_
    refine cs_get (i := 1) (pc := 128) dX10_tank_128 rfl f_RX10_160 (by decide) rfl rfl ?_
    exact r_ireturn (S := []) (pc := 131) dX10_tank_131 rfl rfl ⟨rfl, rfl⟩
theorem s_X10_gauge_yes {om : OM} {l : Launch} {B : Nat × Nat} {R : Hp} {C : Nat → Int32} {W : Nat → Int64} {ns cnt : Int32} (hl : l.stackTraces = false) (hg : R.1 0 = .inr (8, gf ns cnt)) (x : Int32) (k : Nat) (hx : x = nI k) (hk : k ≤ 12) (K : Nat) (hK : C 31 = nI K) (hK9 : K ≤ 9) : Runs om l M_X10_gauge B 0 (entL 3 [.ref 0, .int x]) [] (sH R 1 C W) (Det (some (.int (K_gau C K k))) (sH R 1 C W)) := by
  subst hx
  have hk' : k = 0 ∨ k = 1 ∨ k = 2 ∨ k = 3 ∨ k = 4 ∨ k = 5 ∨ k = 6 ∨ k = 7 ∨ k = 8 ∨ k = 9 ∨ k = 10 ∨ k = 11 ∨ k = 12 := by omega
  rcases hk' with rfl | rfl | rfl | rfl | rfl | rfl | rfl | rfl | rfl | rfl | rfl | rfl | rfl
  · show Runs om l M_X10_gauge B 0 [some (.ref 0), some (.int (nI 0)), none] [] _ _
    refine r_aload_n (pc := 0) dX10_gauge_0 rfl rfl ?_
    refine r_getfield (pc := 1) dX10_gauge_1 rfl f_RX10_12 ((sH_out (Or.inl (by decide))).trans hg) rfl ?_
    refine cs_get0 (pc := 4) dX10_gauge_4 rfl f_RX10_53 rfl ?_
    refine q_astore_n [_, _, _] (pc := 7) dX10_gauge_7 rfl (by decide) rfl ?_
    refine r_iload_n (pc := 8) dX10_gauge_8 rfl rfl ?_
    refine r_tableIn 76 (pc := 9) dX10_gauge_9 (by decide) (by decide) rfl (by decide) ?_
    refine r_aload_n (pc := 76) dX10_gauge_76 rfl rfl ?_
    refine cs_get (i := 13) (pc := 77) dX10_gauge_77 rfl f_RX10_57 (by decide) rfl rfl ?_
    exact r_ireturn (S := []) (pc := 80) dX10_gauge_80 rfl rfl ⟨rfl, rfl⟩
  · show Runs om l M_X10_gauge B 0 [some (.ref 0), some (.int (nI 1)), none] [] _ _
    refine r_aload_n (pc := 0) dX10_gauge_0 rfl rfl ?_
    refine r_getfield (pc := 1) dX10_gauge_1 rfl f_RX10_12 ((sH_out (Or.inl (by decide))).trans hg) rfl ?_
    refine cs_get0 (pc := 4) dX10_gauge_4 rfl f_RX10_53 rfl ?_
    refine q_astore_n [_, _, _] (pc := 7) dX10_gauge_7 rfl (by decide) rfl ?_
    refine r_iload_n (pc := 8) dX10_gauge_8 rfl rfl ?_
    refine r_tableIn 81 (pc := 9) dX10_gauge_9 (by decide) (by decide) rfl (by decide) ?_
    refine r_aload_n (pc := 81) dX10_gauge_81 rfl rfl ?_
    refine cs_get (i := 13) (pc := 82) dX10_gauge_82 rfl f_RX10_198 (by decide) rfl rfl ?_
    exact r_ireturn (S := []) (pc := 85) dX10_gauge_85 rfl rfl ⟨rfl, rfl⟩
  · show Runs om l M_X10_gauge B 0 [some (.ref 0), some (.int (nI 2)), none] [] _ _
    refine r_aload_n (pc := 0) dX10_gauge_0 rfl rfl ?_
    refine r_getfield (pc := 1) dX10_gauge_1 rfl f_RX10_12 ((sH_out (Or.inl (by decide))).trans hg) rfl ?_
    refine cs_get0 (pc := 4) dX10_gauge_4 rfl f_RX10_53 rfl ?_
    refine q_astore_n [_, _, _] (pc := 7) dX10_gauge_7 rfl (by decide) rfl ?_
    refine r_iload_n (pc := 8) dX10_gauge_8 rfl rfl ?_
    refine r_tableIn 86 (pc := 9) dX10_gauge_9 (by decide) (by decide) rfl (by decide) ?_
    refine r_aload_n (pc := 86) dX10_gauge_86 rfl rfl ?_
    refine cs_get (i := 13) (pc := 87) dX10_gauge_87 rfl f_RX10_257 (by decide) rfl rfl ?_
    exact r_ireturn (S := []) (pc := 90) dX10_gauge_90 rfl rfl ⟨rfl, rfl⟩
  · show Runs om l M_X10_gauge B 0 [some (.ref 0), some (.int (nI 3)), none] [] _ _
    refine r_aload_n (pc := 0) dX10_gauge_0 rfl rfl ?_
    refine r_getfield (pc := 1) dX10_gauge_1 rfl f_RX10_12 ((sH_out (Or.inl (by decide))).trans hg) rfl ?_
    refine cs_get0 (pc := 4) dX10_gauge_4 rfl f_RX10_53 rfl ?_
    refine q_astore_n [_, _, _] (pc := 7) dX10_gauge_7 rfl (by decide) rfl ?_
    refine r_iload_n (pc := 8) dX10_gauge_8 rfl rfl ?_
    refine r_tableIn 91 (pc := 9) dX10_gauge_9 (by decide) (by decide) rfl (by decide) ?_
    refine r_aload_n (pc := 91) dX10_gauge_91 rfl rfl ?_
    refine r_aload_n (pc := 92) dX10_gauge_92 rfl rfl ?_
    refine r_getfield (pc := 93) dX10_gauge_93 rfl f_RX10_12 ((sH_out (Or.inl (by decide))).trans hg) rfl ?_
    refine cs_get0 (pc := 96) dX10_gauge_96 rfl f_RX10_66 rfl ?_
    refine cs_get (i := 1) (pc := 99) dX10_gauge_99 rfl f_RX10_236 (by decide) rfl rfl ?_
    refine q_callV (ci := 3) (T := TX4) (N := 9) (vs := [.int _]) (pc := 102) dX10_gauge_102 rfl l_RX10_260 rfl ⟨by decide, by decide⟩ rfl (Nat.le_of_ble_eq_true rfl) hl (sH_at (i := 13) (by decide)) rfl (Nat.le_of_ble_eq_true rfl) (s_X4_toldLevel _) sH_22 ?_
    exact r_ireturn (S := []) (pc := 105) dX10_gauge_105 rfl rfl ⟨rfl, rfl⟩
  · show Runs om l M_X10_gauge B 0 [some (.ref 0), some (.int (nI 4)), none] [] _ _
    refine r_aload_n (pc := 0) dX10_gauge_0 rfl rfl ?_
    refine r_getfield (pc := 1) dX10_gauge_1 rfl f_RX10_12 ((sH_out (Or.inl (by decide))).trans hg) rfl ?_
    refine cs_get0 (pc := 4) dX10_gauge_4 rfl f_RX10_53 rfl ?_
    refine q_astore_n [_, _, _] (pc := 7) dX10_gauge_7 rfl (by decide) rfl ?_
    refine r_iload_n (pc := 8) dX10_gauge_8 rfl rfl ?_
    refine r_tableIn 106 (pc := 9) dX10_gauge_9 (by decide) (by decide) rfl (by decide) ?_
    refine r_aload_n (pc := 106) dX10_gauge_106 rfl rfl ?_
    refine cs_get (i := 13) (pc := 107) dX10_gauge_107 rfl f_RX10_263 (by decide) rfl rfl ?_
    exact r_ireturn (S := []) (pc := 110) dX10_gauge_110 rfl rfl ⟨rfl, rfl⟩
  · show Runs om l M_X10_gauge B 0 [some (.ref 0), some (.int (nI 5)), none] [] _ _
    refine r_aload_n (pc := 0) dX10_gauge_0 rfl rfl ?_
    refine r_getfield (pc := 1) dX10_gauge_1 rfl f_RX10_12 ((sH_out (Or.inl (by decide))).trans hg) rfl ?_
    refine cs_get0 (pc := 4) dX10_gauge_4 rfl f_RX10_53 rfl ?_
    refine q_astore_n [_, _, _] (pc := 7) dX10_gauge_7 rfl (by decide) rfl ?_
    refine r_iload_n (pc := 8) dX10_gauge_8 rfl rfl ?_
    refine r_tableIn 111 (pc := 9) dX10_gauge_9 (by decide) (by decide) rfl (by decide) ?_
    refine r_aload_n (pc := 111) dX10_gauge_111 rfl rfl ?_
    refine cs_get (i := 13) (pc := 112) dX10_gauge_112 rfl f_RX10_266 (by decide) rfl rfl ?_
    exact r_ireturn (S := []) (pc := 115) dX10_gauge_115 rfl rfl ⟨rfl, rfl⟩
  · show Runs om l M_X10_gauge B 0 [some (.ref 0), some (.int (nI 6)), none] [] _ _
    refine r_aload_n (pc := 0) dX10_gauge_0 rfl rfl ?_
    refine r_getfield (pc := 1) dX10_gauge_1 rfl f_RX10_12 ((sH_out (Or.inl (by decide))).trans hg) rfl ?_
    refine cs_get0 (pc := 4) dX10_gauge_4 rfl f_RX10_53 rfl ?_
    refine q_astore_n [_, _, _] (pc := 7) dX10_gauge_7 rfl (by decide) rfl ?_
    refine r_iload_n (pc := 8) dX10_gauge_8 rfl rfl ?_
    refine r_tableIn 116 (pc := 9) dX10_gauge_9 (by decide) (by decide) rfl (by decide) ?_
    refine r_aload_n (pc := 116) dX10_gauge_116 rfl rfl ?_
    refine r_getfield (pc := 117) dX10_gauge_117 rfl f_RX10_12 ((sH_out (Or.inl (by decide))).trans hg) rfl ?_
    refine cs_get0 (pc := 120) dX10_gauge_120 rfl f_RX10_168 rfl ?_
    refine cs_get (i := 6) (pc := 123) dX10_gauge_123 rfl f_RX10_189 (by decide) rfl rfl ?_
    exact r_ireturn (S := []) (pc := 126) dX10_gauge_126 rfl rfl ⟨rfl, rfl⟩
  · show Runs om l M_X10_gauge B 0 [some (.ref 0), some (.int (nI 7)), none] [] _ _
    refine r_aload_n (pc := 0) dX10_gauge_0 rfl rfl ?_
    refine r_getfield (pc := 1) dX10_gauge_1 rfl f_RX10_12 ((sH_out (Or.inl (by decide))).trans hg) rfl ?_
    refine cs_get0 (pc := 4) dX10_gauge_4 rfl f_RX10_53 rfl ?_
    refine q_astore_n [_, _, _] (pc := 7) dX10_gauge_7 rfl (by decide) rfl ?_
    refine r_iload_n (pc := 8) dX10_gauge_8 rfl rfl ?_
    refine r_tableIn 127 (pc := 9) dX10_gauge_9 (by decide) (by decide) rfl (by decide) ?_
    refine r_aload_n (pc := 127) dX10_gauge_127 rfl rfl ?_
    refine r_getfield (pc := 128) dX10_gauge_128 rfl f_RX10_12 ((sH_out (Or.inl (by decide))).trans hg) rfl ?_
    refine cs_get0 (pc := 131) dX10_gauge_131 rfl f_RX10_206 rfl ?_
    refine cs_get (i := 8) (pc := 134) dX10_gauge_134 rfl f_RX10_269 (by decide) rfl rfl ?_
    exact r_ireturn (S := []) (pc := 137) dX10_gauge_137 rfl rfl ⟨rfl, rfl⟩
  · show Runs om l M_X10_gauge B 0 [some (.ref 0), some (.int (nI 8)), none] [] _ _
    refine r_aload_n (pc := 0) dX10_gauge_0 rfl rfl ?_
    refine r_getfield (pc := 1) dX10_gauge_1 rfl f_RX10_12 ((sH_out (Or.inl (by decide))).trans hg) rfl ?_
    refine cs_get0 (pc := 4) dX10_gauge_4 rfl f_RX10_53 rfl ?_
    refine q_astore_n [_, _, _] (pc := 7) dX10_gauge_7 rfl (by decide) rfl ?_
    refine r_iload_n (pc := 8) dX10_gauge_8 rfl rfl ?_
    refine r_tableIn 138 (pc := 9) dX10_gauge_9 (by decide) (by decide) rfl (by decide) ?_
    refine r_aload_n (pc := 138) dX10_gauge_138 rfl rfl ?_
    refine cs_get (i := 13) (pc := 139) dX10_gauge_139 rfl f_RX10_270 (by decide) rfl rfl ?_
    exact r_ireturn (S := []) (pc := 142) dX10_gauge_142 rfl rfl ⟨rfl, rfl⟩
  · show Runs om l M_X10_gauge B 0 [some (.ref 0), some (.int (nI 9)), none] [] _ _
    refine r_aload_n (pc := 0) dX10_gauge_0 rfl rfl ?_
    refine r_getfield (pc := 1) dX10_gauge_1 rfl f_RX10_12 ((sH_out (Or.inl (by decide))).trans hg) rfl ?_
    refine cs_get0 (pc := 4) dX10_gauge_4 rfl f_RX10_53 rfl ?_
    refine q_astore_n [_, _, _] (pc := 7) dX10_gauge_7 rfl (by decide) rfl ?_
    refine r_iload_n (pc := 8) dX10_gauge_8 rfl rfl ?_
    refine r_tableIn 143 (pc := 9) dX10_gauge_9 (by decide) (by decide) rfl (by decide) ?_
    refine r_aload_n (pc := 143) dX10_gauge_143 rfl rfl ?_
    refine q_callV (ci := 3) (T := TX4) (N := 9) (vs := []) (pc := 144) dX10_gauge_144 rfl l_RX10_271 rfl ⟨by decide, by decide⟩ rfl (Nat.le_of_ble_eq_true rfl) hl (sH_at (i := 13) (by decide)) rfl (Nat.le_of_ble_eq_true rfl) (s_X4_pickCount hl K hK hK9) sH_22 ?_
    exact r_ireturn (S := []) (pc := 147) dX10_gauge_147 rfl rfl ⟨rfl, rfl⟩
  · show Runs om l M_X10_gauge B 0 [some (.ref 0), some (.int (nI 10)), none] [] _ _
    refine r_aload_n (pc := 0) dX10_gauge_0 rfl rfl ?_
    refine r_getfield (pc := 1) dX10_gauge_1 rfl f_RX10_12 ((sH_out (Or.inl (by decide))).trans hg) rfl ?_
    refine cs_get0 (pc := 4) dX10_gauge_4 rfl f_RX10_53 rfl ?_
    refine q_astore_n [_, _, _] (pc := 7) dX10_gauge_7 rfl (by decide) rfl ?_
    refine r_iload_n (pc := 8) dX10_gauge_8 rfl rfl ?_
    refine r_tableIn 148 (pc := 9) dX10_gauge_9 (by decide) (by decide) rfl (by decide) ?_
    refine r_aload_n (pc := 148) dX10_gauge_148 rfl rfl ?_
    refine r_aload_n (pc := 149) dX10_gauge_149 rfl rfl ?_
    refine r_getfield (pc := 150) dX10_gauge_150 rfl f_RX10_12 ((sH_out (Or.inl (by decide))).trans hg) rfl ?_
    refine cs_get0 (pc := 153) dX10_gauge_153 rfl f_RX10_140 rfl ?_
    refine r_bipush (v := 6) (pc := 156) dX10_gauge_156 (by decide) ?_
    refine q_callV (ci := 5) (T := TX6) (N := 1) (vs := [.int _]) (pc := 158) dX10_gauge_158 rfl l_RX10_151 rfl ⟨by decide, by decide⟩ rfl (Nat.le_of_ble_eq_true rfl) hl (sH_at (i := 4) (by decide)) rfl (Nat.le_of_ble_eq_true rfl) (s_X6_value hl _ 6 rfl (by decide)) sH_22 ?_
    refine q_callV (ci := 3) (T := TX4) (N := 9) (vs := [.int _]) (pc := 161) dX10_gauge_161 rfl l_RX10_275 rfl ⟨by decide, by decide⟩ rfl (Nat.le_of_ble_eq_true rfl) hl (sH_at (i := 13) (by decide)) rfl (Nat.le_of_ble_eq_true rfl) (s_X4_median hl _ K hK hK9) sH_22 ?_
    exact r_ireturn (S := []) (pc := 164) dX10_gauge_164 rfl rfl ⟨rfl, rfl⟩
  · show Runs om l M_X10_gauge B 0 [some (.ref 0), some (.int (nI 11)), none] [] _ _
    refine r_aload_n (pc := 0) dX10_gauge_0 rfl rfl ?_
    refine r_getfield (pc := 1) dX10_gauge_1 rfl f_RX10_12 ((sH_out (Or.inl (by decide))).trans hg) rfl ?_
    refine cs_get0 (pc := 4) dX10_gauge_4 rfl f_RX10_53 rfl ?_
    refine q_astore_n [_, _, _] (pc := 7) dX10_gauge_7 rfl (by decide) rfl ?_
    refine r_iload_n (pc := 8) dX10_gauge_8 rfl rfl ?_
    refine r_tableIn 165 (pc := 9) dX10_gauge_9 (by decide) (by decide) rfl (by decide) ?_
    refine r_aload_n (pc := 165) dX10_gauge_165 rfl rfl ?_
    refine cs_get (i := 13) (pc := 166) dX10_gauge_166 rfl f_RX10_278 (by decide) rfl rfl ?_
    exact r_ireturn (S := []) (pc := 169) dX10_gauge_169 rfl rfl ⟨rfl, rfl⟩
  · show Runs om l M_X10_gauge B 0 [some (.ref 0), some (.int (nI 12)), none] [] _ _
    refine r_aload_n (pc := 0) dX10_gauge_0 rfl rfl ?_
    refine r_getfield (pc := 1) dX10_gauge_1 rfl f_RX10_12 ((sH_out (Or.inl (by decide))).trans hg) rfl ?_
    refine cs_get0 (pc := 4) dX10_gauge_4 rfl f_RX10_53 rfl ?_
    refine q_astore_n [_, _, _] (pc := 7) dX10_gauge_7 rfl (by decide) rfl ?_
    refine r_iload_n (pc := 8) dX10_gauge_8 rfl rfl ?_
    refine r_tableIn 170 (pc := 9) dX10_gauge_9 (by decide) (by decide) rfl (by decide) ?_
    refine r_aload_n (pc := 170) dX10_gauge_170 rfl rfl ?_
    refine cs_get (i := 13) (pc := 171) dX10_gauge_171 rfl f_RX10_281 (by decide) rfl rfl ?_
    exact r_ireturn (S := []) (pc := 174) dX10_gauge_174 rfl rfl ⟨rfl, rfl⟩
