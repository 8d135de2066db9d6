/-! the class: carryOut -/
theorem s_co_0_no {om : OM} {l : Launch} {B : Nat × Nat} {R : Hp} {C : Nat → Int32} {W : Nat → Int64} {ns cnt : Int32} (hl : l.stackTraces = false) (hg : R.1 0 = .inr (8, gf ns cnt)) {ln po : Int32} {t nu : Nat → Int32} (hc : HC R ln po (.ref 100010) t nu) (h : R_in (nu 0) 500 10000 = 0) : Runs om l M_X10_carryOut B 0 (entL 5 [.ref 0]) [] (sH R 1 C W) (Det (some (.int 0)) (sH R 1 C W)) := by
  show Runs om l M_X10_carryOut B 0 [some (.ref 0), none, none, none, none] [] _ _
  refine r_aload_n (pc := 0) dX10_carryOut_0 rfl rfl ?_
  refine r_getfield (pc := 1) dX10_carryOut_1 rfl f_RX10_33 ((sH_out (Or.inl (by decide))).trans hg) rfl ?_
  refine r_getfield (pc := 4) dX10_carryOut_4 rfl f_RX10_377 (HC_sH hc).1 rfl ?_
  refine q_astore_n [_, _, _, _, _] (pc := 7) dX10_carryOut_7 rfl (by decide) rfl ?_
  refine r_aload_n (pc := 8) dX10_carryOut_8 rfl rfl ?_
  refine r_ifnonnull 14 (pc := 9) dX10_carryOut_9 (by decide) ?_
  refine r_aload_n (pc := 14) dX10_carryOut_14 rfl rfl ?_
  refine r_getfield (pc := 15) dX10_carryOut_15 rfl f_RX10_33 ((sH_out (Or.inl (by decide))).trans hg) rfl ?_
  refine r_iconst (v := 0) (pc := 18) dX10_carryOut_18 (by decide) ?_
  refine q_callV (ci := 0) (T := TX1) (N := 5) (vs := [.int _]) (pc := 19) dX10_carryOut_19 rfl l_RX10_381 rfl ⟨by decide, by decide⟩ rfl (Nat.le_of_ble_eq_true rfl) hl (HC_sH hc).1 rfl (Nat.le_of_ble_eq_true rfl) (g_number hc 0 _ rfl (by decide)) sH_22 ?_
  refine q_istore_n [_, _, _, _, _] (pc := 22) dX10_carryOut_22 rfl (by decide) rfl ?_
  refine r_aload_n (pc := 23) dX10_carryOut_23 rfl rfl ?_
  refine r_getfield (pc := 24) dX10_carryOut_24 rfl f_RX10_33 ((sH_out (Or.inl (by decide))).trans hg) rfl ?_
  refine r_iconst (v := 1) (pc := 27) dX10_carryOut_27 (by decide) ?_
  refine q_callV (ci := 0) (T := TX1) (N := 5) (vs := [.int _]) (pc := 28) dX10_carryOut_28 rfl l_RX10_381 rfl ⟨by decide, by decide⟩ rfl (Nat.le_of_ble_eq_true rfl) hl (HC_sH hc).1 rfl (Nat.le_of_ble_eq_true rfl) (g_number hc 1 _ rfl (by decide)) sH_22 ?_
  refine q_istore_n [_, _, _, _, _] (pc := 31) dX10_carryOut_31 rfl (by decide) rfl ?_
  refine r_aload_n (pc := 32) dX10_carryOut_32 rfl rfl ?_
  refine r_aload_n (pc := 33) dX10_carryOut_33 rfl rfl ?_
  refine r_iload_n (pc := 34) dX10_carryOut_34 rfl rfl ?_
  refine r_iload_n (pc := 35) dX10_carryOut_35 rfl rfl ?_
  refine q_callV (ci := 8) (T := TX10) (N := 6) (vs := [.ref _, .int _, .int _]) (pc := 36) dX10_carryOut_36 rfl l_RX10_384 rfl ⟨by decide, by decide⟩ rfl (Nat.le_of_ble_eq_true rfl) hl ((sH_out (Or.inl (by decide))).trans hg) rfl (Nat.le_of_ble_eq_true rfl) (s_may_0 hl hg hc _ _) sH_22 ?_
  refine q_istore [_, _, _, _, _] (pc := 39) dX10_carryOut_39 (by decide) rfl ?_
  refine r_iload (pc := 41) dX10_carryOut_41 rfl ?_
  refine r_if_eq 247 (pc := 43) dX10_carryOut_43 (by decide) (fun c43 => ?_) (fun c43 => absurd (c_eqt h rfl (a := 0) (b := 0) (by omega) (by omega) (by omega)) c43)
  refine r_iload (pc := 247) dX10_carryOut_247 rfl ?_
  exact r_ireturn (S := []) (pc := 249) dX10_carryOut_249 rfl (nar_b (Or.inl h)) ⟨by rw [h], rfl⟩
theorem s_co_0_yes {om : OM} {l : Launch} {B : Nat × Nat} {R : Hp} {C : Nat → Int32} {W : Nat → Int64} {ns cnt : Int32} (hl : l.stackTraces = false) (hg : R.1 0 = .inr (8, gf ns cnt)) {ln po : Int32} {t nu : Nat → Int32} (hc : HC R ln po (.ref 100010) t nu) (h : R_in (nu 0) 500 10000 = 1) : Runs om l M_X10_carryOut B 0 (entL 5 [.ref 0]) [] (sH R 1 C W) (Det (some (.int 1)) (sH R 1 (K_start C (nu 0)) (K_zero W 8))) := by
  show Runs om l M_X10_carryOut B 0 [some (.ref 0), none, none, none, none] [] _ _
  refine r_aload_n (pc := 0) dX10_carryOut_0 rfl rfl ?_
  refine r_getfield (pc := 1) dX10_carryOut_1 rfl f_RX10_33 ((sH_out (Or.inl (by decide))).trans hg) rfl ?_
  refine r_getfield (pc := 4) dX10_carryOut_4 rfl f_RX10_377 (HC_sH hc).1 rfl ?_
  refine q_astore_n [_, _, _, _, _] (pc := 7) dX10_carryOut_7 rfl (by decide) rfl ?_
  refine r_aload_n (pc := 8) dX10_carryOut_8 rfl rfl ?_
  refine r_ifnonnull 14 (pc := 9) dX10_carryOut_9 (by decide) ?_
  refine r_aload_n (pc := 14) dX10_carryOut_14 rfl rfl ?_
  refine r_getfield (pc := 15) dX10_carryOut_15 rfl f_RX10_33 ((sH_out (Or.inl (by decide))).trans hg) rfl ?_
  refine r_iconst (v := 0) (pc := 18) dX10_carryOut_18 (by decide) ?_
  refine q_callV (ci := 0) (T := TX1) (N := 5) (vs := [.int _]) (pc := 19) dX10_carryOut_19 rfl l_RX10_381 rfl ⟨by decide, by decide⟩ rfl (Nat.le_of_ble_eq_true rfl) hl (HC_sH hc).1 rfl (Nat.le_of_ble_eq_true rfl) (g_number hc 0 _ rfl (by decide)) sH_22 ?_
  refine q_istore_n [_, _, _, _, _] (pc := 22) dX10_carryOut_22 rfl (by decide) rfl ?_
  refine r_aload_n (pc := 23) dX10_carryOut_23 rfl rfl ?_
  refine r_getfield (pc := 24) dX10_carryOut_24 rfl f_RX10_33 ((sH_out (Or.inl (by decide))).trans hg) rfl ?_
  refine r_iconst (v := 1) (pc := 27) dX10_carryOut_27 (by decide) ?_
  refine q_callV (ci := 0) (T := TX1) (N := 5) (vs := [.int _]) (pc := 28) dX10_carryOut_28 rfl l_RX10_381 rfl ⟨by decide, by decide⟩ rfl (Nat.le_of_ble_eq_true rfl) hl (HC_sH hc).1 rfl (Nat.le_of_ble_eq_true rfl) (g_number hc 1 _ rfl (by decide)) sH_22 ?_
  refine q_istore_n [_, _, _, _, _] (pc := 31) dX10_carryOut_31 rfl (by decide) rfl ?_
  refine r_aload_n (pc := 32) dX10_carryOut_32 rfl rfl ?_
  refine r_aload_n (pc := 33) dX10_carryOut_33 rfl rfl ?_
  refine r_iload_n (pc := 34) dX10_carryOut_34 rfl rfl ?_
  refine r_iload_n (pc := 35) dX10_carryOut_35 rfl rfl ?_
  refine q_callV (ci := 8) (T := TX10) (N := 6) (vs := [.ref _, .int _, .int _]) (pc := 36) dX10_carryOut_36 rfl l_RX10_384 rfl ⟨by decide, by decide⟩ rfl (Nat.le_of_ble_eq_true rfl) hl ((sH_out (Or.inl (by decide))).trans hg) rfl (Nat.le_of_ble_eq_true rfl) (s_may_0 hl hg hc _ _) sH_22 ?_
  refine q_istore [_, _, _, _, _] (pc := 39) dX10_carryOut_39 (by decide) rfl ?_
  refine r_iload (pc := 41) dX10_carryOut_41 rfl ?_
  refine r_if_eq 247 (pc := 43) dX10_carryOut_43 (by decide) (fun c43 => absurd c43 (c_eqf h rfl (a := 1) (b := 0) (by omega) (by omega) (by omega))) (fun c43 => ?_)
  refine r_getstatic (pc := 46) dX10_carryOut_46 rfl sw_z g_RX10_388 ?_
  refine r_aload_n (pc := 49) dX10_carryOut_49 rfl rfl ?_
  refine r_ordinal (i := 0) (pc := 50) dX10_carryOut_50 l_RX10_394 (by decide) (by decide) (by decide) (Nat.le_of_ble_eq_true rfl) ?_
  refine r_taload (n := 9) (pc := 53) dX10_carryOut_53 sw_a (vin_n (k := 0) rfl (by decide) (by decide)) ?_
  rw [cl_n (k := 0) (n := 9) rfl (show 0 < 9 by decide) (by decide)]
  refine r_tableIn 104 (pc := 54) dX10_carryOut_54 (by decide) (by decide) rfl (by decide) ?_
  refine r_aload_n (pc := 104) dX10_carryOut_104 rfl rfl ?_
  refine r_getfield (pc := 105) dX10_carryOut_105 rfl f_RX10_12 ((sH_out (Or.inl (by decide))).trans hg) rfl ?_
  refine r_iload_n (pc := 108) dX10_carryOut_108 rfl rfl ?_
  refine q_callV (ci := 6) (T := TX7) (N := 7) (vs := [.int _]) (pc := 109) dX10_carryOut_109 rfl l_RX10_62 rfl ⟨by decide, by decide⟩ rfl (Nat.le_of_ble_eq_true rfl) hl sH_0 rfl (Nat.le_of_ble_eq_true rfl) (s_X7_startAgain hl _) sH_22 ?_
  refine r_goto 247 (pc := 112) dX10_carryOut_112 (by decide) ?_
  refine r_iload (pc := 247) dX10_carryOut_247 rfl ?_
  exact r_ireturn (S := []) (pc := 249) dX10_carryOut_249 rfl (nar_b (Or.inr h)) ⟨by rw [h], rfl⟩
theorem s_co_1_no {om : OM} {l : Launch} {B : Nat × Nat} {R : Hp} {C : Nat → Int32} {W : Nat → Int64} {ns cnt : Int32} (hl : l.stackTraces = false) (hg : R.1 0 = .inr (8, gf ns cnt)) {ln po : Int32} {t nu : Nat → Int32} (hc : HC R ln po (.ref 100011) t nu) (h : R_in (nu 0) 0 (C 0) = 0) : Runs om l M_X10_carryOut B 0 (entL 5 [.ref 0]) [] (sH R 1 C W) (Det (some (.int 0)) (sH R 1 C W)) := by
  show Runs om l M_X10_carryOut B 0 [some (.ref 0), none, none, none, none] [] _ _
  refine r_aload_n (pc := 0) dX10_carryOut_0 rfl rfl ?_
  refine r_getfield (pc := 1) dX10_carryOut_1 rfl f_RX10_33 ((sH_out (Or.inl (by decide))).trans hg) rfl ?_
  refine r_getfield (pc := 4) dX10_carryOut_4 rfl f_RX10_377 (HC_sH hc).1 rfl ?_
  refine q_astore_n [_, _, _, _, _] (pc := 7) dX10_carryOut_7 rfl (by decide) rfl ?_
  refine r_aload_n (pc := 8) dX10_carryOut_8 rfl rfl ?_
  refine r_ifnonnull 14 (pc := 9) dX10_carryOut_9 (by decide) ?_
  refine r_aload_n (pc := 14) dX10_carryOut_14 rfl rfl ?_
  refine r_getfield (pc := 15) dX10_carryOut_15 rfl f_RX10_33 ((sH_out (Or.inl (by decide))).trans hg) rfl ?_
  refine r_iconst (v := 0) (pc := 18) dX10_carryOut_18 (by decide) ?_
  refine q_callV (ci := 0) (T := TX1) (N := 5) (vs := [.int _]) (pc := 19) dX10_carryOut_19 rfl l_RX10_381 rfl ⟨by decide, by decide⟩ rfl (Nat.le_of_ble_eq_true rfl) hl (HC_sH hc).1 rfl (Nat.le_of_ble_eq_true rfl) (g_number hc 0 _ rfl (by decide)) sH_22 ?_
  refine q_istore_n [_, _, _, _, _] (pc := 22) dX10_carryOut_22 rfl (by decide) rfl ?_
  refine r_aload_n (pc := 23) dX10_carryOut_23 rfl rfl ?_
  refine r_getfield (pc := 24) dX10_carryOut_24 rfl f_RX10_33 ((sH_out (Or.inl (by decide))).trans hg) rfl ?_
  refine r_iconst (v := 1) (pc := 27) dX10_carryOut_27 (by decide) ?_
  refine q_callV (ci := 0) (T := TX1) (N := 5) (vs := [.int _]) (pc := 28) dX10_carryOut_28 rfl l_RX10_381 rfl ⟨by decide, by decide⟩ rfl (Nat.le_of_ble_eq_true rfl) hl (HC_sH hc).1 rfl (Nat.le_of_ble_eq_true rfl) (g_number hc 1 _ rfl (by decide)) sH_22 ?_
  refine q_istore_n [_, _, _, _, _] (pc := 31) dX10_carryOut_31 rfl (by decide) rfl ?_
  refine r_aload_n (pc := 32) dX10_carryOut_32 rfl rfl ?_
  refine r_aload_n (pc := 33) dX10_carryOut_33 rfl rfl ?_
  refine r_iload_n (pc := 34) dX10_carryOut_34 rfl rfl ?_
  refine r_iload_n (pc := 35) dX10_carryOut_35 rfl rfl ?_
  refine q_callV (ci := 8) (T := TX10) (N := 6) (vs := [.ref _, .int _, .int _]) (pc := 36) dX10_carryOut_36 rfl l_RX10_384 rfl ⟨by decide, by decide⟩ rfl (Nat.le_of_ble_eq_true rfl) hl ((sH_out (Or.inl (by decide))).trans hg) rfl (Nat.le_of_ble_eq_true rfl) (s_may_1 hl hg hc _ _) sH_22 ?_
  refine q_istore [_, _, _, _, _] (pc := 39) dX10_carryOut_39 (by decide) rfl ?_
  refine r_iload (pc := 41) dX10_carryOut_41 rfl ?_
  refine r_if_eq 247 (pc := 43) dX10_carryOut_43 (by decide) (fun c43 => ?_) (fun c43 => absurd (c_eqt h rfl (a := 0) (b := 0) (by omega) (by omega) (by omega)) c43)
  refine r_iload (pc := 247) dX10_carryOut_247 rfl ?_
  exact r_ireturn (S := []) (pc := 249) dX10_carryOut_249 rfl (nar_b (Or.inl h)) ⟨by rw [h], rfl⟩
theorem s_co_1_yes {om : OM} {l : Launch} {B : Nat × Nat} {R : Hp} {C : Nat → Int32} {W : Nat → Int64} {ns cnt : Int32} (hl : l.stackTraces = false) (hg : R.1 0 = .inr (8, gf ns cnt)) {ln po : Int32} {t nu : Nat → Int32} (hc : HC R ln po (.ref 100011) t nu) (h : R_in (nu 0) 0 (C 0) = 1) : Runs om l M_X10_carryOut B 0 (entL 5 [.ref 0]) [] (sH R 1 C W) (Det (some (.int 1)) (sH R 1 (upd C 1 (nu 0)) W)) := by
  show Runs om l M_X10_carryOut B 0 [some (.ref 0), none, none, none, none] [] _ _
  refine r_aload_n (pc := 0) dX10_carryOut_0 rfl rfl ?_
  refine r_getfield (pc := 1) dX10_carryOut_1 rfl f_RX10_33 ((sH_out (Or.inl (by decide))).trans hg) rfl ?_
  refine r_getfield (pc := 4) dX10_carryOut_4 rfl f_RX10_377 (HC_sH hc).1 rfl ?_
  refine q_astore_n [_, _, _, _, _] (pc := 7) dX10_carryOut_7 rfl (by decide) rfl ?_
  refine r_aload_n (pc := 8) dX10_carryOut_8 rfl rfl ?_
  refine r_ifnonnull 14 (pc := 9) dX10_carryOut_9 (by decide) ?_
  refine r_aload_n (pc := 14) dX10_carryOut_14 rfl rfl ?_
  refine r_getfield (pc := 15) dX10_carryOut_15 rfl f_RX10_33 ((sH_out (Or.inl (by decide))).trans hg) rfl ?_
  refine r_iconst (v := 0) (pc := 18) dX10_carryOut_18 (by decide) ?_
  refine q_callV (ci := 0) (T := TX1) (N := 5) (vs := [.int _]) (pc := 19) dX10_carryOut_19 rfl l_RX10_381 rfl ⟨by decide, by decide⟩ rfl (Nat.le_of_ble_eq_true rfl) hl (HC_sH hc).1 rfl (Nat.le_of_ble_eq_true rfl) (g_number hc 0 _ rfl (by decide)) sH_22 ?_
  refine q_istore_n [_, _, _, _, _] (pc := 22) dX10_carryOut_22 rfl (by decide) rfl ?_
  refine r_aload_n (pc := 23) dX10_carryOut_23 rfl rfl ?_
  refine r_getfield (pc := 24) dX10_carryOut_24 rfl f_RX10_33 ((sH_out (Or.inl (by decide))).trans hg) rfl ?_
  refine r_iconst (v := 1) (pc := 27) dX10_carryOut_27 (by decide) ?_
  refine q_callV (ci := 0) (T := TX1) (N := 5) (vs := [.int _]) (pc := 28) dX10_carryOut_28 rfl l_RX10_381 rfl ⟨by decide, by decide⟩ rfl (Nat.le_of_ble_eq_true rfl) hl (HC_sH hc).1 rfl (Nat.le_of_ble_eq_true rfl) (g_number hc 1 _ rfl (by decide)) sH_22 ?_
  refine q_istore_n [_, _, _, _, _] (pc := 31) dX10_carryOut_31 rfl (by decide) rfl ?_
  refine r_aload_n (pc := 32) dX10_carryOut_32 rfl rfl ?_
  refine r_aload_n (pc := 33) dX10_carryOut_33 rfl rfl ?_
  refine r_iload_n (pc := 34) dX10_carryOut_34 rfl rfl ?_
  refine r_iload_n (pc := 35) dX10_carryOut_35 rfl rfl ?_
  refine q_callV (ci := 8) (T := TX10) (N := 6) (vs := [.ref _, .int _, .int _]) (pc := 36) dX10_carryOut_36 rfl l_RX10_384 rfl ⟨by decide, by decide⟩ rfl (Nat.le_of_ble_eq_true rfl) hl ((sH_out (Or.inl (by decide))).trans hg) rfl (Nat.le_of_ble_eq_true rfl) (s_may_1 hl hg hc _ _) sH_22 ?_
  refine q_istore [_, _, _, _, _] (pc := 39) dX10_carryOut_39 (by decide) rfl ?_
  refine r_iload (pc := 41) dX10_carryOut_41 rfl ?_
  refine r_if_eq 247 (pc := 43) dX10_carryOut_43 (by decide) (fun c43 => absurd c43 (c_eqf h rfl (a := 1) (b := 0) (by omega) (by omega) (by omega))) (fun c43 => ?_)
  refine r_getstatic (pc := 46) dX10_carryOut_46 rfl sw_z g_RX10_388 ?_
  refine r_aload_n (pc := 49) dX10_carryOut_49 rfl rfl ?_
  refine r_ordinal (i := 1) (pc := 50) dX10_carryOut_50 l_RX10_394 (by decide) (by decide) (by decide) (Nat.le_of_ble_eq_true rfl) ?_
  refine r_taload (n := 9) (pc := 53) dX10_carryOut_53 sw_a (vin_n (k := 1) rfl (by decide) (by decide)) ?_
  rw [cl_n (k := 1) (n := 9) rfl (show 1 < 9 by decide) (by decide)]
  refine r_tableIn 115 (pc := 54) dX10_carryOut_54 (by decide) (by decide) rfl (by decide) ?_
  refine r_aload_n (pc := 115) dX10_carryOut_115 rfl rfl ?_
  refine r_getfield (pc := 116) dX10_carryOut_116 rfl f_RX10_12 ((sH_out (Or.inl (by decide))).trans hg) rfl ?_
  refine cs_get0 (pc := 119) dX10_carryOut_119 rfl f_RX10_66 rfl ?_
  refine r_iload_n (pc := 122) dX10_carryOut_122 rfl rfl ?_
  refine cs_put (i := 1) 1 (pc := 123) dX10_carryOut_123 rfl f_RX10_75 (by decide) rfl (Nat.le_of_ble_eq_true rfl) rfl rfl ?_
  refine r_goto 247 (pc := 126) dX10_carryOut_126 (by decide) ?_
  refine r_iload (pc := 247) dX10_carryOut_247 rfl ?_
  exact r_ireturn (S := []) (pc := 249) dX10_carryOut_249 rfl (nar_b (Or.inr h)) ⟨by rw [h], rfl⟩
theorem s_co_2_no {om : OM} {l : Launch} {B : Nat × Nat} {R : Hp} {C : Nat → Int32} {W : Nat → Int64} {ns cnt : Int32} (hl : l.stackTraces = false) (hg : R.1 0 = .inr (8, gf ns cnt)) {ln po : Int32} {t nu : Nat → Int32} (hc : HC R ln po (.ref 100012) t nu) (h : R_in (nu 0) (-200) 200 = 0) : Runs om l M_X10_carryOut B 0 (entL 5 [.ref 0]) [] (sH R 1 C W) (Det (some (.int 0)) (sH R 1 C W)) := by
  show Runs om l M_X10_carryOut B 0 [some (.ref 0), none, none, none, none] [] _ _
  refine r_aload_n (pc := 0) dX10_carryOut_0 rfl rfl ?_
  refine r_getfield (pc := 1) dX10_carryOut_1 rfl f_RX10_33 ((sH_out (Or.inl (by decide))).trans hg) rfl ?_
  refine r_getfield (pc := 4) dX10_carryOut_4 rfl f_RX10_377 (HC_sH hc).1 rfl ?_
  refine q_astore_n [_, _, _, _, _] (pc := 7) dX10_carryOut_7 rfl (by decide) rfl ?_
  refine r_aload_n (pc := 8) dX10_carryOut_8 rfl rfl ?_
  refine r_ifnonnull 14 (pc := 9) dX10_carryOut_9 (by decide) ?_
  refine r_aload_n (pc := 14) dX10_carryOut_14 rfl rfl ?_
  refine r_getfield (pc := 15) dX10_carryOut_15 rfl f_RX10_33 ((sH_out (Or.inl (by decide))).trans hg) rfl ?_
  refine r_iconst (v := 0) (pc := 18) dX10_carryOut_18 (by decide) ?_
  refine q_callV (ci := 0) (T := TX1) (N := 5) (vs := [.int _]) (pc := 19) dX10_carryOut_19 rfl l_RX10_381 rfl ⟨by decide, by decide⟩ rfl (Nat.le_of_ble_eq_true rfl) hl (HC_sH hc).1 rfl (Nat.le_of_ble_eq_true rfl) (g_number hc 0 _ rfl (by decide)) sH_22 ?_
  refine q_istore_n [_, _, _, _, _] (pc := 22) dX10_carryOut_22 rfl (by decide) rfl ?_
  refine r_aload_n (pc := 23) dX10_carryOut_23 rfl rfl ?_
  refine r_getfield (pc := 24) dX10_carryOut_24 rfl f_RX10_33 ((sH_out (Or.inl (by decide))).trans hg) rfl ?_
  refine r_iconst (v := 1) (pc := 27) dX10_carryOut_27 (by decide) ?_
  refine q_callV (ci := 0) (T := TX1) (N := 5) (vs := [.int _]) (pc := 28) dX10_carryOut_28 rfl l_RX10_381 rfl ⟨by decide, by decide⟩ rfl (Nat.le_of_ble_eq_true rfl) hl (HC_sH hc).1 rfl (Nat.le_of_ble_eq_true rfl) (g_number hc 1 _ rfl (by decide)) sH_22 ?_
  refine q_istore_n [_, _, _, _, _] (pc := 31) dX10_carryOut_31 rfl (by decide) rfl ?_
  refine r_aload_n (pc := 32) dX10_carryOut_32 rfl rfl ?_
  refine r_aload_n (pc := 33) dX10_carryOut_33 rfl rfl ?_
  refine r_iload_n (pc := 34) dX10_carryOut_34 rfl rfl ?_
  refine r_iload_n (pc := 35) dX10_carryOut_35 rfl rfl ?_
  refine q_callV (ci := 8) (T := TX10) (N := 6) (vs := [.ref _, .int _, .int _]) (pc := 36) dX10_carryOut_36 rfl l_RX10_384 rfl ⟨by decide, by decide⟩ rfl (Nat.le_of_ble_eq_true rfl) hl ((sH_out (Or.inl (by decide))).trans hg) rfl (Nat.le_of_ble_eq_true rfl) (s_may_2 hl hg hc _ _) sH_22 ?_
  refine q_istore [_, _, _, _, _] (pc := 39) dX10_carryOut_39 (by decide) rfl ?_
  refine r_iload (pc := 41) dX10_carryOut_41 rfl ?_
  refine r_if_eq 247 (pc := 43) dX10_carryOut_43 (by decide) (fun c43 => ?_) (fun c43 => absurd (c_eqt h rfl (a := 0) (b := 0) (by omega) (by omega) (by omega)) c43)
  refine r_iload (pc := 247) dX10_carryOut_247 rfl ?_
  exact r_ireturn (S := []) (pc := 249) dX10_carryOut_249 rfl (nar_b (Or.inl h)) ⟨by rw [h], rfl⟩
theorem s_co_2_yes {om : OM} {l : Launch} {B : Nat × Nat} {R : Hp} {C : Nat → Int32} {W : Nat → Int64} {ns cnt : Int32} (hl : l.stackTraces = false) (hg : R.1 0 = .inr (8, gf ns cnt)) {ln po : Int32} {t nu : Nat → Int32} (hc : HC R ln po (.ref 100012) t nu) (h : R_in (nu 0) (-200) 200 = 1) : Runs om l M_X10_carryOut B 0 (entL 5 [.ref 0]) [] (sH R 1 C W) (Det (some (.int 1)) (sH R 1 (upd C 2 (nu 0)) W)) := by
  show Runs om l M_X10_carryOut B 0 [some (.ref 0), none, none, none, none] [] _ _
  refine r_aload_n (pc := 0) dX10_carryOut_0 rfl rfl ?_
  refine r_getfield (pc := 1) dX10_carryOut_1 rfl f_RX10_33 ((sH_out (Or.inl (by decide))).trans hg) rfl ?_
  refine r_getfield (pc := 4) dX10_carryOut_4 rfl f_RX10_377 (HC_sH hc).1 rfl ?_
  refine q_astore_n [_, _, _, _, _] (pc := 7) dX10_carryOut_7 rfl (by decide) rfl ?_
  refine r_aload_n (pc := 8) dX10_carryOut_8 rfl rfl ?_
  refine r_ifnonnull 14 (pc := 9) dX10_carryOut_9 (by decide) ?_
  refine r_aload_n (pc := 14) dX10_carryOut_14 rfl rfl ?_
  refine r_getfield (pc := 15) dX10_carryOut_15 rfl f_RX10_33 ((sH_out (Or.inl (by decide))).trans hg) rfl ?_
  refine r_iconst (v := 0) (pc := 18) dX10_carryOut_18 (by decide) ?_
  refine q_callV (ci := 0) (T := TX1) (N := 5) (vs := [.int _]) (pc := 19) dX10_carryOut_19 rfl l_RX10_381 rfl ⟨by decide, by decide⟩ rfl (Nat.le_of_ble_eq_true rfl) hl (HC_sH hc).1 rfl (Nat.le_of_ble_eq_true rfl) (g_number hc 0 _ rfl (by decide)) sH_22 ?_
  refine q_istore_n [_, _, _, _, _] (pc := 22) dX10_carryOut_22 rfl (by decide) rfl ?_
  refine r_aload_n (pc := 23) dX10_carryOut_23 rfl rfl ?_
  refine r_getfield (pc := 24) dX10_carryOut_24 rfl f_RX10_33 ((sH_out (Or.inl (by decide))).trans hg) rfl ?_
  refine r_iconst (v := 1) (pc := 27) dX10_carryOut_27 (by decide) ?_
  refine q_callV (ci := 0) (T := TX1) (N := 5) (vs := [.int _]) (pc := 28) dX10_carryOut_28 rfl l_RX10_381 rfl ⟨by decide, by decide⟩ rfl (Nat.le_of_ble_eq_true rfl) hl (HC_sH hc).1 rfl (Nat.le_of_ble_eq_true rfl) (g_number hc 1 _ rfl (by decide)) sH_22 ?_
  refine q_istore_n [_, _, _, _, _] (pc := 31) dX10_carryOut_31 rfl (by decide) rfl ?_
  refine r_aload_n (pc := 32) dX10_carryOut_32 rfl rfl ?_
  refine r_aload_n (pc := 33) dX10_carryOut_33 rfl rfl ?_
  refine r_iload_n (pc := 34) dX10_carryOut_34 rfl rfl ?_
  refine r_iload_n (pc := 35) dX10_carryOut_35 rfl rfl ?_
  refine q_callV (ci := 8) (T := TX10) (N := 6) (vs := [.ref _, .int _, .int _]) (pc := 36) dX10_carryOut_36 rfl l_RX10_384 rfl ⟨by decide, by decide⟩ rfl (Nat.le_of_ble_eq_true rfl) hl ((sH_out (Or.inl (by decide))).trans hg) rfl (Nat.le_of_ble_eq_true rfl) (s_may_2 hl hg hc _ _) sH_22 ?_
  refine q_istore [_, _, _, _, _] (pc := 39) dX10_carryOut_39 (by decide) rfl ?_
  refine r_iload (pc := 41) dX10_carryOut_41 rfl ?_
  refine r_if_eq 247 (pc := 43) dX10_carryOut_43 (by decide) (fun c43 => absurd c43 (c_eqf h rfl (a := 1) (b := 0) (by omega) (by omega) (by omega))) (fun c43 => ?_)
  refine r_getstatic (pc := 46) dX10_carryOut_46 rfl sw_z g_RX10_388 ?_
  refine r_aload_n (pc := 49) dX10_carryOut_49 rfl rfl ?_
  refine r_ordinal (i := 2) (pc := 50) dX10_carryOut_50 l_RX10_394 (by decide) (by decide) (by decide) (Nat.le_of_ble_eq_true rfl) ?_
  refine r_taload (n := 9) (pc := 53) dX10_carryOut_53 sw_a (vin_n (k := 2) rfl (by decide) (by decide)) ?_
  rw [cl_n (k := 2) (n := 9) rfl (show 2 < 9 by decide) (by decide)]
  refine r_tableIn 129 (pc := 54) dX10_carryOut_54 (by decide) (by decide) rfl (by decide) ?_
  refine r_aload_n (pc := 129) dX10_carryOut_129 rfl rfl ?_
  refine r_getfield (pc := 130) dX10_carryOut_130 rfl f_RX10_12 ((sH_out (Or.inl (by decide))).trans hg) rfl ?_
  refine cs_get0 (pc := 133) dX10_carryOut_133 rfl f_RX10_66 rfl ?_
  refine r_iload_n (pc := 136) dX10_carryOut_136 rfl rfl ?_
  refine cs_put (i := 1) 2 (pc := 137) dX10_carryOut_137 rfl f_RX10_83 (by decide) rfl (Nat.le_of_ble_eq_true rfl) rfl rfl ?_
  refine r_goto 247 (pc := 140) dX10_carryOut_140 (by decide) ?_
  refine r_iload (pc := 247) dX10_carryOut_247 rfl ?_
  exact r_ireturn (S := []) (pc := 249) dX10_carryOut_249 rfl (nar_b (Or.inr h)) ⟨by rw [h], rfl⟩
theorem s_co_3_no {om : OM} {l : Launch} {B : Nat × Nat} {R : Hp} {C : Nat → Int32} {W : Nat → Int64} {ns cnt : Int32} (hl : l.stackTraces = false) (hg : R.1 0 = .inr (8, gf ns cnt)) {ln po : Int32} {t nu : Nat → Int32} (hc : HC R ln po (.ref 100013) t nu) (h : R_in (nu 0) 0 500 = 0) : Runs om l M_X10_carryOut B 0 (entL 5 [.ref 0]) [] (sH R 1 C W) (Det (some (.int 0)) (sH R 1 C W)) := by
  show Runs om l M_X10_carryOut B 0 [some (.ref 0), none, none, none, none] [] _ _
  refine r_aload_n (pc := 0) dX10_carryOut_0 rfl rfl ?_
  refine r_getfield (pc := 1) dX10_carryOut_1 rfl f_RX10_33 ((sH_out (Or.inl (by decide))).trans hg) rfl ?_
  refine r_getfield (pc := 4) dX10_carryOut_4 rfl f_RX10_377 (HC_sH hc).1 rfl ?_
  refine q_astore_n [_, _, _, _, _] (pc := 7) dX10_carryOut_7 rfl (by decide) rfl ?_
  refine r_aload_n (pc := 8) dX10_carryOut_8 rfl rfl ?_
  refine r_ifnonnull 14 (pc := 9) dX10_carryOut_9 (by decide) ?_
  refine r_aload_n (pc := 14) dX10_carryOut_14 rfl rfl ?_
  refine r_getfield (pc := 15) dX10_carryOut_15 rfl f_RX10_33 ((sH_out (Or.inl (by decide))).trans hg) rfl ?_
  refine r_iconst (v := 0) (pc := 18) dX10_carryOut_18 (by decide) ?_
  refine q_callV (ci := 0) (T := TX1) (N := 5) (vs := [.int _]) (pc := 19) dX10_carryOut_19 rfl l_RX10_381 rfl ⟨by decide, by decide⟩ rfl (Nat.le_of_ble_eq_true rfl) hl (HC_sH hc).1 rfl (Nat.le_of_ble_eq_true rfl) (g_number hc 0 _ rfl (by decide)) sH_22 ?_
  refine q_istore_n [_, _, _, _, _] (pc := 22) dX10_carryOut_22 rfl (by decide) rfl ?_
  refine r_aload_n (pc := 23) dX10_carryOut_23 rfl rfl ?_
  refine r_getfield (pc := 24) dX10_carryOut_24 rfl f_RX10_33 ((sH_out (Or.inl (by decide))).trans hg) rfl ?_
  refine r_iconst (v := 1) (pc := 27) dX10_carryOut_27 (by decide) ?_
  refine q_callV (ci := 0) (T := TX1) (N := 5) (vs := [.int _]) (pc := 28) dX10_carryOut_28 rfl l_RX10_381 rfl ⟨by decide, by decide⟩ rfl (Nat.le_of_ble_eq_true rfl) hl (HC_sH hc).1 rfl (Nat.le_of_ble_eq_true rfl) (g_number hc 1 _ rfl (by decide)) sH_22 ?_
  refine q_istore_n [_, _, _, _, _] (pc := 31) dX10_carryOut_31 rfl (by decide) rfl ?_
  refine r_aload_n (pc := 32) dX10_carryOut_32 rfl rfl ?_
  refine r_aload_n (pc := 33) dX10_carryOut_33 rfl rfl ?_
  refine r_iload_n (pc := 34) dX10_carryOut_34 rfl rfl ?_
  refine r_iload_n (pc := 35) dX10_carryOut_35 rfl rfl ?_
  refine q_callV (ci := 8) (T := TX10) (N := 6) (vs := [.ref _, .int _, .int _]) (pc := 36) dX10_carryOut_36 rfl l_RX10_384 rfl ⟨by decide, by decide⟩ rfl (Nat.le_of_ble_eq_true rfl) hl ((sH_out (Or.inl (by decide))).trans hg) rfl (Nat.le_of_ble_eq_true rfl) (s_may_3 hl hg hc _ _) sH_22 ?_
  refine q_istore [_, _, _, _, _] (pc := 39) dX10_carryOut_39 (by decide) rfl ?_
  refine r_iload (pc := 41) dX10_carryOut_41 rfl ?_
  refine r_if_eq 247 (pc := 43) dX10_carryOut_43 (by decide) (fun c43 => ?_) (fun c43 => absurd (c_eqt h rfl (a := 0) (b := 0) (by omega) (by omega) (by omega)) c43)
  refine r_iload (pc := 247) dX10_carryOut_247 rfl ?_
  exact r_ireturn (S := []) (pc := 249) dX10_carryOut_249 rfl (nar_b (Or.inl h)) ⟨by rw [h], rfl⟩
theorem s_co_3_yes {om : OM} {l : Launch} {B : Nat × Nat} {R : Hp} {C : Nat → Int32} {W : Nat → Int64} {ns cnt : Int32} (hl : l.stackTraces = false) (hg : R.1 0 = .inr (8, gf ns cnt)) {ln po : Int32} {t nu : Nat → Int32} (hc : HC R ln po (.ref 100013) t nu) (h : R_in (nu 0) 0 500 = 1) : Runs om l M_X10_carryOut B 0 (entL 5 [.ref 0]) [] (sH R 1 C W) (Det (some (.int 1)) (sH R 1 (upd C 3 (nu 0)) W)) := by
  show Runs om l M_X10_carryOut B 0 [some (.ref 0), none, none, none, none] [] _ _
  refine r_aload_n (pc := 0) dX10_carryOut_0 rfl rfl ?_
  refine r_getfield (pc := 1) dX10_carryOut_1 rfl f_RX10_33 ((sH_out (Or.inl (by decide))).trans hg) rfl ?_
  refine r_getfield (pc := 4) dX10_carryOut_4 rfl f_RX10_377 (HC_sH hc).1 rfl ?_
  refine q_astore_n [_, _, _, _, _] (pc := 7) dX10_carryOut_7 rfl (by decide) rfl ?_
  refine r_aload_n (pc := 8) dX10_carryOut_8 rfl rfl ?_
  refine r_ifnonnull 14 (pc := 9) dX10_carryOut_9 (by decide) ?_
  refine r_aload_n (pc := 14) dX10_carryOut_14 rfl rfl ?_
  refine r_getfield (pc := 15) dX10_carryOut_15 rfl f_RX10_33 ((sH_out (Or.inl (by decide))).trans hg) rfl ?_
  refine r_iconst (v := 0) (pc := 18) dX10_carryOut_18 (by decide) ?_
  refine q_callV (ci := 0) (T := TX1) (N := 5) (vs := [.int _]) (pc := 19) dX10_carryOut_19 rfl l_RX10_381 rfl ⟨by decide, by decide⟩ rfl (Nat.le_of_ble_eq_true rfl) hl (HC_sH hc).1 rfl (Nat.le_of_ble_eq_true rfl) (g_number hc 0 _ rfl (by decide)) sH_22 ?_
  refine q_istore_n [_, _, _, _, _] (pc := 22) dX10_carryOut_22 rfl (by decide) rfl ?_
  refine r_aload_n (pc := 23) dX10_carryOut_23 rfl rfl ?_
  refine r_getfield (pc := 24) dX10_carryOut_24 rfl f_RX10_33 ((sH_out (Or.inl (by decide))).trans hg) rfl ?_
  refine r_iconst (v := 1) (pc := 27) dX10_carryOut_27 (by decide) ?_
  refine q_callV (ci := 0) (T := TX1) (N := 5) (vs := [.int _]) (pc := 28) dX10_carryOut_28 rfl l_RX10_381 rfl ⟨by decide, by decide⟩ rfl (Nat.le_of_ble_eq_true rfl) hl (HC_sH hc).1 rfl (Nat.le_of_ble_eq_true rfl) (g_number hc 1 _ rfl (by decide)) sH_22 ?_
  refine q_istore_n [_, _, _, _, _] (pc := 31) dX10_carryOut_31 rfl (by decide) rfl ?_
  refine r_aload_n (pc := 32) dX10_carryOut_32 rfl rfl ?_
  refine r_aload_n (pc := 33) dX10_carryOut_33 rfl rfl ?_
  refine r_iload_n (pc := 34) dX10_carryOut_34 rfl rfl ?_
  refine r_iload_n (pc := 35) dX10_carryOut_35 rfl rfl ?_
  refine q_callV (ci := 8) (T := TX10) (N := 6) (vs := [.ref _, .int _, .int _]) (pc := 36) dX10_carryOut_36 rfl l_RX10_384 rfl ⟨by decide, by decide⟩ rfl (Nat.le_of_ble_eq_true rfl) hl ((sH_out (Or.inl (by decide))).trans hg) rfl (Nat.le_of_ble_eq_true rfl) (s_may_3 hl hg hc _ _) sH_22 ?_
  refine q_istore [_, _, _, _, _] (pc := 39) dX10_carryOut_39 (by decide) rfl ?_
  refine r_iload (pc := 41) dX10_carryOut_41 rfl ?_
  refine r_if_eq 247 (pc := 43) dX10_carryOut_43 (by decide) (fun c43 => absurd c43 (c_eqf h rfl (a := 1) (b := 0) (by omega) (by omega) (by omega))) (fun c43 => ?_)
  refine r_getstatic (pc := 46) dX10_carryOut_46 rfl sw_z g_RX10_388 ?_
  refine r_aload_n (pc := 49) dX10_carryOut_49 rfl rfl ?_
  refine r_ordinal (i := 3) (pc := 50) dX10_carryOut_50 l_RX10_394 (by decide) (by decide) (by decide) (Nat.le_of_ble_eq_true rfl) ?_
  refine r_taload (n := 9) (pc := 53) dX10_carryOut_53 sw_a (vin_n (k := 3) rfl (by decide) (by decide)) ?_
  rw [cl_n (k := 3) (n := 9) rfl (show 3 < 9 by decide) (by decide)]
  refine r_tableIn 143 (pc := 54) dX10_carryOut_54 (by decide) (by decide) rfl (by decide) ?_
  refine r_aload_n (pc := 143) dX10_carryOut_143 rfl rfl ?_
  refine r_getfield (pc := 144) dX10_carryOut_144 rfl f_RX10_12 ((sH_out (Or.inl (by decide))).trans hg) rfl ?_
  refine cs_get0 (pc := 147) dX10_carryOut_147 rfl f_RX10_66 rfl ?_
  refine r_iload_n (pc := 150) dX10_carryOut_150 rfl rfl ?_
  refine cs_put (i := 1) 3 (pc := 151) dX10_carryOut_151 rfl f_RX10_91 (by decide) rfl (Nat.le_of_ble_eq_true rfl) rfl rfl ?_
  refine r_goto 247 (pc := 154) dX10_carryOut_154 (by decide) ?_
  refine r_iload (pc := 247) dX10_carryOut_247 rfl ?_
  exact r_ireturn (S := []) (pc := 249) dX10_carryOut_249 rfl (nar_b (Or.inr h)) ⟨by rw [h], rfl⟩
theorem mayT_no {C : Nat → Int32} {a b : Int32} (h : K_mayT C a b = 0) : R_cThing a b = 0 ∨ (R_cThing a b = 1 ∧ K_lt (C 4) 6 = 0) := by
  unfold K_mayT at h
  by_cases h1 : R_cThing a b = 0
  · exact Or.inl h1
  · have h2 : R_cThing a b = 1 := by
      unfold R_cThing at h1 ⊢
      by_cases q1 : R_in a 0 10000 = 0
      · rw [if_pos q1] at h1; exact absurd rfl h1
      · rw [if_neg q1] at h1 ⊢
        by_cases q2 : R_in b 1 100 = 0
        · rw [if_pos q2] at h1; exact absurd rfl h1
        · rw [if_neg q2]
    rw [if_neg h1] at h
    by_cases h3 : K_lt (C 4) 6 = 0
    · exact Or.inr ⟨h2, h3⟩
    · rw [if_neg h3] at h; exact absurd h (by decide)
theorem mayT_yes {C : Nat → Int32} {a b : Int32} (h : K_mayT C a b = 1) : R_cThing a b = 1 ∧ K_lt (C 4) 6 = 1 := by
  unfold K_mayT at h
  by_cases h1 : R_cThing a b = 0
  · rw [if_pos h1] at h; exact absurd h (by decide)
  · rw [if_neg h1] at h
    constructor
    · unfold R_cThing at h1 ⊢
      by_cases q1 : R_in a 0 10000 = 0
      · rw [if_pos q1] at h1; exact absurd rfl h1
      · rw [if_neg q1] at h1 ⊢
        by_cases q2 : R_in b 1 100 = 0
        · rw [if_pos q2] at h1; exact absurd rfl h1
        · rw [if_neg q2]
    · by_cases h3 : K_lt (C 4) 6 = 0
      · rw [if_pos h3] at h; exact absurd h (by decide)
      · unfold K_lt at h3 ⊢
        by_cases q : (6 : Int32) ≤ C 4
        · rw [if_pos q] at h3; exact absurd rfl h3
        · rw [if_neg q]
theorem s_may_4 {om : OM} {l : Launch} {B : Nat × Nat} {R : Hp} {C : Nat → Int32} {W : Nat → Int64} {ns cnt : Int32} (hl : l.stackTraces = false) (hg : R.1 0 = .inr (8, gf ns cnt)) {ln po : Int32} {wd : Value} {t nu : Nat → Int32} (hc : HC R ln po wd t nu) (a b : Int32) (h01 : K_mayT C a b = 0 ∨ K_mayT C a b = 1) : Runs om l M_X10_mayCarryOut B 0 (entL 4 [.ref 0, .ref 100014, .int a, .int b]) [] (sH R 1 C W) (Det (some (.int (K_mayT C a b))) (sH R 1 C W)) := by
  rcases h01 with h | h
  · rw [h]
    rcases mayT_no h with q | ⟨q1, q2⟩
    · exact s_may_4a hl hg hc a b q
    · exact s_may_4b hl hg hc a b q1 q2
  · rw [h]
    exact s_may_4c hl hg hc a b (mayT_yes h).1 (mayT_yes h).2
theorem s_co_4_no {om : OM} {l : Launch} {B : Nat × Nat} {R : Hp} {C : Nat → Int32} {W : Nat → Int64} {ns cnt : Int32} (hl : l.stackTraces = false) (hg : R.1 0 = .inr (8, gf ns cnt)) {ln po : Int32} {t nu : Nat → Int32} (hc : HC R ln po (.ref 100014) t nu) (h : K_mayT C (nu 0) (nu 1) = 0) : Runs om l M_X10_carryOut B 0 (entL 5 [.ref 0]) [] (sH R 1 C W) (Det (some (.int 0)) (sH R 1 C W)) := by
  show Runs om l M_X10_carryOut B 0 [some (.ref 0), none, none, none, none] [] _ _
  refine r_aload_n (pc := 0) dX10_carryOut_0 rfl rfl ?_
  refine r_getfield (pc := 1) dX10_carryOut_1 rfl f_RX10_33 ((sH_out (Or.inl (by decide))).trans hg) rfl ?_
  refine r_getfield (pc := 4) dX10_carryOut_4 rfl f_RX10_377 (HC_sH hc).1 rfl ?_
  refine q_astore_n [_, _, _, _, _] (pc := 7) dX10_carryOut_7 rfl (by decide) rfl ?_
  refine r_aload_n (pc := 8) dX10_carryOut_8 rfl rfl ?_
  refine r_ifnonnull 14 (pc := 9) dX10_carryOut_9 (by decide) ?_
  refine r_aload_n (pc := 14) dX10_carryOut_14 rfl rfl ?_
  refine r_getfield (pc := 15) dX10_carryOut_15 rfl f_RX10_33 ((sH_out (Or.inl (by decide))).trans hg) rfl ?_
  refine r_iconst (v := 0) (pc := 18) dX10_carryOut_18 (by decide) ?_
  refine q_callV (ci := 0) (T := TX1) (N := 5) (vs := [.int _]) (pc := 19) dX10_carryOut_19 rfl l_RX10_381 rfl ⟨by decide, by decide⟩ rfl (Nat.le_of_ble_eq_true rfl) hl (HC_sH hc).1 rfl (Nat.le_of_ble_eq_true rfl) (g_number hc 0 _ rfl (by decide)) sH_22 ?_
  refine q_istore_n [_, _, _, _, _] (pc := 22) dX10_carryOut_22 rfl (by decide) rfl ?_
  refine r_aload_n (pc := 23) dX10_carryOut_23 rfl rfl ?_
  refine r_getfield (pc := 24) dX10_carryOut_24 rfl f_RX10_33 ((sH_out (Or.inl (by decide))).trans hg) rfl ?_
  refine r_iconst (v := 1) (pc := 27) dX10_carryOut_27 (by decide) ?_
  refine q_callV (ci := 0) (T := TX1) (N := 5) (vs := [.int _]) (pc := 28) dX10_carryOut_28 rfl l_RX10_381 rfl ⟨by decide, by decide⟩ rfl (Nat.le_of_ble_eq_true rfl) hl (HC_sH hc).1 rfl (Nat.le_of_ble_eq_true rfl) (g_number hc 1 _ rfl (by decide)) sH_22 ?_
  refine q_istore_n [_, _, _, _, _] (pc := 31) dX10_carryOut_31 rfl (by decide) rfl ?_
  refine r_aload_n (pc := 32) dX10_carryOut_32 rfl rfl ?_
  refine r_aload_n (pc := 33) dX10_carryOut_33 rfl rfl ?_
  refine r_iload_n (pc := 34) dX10_carryOut_34 rfl rfl ?_
  refine r_iload_n (pc := 35) dX10_carryOut_35 rfl rfl ?_
  refine q_callV (ci := 8) (T := TX10) (N := 6) (vs := [.ref _, .int _, .int _]) (pc := 36) dX10_carryOut_36 rfl l_RX10_384 rfl ⟨by decide, by decide⟩ rfl (Nat.le_of_ble_eq_true rfl) hl ((sH_out (Or.inl (by decide))).trans hg) rfl (Nat.le_of_ble_eq_true rfl) (s_may_4 hl hg hc _ _ (Or.inl h)) sH_22 ?_
  refine q_istore [_, _, _, _, _] (pc := 39) dX10_carryOut_39 (by decide) rfl ?_
  refine r_iload (pc := 41) dX10_carryOut_41 rfl ?_
  refine r_if_eq 247 (pc := 43) dX10_carryOut_43 (by decide) (fun c43 => ?_) (fun c43 => absurd (c_eqt h rfl (a := 0) (b := 0) (by omega) (by omega) (by omega)) c43)
  refine r_iload (pc := 247) dX10_carryOut_247 rfl ?_
  exact r_ireturn (S := []) (pc := 249) dX10_carryOut_249 rfl (nar_b (Or.inl h)) ⟨by rw [h], rfl⟩
theorem s_co_4_yes {om : OM} {l : Launch} {B : Nat × Nat} {R : Hp} {C : Nat → Int32} {W : Nat → Int64} {ns cnt : Int32} (hl : l.stackTraces = false) (hg : R.1 0 = .inr (8, gf ns cnt)) {ln po : Int32} {t nu : Nat → Int32} (hc : HC R ln po (.ref 100014) t nu) (h : K_mayT C (nu 0) (nu 1) = 1) (k : Nat) (h4 : C 4 = nI k) (hk : k < 6) : Runs om l M_X10_carryOut B 0 (entL 5 [.ref 0]) [] (sH R 1 C W) (Det (some (.int 1)) (sH R 1 (R_adds C k (nu 0) (nu 1)) W)) := by
  show Runs om l M_X10_carryOut B 0 [some (.ref 0), none, none, none, none] [] _ _
  refine r_aload_n (pc := 0) dX10_carryOut_0 rfl rfl ?_
  refine r_getfield (pc := 1) dX10_carryOut_1 rfl f_RX10_33 ((sH_out (Or.inl (by decide))).trans hg) rfl ?_
  refine r_getfield (pc := 4) dX10_carryOut_4 rfl f_RX10_377 (HC_sH hc).1 rfl ?_
  refine q_astore_n [_, _, _, _, _] (pc := 7) dX10_carryOut_7 rfl (by decide) rfl ?_
  refine r_aload_n (pc := 8) dX10_carryOut_8 rfl rfl ?_
  refine r_ifnonnull 14 (pc := 9) dX10_carryOut_9 (by decide) ?_
  refine r_aload_n (pc := 14) dX10_carryOut_14 rfl rfl ?_
  refine r_getfield (pc := 15) dX10_carryOut_15 rfl f_RX10_33 ((sH_out (Or.inl (by decide))).trans hg) rfl ?_
  refine r_iconst (v := 0) (pc := 18) dX10_carryOut_18 (by decide) ?_
  refine q_callV (ci := 0) (T := TX1) (N := 5) (vs := [.int _]) (pc := 19) dX10_carryOut_19 rfl l_RX10_381 rfl ⟨by decide, by decide⟩ rfl (Nat.le_of_ble_eq_true rfl) hl (HC_sH hc).1 rfl (Nat.le_of_ble_eq_true rfl) (g_number hc 0 _ rfl (by decide)) sH_22 ?_
  refine q_istore_n [_, _, _, _, _] (pc := 22) dX10_carryOut_22 rfl (by decide) rfl ?_
  refine r_aload_n (pc := 23) dX10_carryOut_23 rfl rfl ?_
  refine r_getfield (pc := 24) dX10_carryOut_24 rfl f_RX10_33 ((sH_out (Or.inl (by decide))).trans hg) rfl ?_
  refine r_iconst (v := 1) (pc := 27) dX10_carryOut_27 (by decide) ?_
  refine q_callV (ci := 0) (T := TX1) (N := 5) (vs := [.int _]) (pc := 28) dX10_carryOut_28 rfl l_RX10_381 rfl ⟨by decide, by decide⟩ rfl (Nat.le_of_ble_eq_true rfl) hl (HC_sH hc).1 rfl (Nat.le_of_ble_eq_true rfl) (g_number hc 1 _ rfl (by decide)) sH_22 ?_
  refine q_istore_n [_, _, _, _, _] (pc := 31) dX10_carryOut_31 rfl (by decide) rfl ?_
  refine r_aload_n (pc := 32) dX10_carryOut_32 rfl rfl ?_
  refine r_aload_n (pc := 33) dX10_carryOut_33 rfl rfl ?_
  refine r_iload_n (pc := 34) dX10_carryOut_34 rfl rfl ?_
  refine r_iload_n (pc := 35) dX10_carryOut_35 rfl rfl ?_
  refine q_callV (ci := 8) (T := TX10) (N := 6) (vs := [.ref _, .int _, .int _]) (pc := 36) dX10_carryOut_36 rfl l_RX10_384 rfl ⟨by decide, by decide⟩ rfl (Nat.le_of_ble_eq_true rfl) hl ((sH_out (Or.inl (by decide))).trans hg) rfl (Nat.le_of_ble_eq_true rfl) (s_may_4 hl hg hc _ _ (Or.inr h)) sH_22 ?_
  refine q_istore [_, _, _, _, _] (pc := 39) dX10_carryOut_39 (by decide) rfl ?_
  refine r_iload (pc := 41) dX10_carryOut_41 rfl ?_
  refine r_if_eq 247 (pc := 43) dX10_carryOut_43 (by decide) (fun c43 => absurd c43 (c_eqf h rfl (a := 1) (b := 0) (by omega) (by omega) (by omega))) (fun c43 => ?_)
  refine r_getstatic (pc := 46) dX10_carryOut_46 rfl sw_z g_RX10_388 ?_
  refine r_aload_n (pc := 49) dX10_carryOut_49 rfl rfl ?_
  refine r_ordinal (i := 4) (pc := 50) dX10_carryOut_50 l_RX10_394 (by decide) (by decide) (by decide) (Nat.le_of_ble_eq_true rfl) ?_
  refine r_taload (n := 9) (pc := 53) dX10_carryOut_53 sw_a (vin_n (k := 4) rfl (by decide) (by decide)) ?_
  rw [cl_n (k := 4) (n := 9) rfl (show 4 < 9 by decide) (by decide)]
  refine r_tableIn 157 (pc := 54) dX10_carryOut_54 (by decide) (by decide) rfl (by decide) ?_
  refine r_aload_n (pc := 157) dX10_carryOut_157 rfl rfl ?_
  refine r_getfield (pc := 158) dX10_carryOut_158 rfl f_RX10_12 ((sH_out (Or.inl (by decide))).trans hg) rfl ?_
  refine cs_get0 (pc := 161) dX10_carryOut_161 rfl f_RX10_66 rfl ?_
  refine r_iload_n (pc := 164) dX10_carryOut_164 rfl rfl ?_
  refine r_iload_n (pc := 165) dX10_carryOut_165 rfl rfl ?_
  refine q_callV (ci := 7) (T := TX8) (N := 14) (vs := [.int _, .int _]) (pc := 166) dX10_carryOut_166 rfl l_RX10_109 rfl ⟨by decide, by decide⟩ rfl (Nat.le_of_ble_eq_true rfl) hl (sH_at (i := 1) (by decide)) rfl (Nat.le_of_ble_eq_true rfl) (s_X8_putThing k h4 hk _ _) sH_22 ?_
  refine r_goto 247 (pc := 169) dX10_carryOut_169 (by decide) ?_
  refine r_iload (pc := 247) dX10_carryOut_247 rfl ?_
  exact r_ireturn (S := []) (pc := 249) dX10_carryOut_249 rfl (nar_b (Or.inr h)) ⟨by rw [h], rfl⟩
theorem s_co_5_no {om : OM} {l : Launch} {B : Nat × Nat} {R : Hp} {C : Nat → Int32} {W : Nat → Int64} {ns cnt : Int32} (hl : l.stackTraces = false) (hg : R.1 0 = .inr (8, gf ns cnt)) {ln po : Int32} {t nu : Nat → Int32} (hc : HC R ln po (.ref 100015) t nu) (h : R_cStir (nu 0) (nu 1) (nu 2) (nu 3) (nu 4) = 0) : Runs om l M_X10_carryOut B 0 (entL 5 [.ref 0]) [] (sH R 1 C W) (Det (some (.int 0)) (sH R 1 C W)) := by
  show Runs om l M_X10_carryOut B 0 [some (.ref 0), none, none, none, none] [] _ _
  refine r_aload_n (pc := 0) dX10_carryOut_0 rfl rfl ?_
  refine r_getfield (pc := 1) dX10_carryOut_1 rfl f_RX10_33 ((sH_out (Or.inl (by decide))).trans hg) rfl ?_
  refine r_getfield (pc := 4) dX10_carryOut_4 rfl f_RX10_377 (HC_sH hc).1 rfl ?_
  refine q_astore_n [_, _, _, _, _] (pc := 7) dX10_carryOut_7 rfl (by decide) rfl ?_
  refine r_aload_n (pc := 8) dX10_carryOut_8 rfl rfl ?_
  refine r_ifnonnull 14 (pc := 9) dX10_carryOut_9 (by decide) ?_
  refine r_aload_n (pc := 14) dX10_carryOut_14 rfl rfl ?_
  refine r_getfield (pc := 15) dX10_carryOut_15 rfl f_RX10_33 ((sH_out (Or.inl (by decide))).trans hg) rfl ?_
  refine r_iconst (v := 0) (pc := 18) dX10_carryOut_18 (by decide) ?_
  refine q_callV (ci := 0) (T := TX1) (N := 5) (vs := [.int _]) (pc := 19) dX10_carryOut_19 rfl l_RX10_381 rfl ⟨by decide, by decide⟩ rfl (Nat.le_of_ble_eq_true rfl) hl (HC_sH hc).1 rfl (Nat.le_of_ble_eq_true rfl) (g_number hc 0 _ rfl (by decide)) sH_22 ?_
  refine q_istore_n [_, _, _, _, _] (pc := 22) dX10_carryOut_22 rfl (by decide) rfl ?_
  refine r_aload_n (pc := 23) dX10_carryOut_23 rfl rfl ?_
  refine r_getfield (pc := 24) dX10_carryOut_24 rfl f_RX10_33 ((sH_out (Or.inl (by decide))).trans hg) rfl ?_
  refine r_iconst (v := 1) (pc := 27) dX10_carryOut_27 (by decide) ?_
  refine q_callV (ci := 0) (T := TX1) (N := 5) (vs := [.int _]) (pc := 28) dX10_carryOut_28 rfl l_RX10_381 rfl ⟨by decide, by decide⟩ rfl (Nat.le_of_ble_eq_true rfl) hl (HC_sH hc).1 rfl (Nat.le_of_ble_eq_true rfl) (g_number hc 1 _ rfl (by decide)) sH_22 ?_
  refine q_istore_n [_, _, _, _, _] (pc := 31) dX10_carryOut_31 rfl (by decide) rfl ?_
  refine r_aload_n (pc := 32) dX10_carryOut_32 rfl rfl ?_
  refine r_aload_n (pc := 33) dX10_carryOut_33 rfl rfl ?_
  refine r_iload_n (pc := 34) dX10_carryOut_34 rfl rfl ?_
  refine r_iload_n (pc := 35) dX10_carryOut_35 rfl rfl ?_
  refine q_callV (ci := 8) (T := TX10) (N := 6) (vs := [.ref _, .int _, .int _]) (pc := 36) dX10_carryOut_36 rfl l_RX10_384 rfl ⟨by decide, by decide⟩ rfl (Nat.le_of_ble_eq_true rfl) hl ((sH_out (Or.inl (by decide))).trans hg) rfl (Nat.le_of_ble_eq_true rfl) (s_may_5 hl hg hc _ _) sH_22 ?_
  refine q_istore [_, _, _, _, _] (pc := 39) dX10_carryOut_39 (by decide) rfl ?_
  refine r_iload (pc := 41) dX10_carryOut_41 rfl ?_
  refine r_if_eq 247 (pc := 43) dX10_carryOut_43 (by decide) (fun c43 => ?_) (fun c43 => absurd (c_eqt h rfl (a := 0) (b := 0) (by omega) (by omega) (by omega)) c43)
  refine r_iload (pc := 247) dX10_carryOut_247 rfl ?_
  exact r_ireturn (S := []) (pc := 249) dX10_carryOut_249 rfl (nar_b (Or.inl h)) ⟨by rw [h], rfl⟩
theorem s_co_5_yes {om : OM} {l : Launch} {B : Nat × Nat} {R : Hp} {C : Nat → Int32} {W : Nat → Int64} {ns cnt : Int32} (hl : l.stackTraces = false) (hg : R.1 0 = .inr (8, gf ns cnt)) {ln po : Int32} {t nu : Nat → Int32} (hc : HC R ln po (.ref 100015) t nu) (h : R_cStir (nu 0) (nu 1) (nu 2) (nu 3) (nu 4) = 1) : Runs om l M_X10_carryOut B 0 (entL 5 [.ref 0]) [] (sH R 1 C W) (Det (some (.int 1)) (sH R 1 (R_stirs C (nu 0) (nu 1) (nu 2) (nu 3) (nu 4)) W)) := by
  show Runs om l M_X10_carryOut B 0 [some (.ref 0), none, none, none, none] [] _ _
  refine r_aload_n (pc := 0) dX10_carryOut_0 rfl rfl ?_
  refine r_getfield (pc := 1) dX10_carryOut_1 rfl f_RX10_33 ((sH_out (Or.inl (by decide))).trans hg) rfl ?_
  refine r_getfield (pc := 4) dX10_carryOut_4 rfl f_RX10_377 (HC_sH hc).1 rfl ?_
  refine q_astore_n [_, _, _, _, _] (pc := 7) dX10_carryOut_7 rfl (by decide) rfl ?_
  refine r_aload_n (pc := 8) dX10_carryOut_8 rfl rfl ?_
  refine r_ifnonnull 14 (pc := 9) dX10_carryOut_9 (by decide) ?_
  refine r_aload_n (pc := 14) dX10_carryOut_14 rfl rfl ?_
  refine r_getfield (pc := 15) dX10_carryOut_15 rfl f_RX10_33 ((sH_out (Or.inl (by decide))).trans hg) rfl ?_
  refine r_iconst (v := 0) (pc := 18) dX10_carryOut_18 (by decide) ?_
  refine q_callV (ci := 0) (T := TX1) (N := 5) (vs := [.int _]) (pc := 19) dX10_carryOut_19 rfl l_RX10_381 rfl ⟨by decide, by decide⟩ rfl (Nat.le_of_ble_eq_true rfl) hl (HC_sH hc).1 rfl (Nat.le_of_ble_eq_true rfl) (g_number hc 0 _ rfl (by decide)) sH_22 ?_
  refine q_istore_n [_, _, _, _, _] (pc := 22) dX10_carryOut_22 rfl (by decide) rfl ?_
  refine r_aload_n (pc := 23) dX10_carryOut_23 rfl rfl ?_
  refine r_getfield (pc := 24) dX10_carryOut_24 rfl f_RX10_33 ((sH_out (Or.inl (by decide))).trans hg) rfl ?_
  refine r_iconst (v := 1) (pc := 27) dX10_carryOut_27 (by decide) ?_
  refine q_callV (ci := 0) (T := TX1) (N := 5) (vs := [.int _]) (pc := 28) dX10_carryOut_28 rfl l_RX10_381 rfl ⟨by decide, by decide⟩ rfl (Nat.le_of_ble_eq_true rfl) hl (HC_sH hc).1 rfl (Nat.le_of_ble_eq_true rfl) (g_number hc 1 _ rfl (by decide)) sH_22 ?_
  refine q_istore_n [_, _, _, _, _] (pc := 31) dX10_carryOut_31 rfl (by decide) rfl ?_
  refine r_aload_n (pc := 32) dX10_carryOut_32 rfl rfl ?_
  refine r_aload_n (pc := 33) dX10_carryOut_33 rfl rfl ?_
  refine r_iload_n (pc := 34) dX10_carryOut_34 rfl rfl ?_
  refine r_iload_n (pc := 35) dX10_carryOut_35 rfl rfl ?_
  refine q_callV (ci := 8) (T := TX10) (N := 6) (vs := [.ref _, .int _, .int _]) (pc := 36) dX10_carryOut_36 rfl l_RX10_384 rfl ⟨by decide, by decide⟩ rfl (Nat.le_of_ble_eq_true rfl) hl ((sH_out (Or.inl (by decide))).trans hg) rfl (Nat.le_of_ble_eq_true rfl) (s_may_5 hl hg hc _ _) sH_22 ?_
  refine q_istore [_, _, _, _, _] (pc := 39) dX10_carryOut_39 (by decide) rfl ?_
  refine r_iload (pc := 41) dX10_carryOut_41 rfl ?_
  refine r_if_eq 247 (pc := 43) dX10_carryOut_43 (by decide) (fun c43 => absurd c43 (c_eqf h rfl (a := 1) (b := 0) (by omega) (by omega) (by omega))) (fun c43 => ?_)
  refine r_getstatic (pc := 46) dX10_carryOut_46 rfl sw_z g_RX10_388 ?_
  refine r_aload_n (pc := 49) dX10_carryOut_49 rfl rfl ?_
  refine r_ordinal (i := 5) (pc := 50) dX10_carryOut_50 l_RX10_394 (by decide) (by decide) (by decide) (Nat.le_of_ble_eq_true rfl) ?_
  refine r_taload (n := 9) (pc := 53) dX10_carryOut_53 sw_a (vin_n (k := 5) rfl (by decide) (by decide)) ?_
  rw [cl_n (k := 5) (n := 9) rfl (show 5 < 9 by decide) (by decide)]
  refine r_tableIn 172 (pc := 54) dX10_carryOut_54 (by decide) (by decide) rfl (by decide) ?_
  refine r_aload_n (pc := 172) dX10_carryOut_172 rfl rfl ?_
  refine r_getfield (pc := 173) dX10_carryOut_173 rfl f_RX10_12 ((sH_out (Or.inl (by decide))).trans hg) rfl ?_
  refine cs_get0 (pc := 176) dX10_carryOut_176 rfl f_RX10_66 rfl ?_
  refine r_iload_n (pc := 179) dX10_carryOut_179 rfl rfl ?_
  refine r_iload_n (pc := 180) dX10_carryOut_180 rfl rfl ?_
  refine r_aload_n (pc := 181) dX10_carryOut_181 rfl rfl ?_
  refine r_getfield (pc := 182) dX10_carryOut_182 rfl f_RX10_33 ((sH_out (Or.inl (by decide))).trans hg) rfl ?_
  refine r_iconst (v := 2) (pc := 185) dX10_carryOut_185 (by decide) ?_
  refine q_callV (ci := 0) (T := TX1) (N := 5) (vs := [.int _]) (pc := 186) dX10_carryOut_186 rfl l_RX10_381 rfl ⟨by decide, by decide⟩ rfl (Nat.le_of_ble_eq_true rfl) hl (HC_sH hc).1 rfl (Nat.le_of_ble_eq_true rfl) (g_number hc 2 _ rfl (by decide)) sH_22 ?_
  refine r_aload_n (pc := 189) dX10_carryOut_189 rfl rfl ?_
  refine r_getfield (pc := 190) dX10_carryOut_190 rfl f_RX10_33 ((sH_out (Or.inl (by decide))).trans hg) rfl ?_
  refine r_iconst (v := 3) (pc := 193) dX10_carryOut_193 (by decide) ?_
  refine q_callV (ci := 0) (T := TX1) (N := 5) (vs := [.int _]) (pc := 194) dX10_carryOut_194 rfl l_RX10_381 rfl ⟨by decide, by decide⟩ rfl (Nat.le_of_ble_eq_true rfl) hl (HC_sH hc).1 rfl (Nat.le_of_ble_eq_true rfl) (g_number hc 3 _ rfl (by decide)) sH_22 ?_
  refine r_aload_n (pc := 197) dX10_carryOut_197 rfl rfl ?_
  refine r_getfield (pc := 198) dX10_carryOut_198 rfl f_RX10_33 ((sH_out (Or.inl (by decide))).trans hg) rfl ?_
  refine r_iconst (v := 4) (pc := 201) dX10_carryOut_201 (by decide) ?_
  refine q_callV (ci := 0) (T := TX1) (N := 5) (vs := [.int _]) (pc := 202) dX10_carryOut_202 rfl l_RX10_381 rfl ⟨by decide, by decide⟩ rfl (Nat.le_of_ble_eq_true rfl) hl (HC_sH hc).1 rfl (Nat.le_of_ble_eq_true rfl) (g_number hc 4 _ rfl (by decide)) sH_22 ?_
  refine q_callV (ci := 7) (T := TX8) (N := 14) (vs := [.int _, .int _, .int _, .int _, .int _]) (pc := 205) dX10_carryOut_205 rfl l_RX10_136 rfl ⟨by decide, by decide⟩ rfl (Nat.le_of_ble_eq_true rfl) hl (sH_at (i := 1) (by decide)) rfl (Nat.le_of_ble_eq_true rfl) (s_X8_putStirrer _ _ _ _ _) sH_22 ?_
  refine r_goto 247 (pc := 208) dX10_carryOut_208 (by decide) ?_
  refine r_iload (pc := 247) dX10_carryOut_247 rfl ?_
  exact r_ireturn (S := []) (pc := 249) dX10_carryOut_249 rfl (nar_b (Or.inr h)) ⟨by rw [h], rfl⟩
theorem s_co_6_no {om : OM} {l : Launch} {B : Nat × Nat} {R : Hp} {C : Nat → Int32} {W : Nat → Int64} {ns cnt : Int32} (hl : l.stackTraces = false) (hg : R.1 0 = .inr (8, gf ns cnt)) {ln po : Int32} {t nu : Nat → Int32} (hc : HC R ln po (.ref 100016) t nu) (h : R_cSet C (nu 0) (nu 1) = 0) : Runs om l M_X10_carryOut B 0 (entL 5 [.ref 0]) [] (sH R 1 C W) (Det (some (.int 0)) (sH R 1 C W)) := by
  show Runs om l M_X10_carryOut B 0 [some (.ref 0), none, none, none, none] [] _ _
  refine r_aload_n (pc := 0) dX10_carryOut_0 rfl rfl ?_
  refine r_getfield (pc := 1) dX10_carryOut_1 rfl f_RX10_33 ((sH_out (Or.inl (by decide))).trans hg) rfl ?_
  refine r_getfield (pc := 4) dX10_carryOut_4 rfl f_RX10_377 (HC_sH hc).1 rfl ?_
  refine q_astore_n [_, _, _, _, _] (pc := 7) dX10_carryOut_7 rfl (by decide) rfl ?_
  refine r_aload_n (pc := 8) dX10_carryOut_8 rfl rfl ?_
  refine r_ifnonnull 14 (pc := 9) dX10_carryOut_9 (by decide) ?_
  refine r_aload_n (pc := 14) dX10_carryOut_14 rfl rfl ?_
  refine r_getfield (pc := 15) dX10_carryOut_15 rfl f_RX10_33 ((sH_out (Or.inl (by decide))).trans hg) rfl ?_
  refine r_iconst (v := 0) (pc := 18) dX10_carryOut_18 (by decide) ?_
  refine q_callV (ci := 0) (T := TX1) (N := 5) (vs := [.int _]) (pc := 19) dX10_carryOut_19 rfl l_RX10_381 rfl ⟨by decide, by decide⟩ rfl (Nat.le_of_ble_eq_true rfl) hl (HC_sH hc).1 rfl (Nat.le_of_ble_eq_true rfl) (g_number hc 0 _ rfl (by decide)) sH_22 ?_
  refine q_istore_n [_, _, _, _, _] (pc := 22) dX10_carryOut_22 rfl (by decide) rfl ?_
  refine r_aload_n (pc := 23) dX10_carryOut_23 rfl rfl ?_
  refine r_getfield (pc := 24) dX10_carryOut_24 rfl f_RX10_33 ((sH_out (Or.inl (by decide))).trans hg) rfl ?_
  refine r_iconst (v := 1) (pc := 27) dX10_carryOut_27 (by decide) ?_
  refine q_callV (ci := 0) (T := TX1) (N := 5) (vs := [.int _]) (pc := 28) dX10_carryOut_28 rfl l_RX10_381 rfl ⟨by decide, by decide⟩ rfl (Nat.le_of_ble_eq_true rfl) hl (HC_sH hc).1 rfl (Nat.le_of_ble_eq_true rfl) (g_number hc 1 _ rfl (by decide)) sH_22 ?_
  refine q_istore_n [_, _, _, _, _] (pc := 31) dX10_carryOut_31 rfl (by decide) rfl ?_
  refine r_aload_n (pc := 32) dX10_carryOut_32 rfl rfl ?_
  refine r_aload_n (pc := 33) dX10_carryOut_33 rfl rfl ?_
  refine r_iload_n (pc := 34) dX10_carryOut_34 rfl rfl ?_
  refine r_iload_n (pc := 35) dX10_carryOut_35 rfl rfl ?_
  refine q_callV (ci := 8) (T := TX10) (N := 6) (vs := [.ref _, .int _, .int _]) (pc := 36) dX10_carryOut_36 rfl l_RX10_384 rfl ⟨by decide, by decide⟩ rfl (Nat.le_of_ble_eq_true rfl) hl ((sH_out (Or.inl (by decide))).trans hg) rfl (Nat.le_of_ble_eq_true rfl) (s_may_6 hl hg hc _ _) sH_22 ?_
  refine q_istore [_, _, _, _, _] (pc := 39) dX10_carryOut_39 (by decide) rfl ?_
  refine r_iload (pc := 41) dX10_carryOut_41 rfl ?_
  refine r_if_eq 247 (pc := 43) dX10_carryOut_43 (by decide) (fun c43 => ?_) (fun c43 => absurd (c_eqt h rfl (a := 0) (b := 0) (by omega) (by omega) (by omega)) c43)
  refine r_iload (pc := 247) dX10_carryOut_247 rfl ?_
  exact r_ireturn (S := []) (pc := 249) dX10_carryOut_249 rfl (nar_b (Or.inl h)) ⟨by rw [h], rfl⟩
theorem s_co_6_yes {om : OM} {l : Launch} {B : Nat × Nat} {R : Hp} {C : Nat → Int32} {W : Nat → Int64} {ns cnt : Int32} (hl : l.stackTraces = false) (hg : R.1 0 = .inr (8, gf ns cnt)) {ln po : Int32} {t nu : Nat → Int32} (hc : HC R ln po (.ref 100016) t nu) (h : R_cSet C (nu 0) (nu 1) = 1) (k : Nat) (hx : nu 0 = nI k) (hk : k < 12) (h6 : k ≠ 6) : Runs om l M_X10_carryOut B 0 (entL 5 [.ref 0]) [] (sH R 1 C W) (Det (some (.int 1)) (sH R 1 (upd C (12 + k) (nu 1)) W)) := by
  show Runs om l M_X10_carryOut B 0 [some (.ref 0), none, none, none, none] [] _ _
  refine r_aload_n (pc := 0) dX10_carryOut_0 rfl rfl ?_
  refine r_getfield (pc := 1) dX10_carryOut_1 rfl f_RX10_33 ((sH_out (Or.inl (by decide))).trans hg) rfl ?_
  refine r_getfield (pc := 4) dX10_carryOut_4 rfl f_RX10_377 (HC_sH hc).1 rfl ?_
  refine q_astore_n [_, _, _, _, _] (pc := 7) dX10_carryOut_7 rfl (by decide) rfl ?_
  refine r_aload_n (pc := 8) dX10_carryOut_8 rfl rfl ?_
  refine r_ifnonnull 14 (pc := 9) dX10_carryOut_9 (by decide) ?_
  refine r_aload_n (pc := 14) dX10_carryOut_14 rfl rfl ?_
  refine r_getfield (pc := 15) dX10_carryOut_15 rfl f_RX10_33 ((sH_out (Or.inl (by decide))).trans hg) rfl ?_
  refine r_iconst (v := 0) (pc := 18) dX10_carryOut_18 (by decide) ?_
  refine q_callV (ci := 0) (T := TX1) (N := 5) (vs := [.int _]) (pc := 19) dX10_carryOut_19 rfl l_RX10_381 rfl ⟨by decide, by decide⟩ rfl (Nat.le_of_ble_eq_true rfl) hl (HC_sH hc).1 rfl (Nat.le_of_ble_eq_true rfl) (g_number hc 0 _ rfl (by decide)) sH_22 ?_
  refine q_istore_n [_, _, _, _, _] (pc := 22) dX10_carryOut_22 rfl (by decide) rfl ?_
  refine r_aload_n (pc := 23) dX10_carryOut_23 rfl rfl ?_
  refine r_getfield (pc := 24) dX10_carryOut_24 rfl f_RX10_33 ((sH_out (Or.inl (by decide))).trans hg) rfl ?_
  refine r_iconst (v := 1) (pc := 27) dX10_carryOut_27 (by decide) ?_
  refine q_callV (ci := 0) (T := TX1) (N := 5) (vs := [.int _]) (pc := 28) dX10_carryOut_28 rfl l_RX10_381 rfl ⟨by decide, by decide⟩ rfl (Nat.le_of_ble_eq_true rfl) hl (HC_sH hc).1 rfl (Nat.le_of_ble_eq_true rfl) (g_number hc 1 _ rfl (by decide)) sH_22 ?_
  refine q_istore_n [_, _, _, _, _] (pc := 31) dX10_carryOut_31 rfl (by decide) rfl ?_
  refine r_aload_n (pc := 32) dX10_carryOut_32 rfl rfl ?_
  refine r_aload_n (pc := 33) dX10_carryOut_33 rfl rfl ?_
  refine r_iload_n (pc := 34) dX10_carryOut_34 rfl rfl ?_
  refine r_iload_n (pc := 35) dX10_carryOut_35 rfl rfl ?_
  refine q_callV (ci := 8) (T := TX10) (N := 6) (vs := [.ref _, .int _, .int _]) (pc := 36) dX10_carryOut_36 rfl l_RX10_384 rfl ⟨by decide, by decide⟩ rfl (Nat.le_of_ble_eq_true rfl) hl ((sH_out (Or.inl (by decide))).trans hg) rfl (Nat.le_of_ble_eq_true rfl) (s_may_6 hl hg hc _ _) sH_22 ?_
  refine q_istore [_, _, _, _, _] (pc := 39) dX10_carryOut_39 (by decide) rfl ?_
  refine r_iload (pc := 41) dX10_carryOut_41 rfl ?_
  refine r_if_eq 247 (pc := 43) dX10_carryOut_43 (by decide) (fun c43 => absurd c43 (c_eqf h rfl (a := 1) (b := 0) (by omega) (by omega) (by omega))) (fun c43 => ?_)
  refine r_getstatic (pc := 46) dX10_carryOut_46 rfl sw_z g_RX10_388 ?_
  refine r_aload_n (pc := 49) dX10_carryOut_49 rfl rfl ?_
  refine r_ordinal (i := 6) (pc := 50) dX10_carryOut_50 l_RX10_394 (by decide) (by decide) (by decide) (Nat.le_of_ble_eq_true rfl) ?_
  refine r_taload (n := 9) (pc := 53) dX10_carryOut_53 sw_a (vin_n (k := 6) rfl (by decide) (by decide)) ?_
  rw [cl_n (k := 6) (n := 9) rfl (show 6 < 9 by decide) (by decide)]
  refine r_tableIn 211 (pc := 54) dX10_carryOut_54 (by decide) (by decide) rfl (by decide) ?_
  refine r_aload_n (pc := 211) dX10_carryOut_211 rfl rfl ?_
  refine r_getfield (pc := 212) dX10_carryOut_212 rfl f_RX10_12 ((sH_out (Or.inl (by decide))).trans hg) rfl ?_
  refine r_iload_n (pc := 215) dX10_carryOut_215 rfl rfl ?_
  refine r_iload_n (pc := 216) dX10_carryOut_216 rfl rfl ?_
  refine q_callV (ci := 6) (T := TX7) (N := 7) (vs := [.int _, .int _]) (pc := 217) dX10_carryOut_217 rfl l_RX10_155 rfl ⟨by decide, by decide⟩ rfl (Nat.le_of_ble_eq_true rfl) hl sH_0 rfl (Nat.le_of_ble_eq_true rfl) (s_X7_change hl _ _ k hx hk h6) sH_22 ?_
  refine r_goto 247 (pc := 220) dX10_carryOut_220 (by decide) ?_
  refine r_iload (pc := 247) dX10_carryOut_247 rfl ?_
  exact r_ireturn (S := []) (pc := 249) dX10_carryOut_249 rfl (nar_b (Or.inr h)) ⟨by rw [h], rfl⟩
theorem s_co_6_yes6 {om : OM} {l : Launch} {B : Nat × Nat} {R : Hp} {C : Nat → Int32} {W : Nat → Int64} {ns cnt : Int32} (hl : l.stackTraces = false) (hg : R.1 0 = .inr (8, gf ns cnt)) {ln po : Int32} {t nu : Nat → Int32} (hc : HC R ln po (.ref 100016) t nu) (h : R_cSet C (nu 0) (nu 1) = 1) (hx : nu 0 = nI 6) (K L : Nat) (hK : C 31 = nI K) (hK9 : K ≤ 9) (hd : nu 1 = nI L) (hL : L ≤ 9) : Runs om l M_X10_carryOut B 0 (entL 5 [.ref 0]) [] (sH R 1 C W) (Det (some (.int 1)) (sH R 1 (upd (upd C (12 + 6) (nu 1)) 31 (nI (min K L))) W)) := by
  show Runs om l M_X10_carryOut B 0 [some (.ref 0), none, none, none, none] [] _ _
  refine r_aload_n (pc := 0) dX10_carryOut_0 rfl rfl ?_
  refine r_getfield (pc := 1) dX10_carryOut_1 rfl f_RX10_33 ((sH_out (Or.inl (by decide))).trans hg) rfl ?_
  refine r_getfield (pc := 4) dX10_carryOut_4 rfl f_RX10_377 (HC_sH hc).1 rfl ?_
  refine q_astore_n [_, _, _, _, _] (pc := 7) dX10_carryOut_7 rfl (by decide) rfl ?_
  refine r_aload_n (pc := 8) dX10_carryOut_8 rfl rfl ?_
  refine r_ifnonnull 14 (pc := 9) dX10_carryOut_9 (by decide) ?_
  refine r_aload_n (pc := 14) dX10_carryOut_14 rfl rfl ?_
  refine r_getfield (pc := 15) dX10_carryOut_15 rfl f_RX10_33 ((sH_out (Or.inl (by decide))).trans hg) rfl ?_
  refine r_iconst (v := 0) (pc := 18) dX10_carryOut_18 (by decide) ?_
  refine q_callV (ci := 0) (T := TX1) (N := 5) (vs := [.int _]) (pc := 19) dX10_carryOut_19 rfl l_RX10_381 rfl ⟨by decide, by decide⟩ rfl (Nat.le_of_ble_eq_true rfl) hl (HC_sH hc).1 rfl (Nat.le_of_ble_eq_true rfl) (g_number hc 0 _ rfl (by decide)) sH_22 ?_
  refine q_istore_n [_, _, _, _, _] (pc := 22) dX10_carryOut_22 rfl (by decide) rfl ?_
  refine r_aload_n (pc := 23) dX10_carryOut_23 rfl rfl ?_
  refine r_getfield (pc := 24) dX10_carryOut_24 rfl f_RX10_33 ((sH_out (Or.inl (by decide))).trans hg) rfl ?_
  refine r_iconst (v := 1) (pc := 27) dX10_carryOut_27 (by decide) ?_
  refine q_callV (ci := 0) (T := TX1) (N := 5) (vs := [.int _]) (pc := 28) dX10_carryOut_28 rfl l_RX10_381 rfl ⟨by decide, by decide⟩ rfl (Nat.le_of_ble_eq_true rfl) hl (HC_sH hc).1 rfl (Nat.le_of_ble_eq_true rfl) (g_number hc 1 _ rfl (by decide)) sH_22 ?_
  refine q_istore_n [_, _, _, _, _] (pc := 31) dX10_carryOut_31 rfl (by decide) rfl ?_
  refine r_aload_n (pc := 32) dX10_carryOut_32 rfl rfl ?_
  refine r_aload_n (pc := 33) dX10_carryOut_33 rfl rfl ?_
  refine r_iload_n (pc := 34) dX10_carryOut_34 rfl rfl ?_
  refine r_iload_n (pc := 35) dX10_carryOut_35 rfl rfl ?_
  refine q_callV (ci := 8) (T := TX10) (N := 6) (vs := [.ref _, .int _, .int _]) (pc := 36) dX10_carryOut_36 rfl l_RX10_384 rfl ⟨by decide, by decide⟩ rfl (Nat.le_of_ble_eq_true rfl) hl ((sH_out (Or.inl (by decide))).trans hg) rfl (Nat.le_of_ble_eq_true rfl) (s_may_6 hl hg hc _ _) sH_22 ?_
  refine q_istore [_, _, _, _, _] (pc := 39) dX10_carryOut_39 (by decide) rfl ?_
  refine r_iload (pc := 41) dX10_carryOut_41 rfl ?_
  refine r_if_eq 247 (pc := 43) dX10_carryOut_43 (by decide) (fun c43 => absurd c43 (c_eqf h rfl (a := 1) (b := 0) (by omega) (by omega) (by omega))) (fun c43 => ?_)
  refine r_getstatic (pc := 46) dX10_carryOut_46 rfl sw_z g_RX10_388 ?_
  refine r_aload_n (pc := 49) dX10_carryOut_49 rfl rfl ?_
  refine r_ordinal (i := 6) (pc := 50) dX10_carryOut_50 l_RX10_394 (by decide) (by decide) (by decide) (Nat.le_of_ble_eq_true rfl) ?_
  refine r_taload (n := 9) (pc := 53) dX10_carryOut_53 sw_a (vin_n (k := 6) rfl (by decide) (by decide)) ?_
  rw [cl_n (k := 6) (n := 9) rfl (show 6 < 9 by decide) (by decide)]
  refine r_tableIn 211 (pc := 54) dX10_carryOut_54 (by decide) (by decide) rfl (by decide) ?_
  refine r_aload_n (pc := 211) dX10_carryOut_211 rfl rfl ?_
  refine r_getfield (pc := 212) dX10_carryOut_212 rfl f_RX10_12 ((sH_out (Or.inl (by decide))).trans hg) rfl ?_
  refine r_iload_n (pc := 215) dX10_carryOut_215 rfl rfl ?_
  refine r_iload_n (pc := 216) dX10_carryOut_216 rfl rfl ?_
  refine q_callV (ci := 6) (T := TX7) (N := 7) (vs := [.int _, .int _]) (pc := 217) dX10_carryOut_217 rfl l_RX10_155 rfl ⟨by decide, by decide⟩ rfl (Nat.le_of_ble_eq_true rfl) hl sH_0 rfl (Nat.le_of_ble_eq_true rfl) (s_X7_change6 hl _ _ hx K L hK hK9 hd hL) sH_22 ?_
  refine r_goto 247 (pc := 220) dX10_carryOut_220 (by decide) ?_
  refine r_iload (pc := 247) dX10_carryOut_247 rfl ?_
  exact r_ireturn (S := []) (pc := 249) dX10_carryOut_249 rfl (nar_b (Or.inr h)) ⟨by rw [h], rfl⟩
theorem s_co_7_no {om : OM} {l : Launch} {B : Nat × Nat} {R : Hp} {C : Nat → Int32} {W : Nat → Int64} {ns cnt : Int32} (hl : l.stackTraces = false) (hg : R.1 0 = .inr (8, gf ns cnt)) {ln po : Int32} {t nu : Nat → Int32} (hc : HC R ln po (.ref 100017) t nu) (h : R_in (nu 0) 1 50 = 0) : Runs om l M_X10_carryOut B 0 (entL 5 [.ref 0]) [] (sH R 1 C W) (Det (some (.int 0)) (sH R 1 C W)) := by
  show Runs om l M_X10_carryOut B 0 [some (.ref 0), none, none, none, none] [] _ _
  refine r_aload_n (pc := 0) dX10_carryOut_0 rfl rfl ?_
  refine r_getfield (pc := 1) dX10_carryOut_1 rfl f_RX10_33 ((sH_out (Or.inl (by decide))).trans hg) rfl ?_
  refine r_getfield (pc := 4) dX10_carryOut_4 rfl f_RX10_377 (HC_sH hc).1 rfl ?_
  refine q_astore_n [_, _, _, _, _] (pc := 7) dX10_carryOut_7 rfl (by decide) rfl ?_
  refine r_aload_n (pc := 8) dX10_carryOut_8 rfl rfl ?_
  refine r_ifnonnull 14 (pc := 9) dX10_carryOut_9 (by decide) ?_
  refine r_aload_n (pc := 14) dX10_carryOut_14 rfl rfl ?_
  refine r_getfield (pc := 15) dX10_carryOut_15 rfl f_RX10_33 ((sH_out (Or.inl (by decide))).trans hg) rfl ?_
  refine r_iconst (v := 0) (pc := 18) dX10_carryOut_18 (by decide) ?_
  refine q_callV (ci := 0) (T := TX1) (N := 5) (vs := [.int _]) (pc := 19) dX10_carryOut_19 rfl l_RX10_381 rfl ⟨by decide, by decide⟩ rfl (Nat.le_of_ble_eq_true rfl) hl (HC_sH hc).1 rfl (Nat.le_of_ble_eq_true rfl) (g_number hc 0 _ rfl (by decide)) sH_22 ?_
  refine q_istore_n [_, _, _, _, _] (pc := 22) dX10_carryOut_22 rfl (by decide) rfl ?_
  refine r_aload_n (pc := 23) dX10_carryOut_23 rfl rfl ?_
  refine r_getfield (pc := 24) dX10_carryOut_24 rfl f_RX10_33 ((sH_out (Or.inl (by decide))).trans hg) rfl ?_
  refine r_iconst (v := 1) (pc := 27) dX10_carryOut_27 (by decide) ?_
  refine q_callV (ci := 0) (T := TX1) (N := 5) (vs := [.int _]) (pc := 28) dX10_carryOut_28 rfl l_RX10_381 rfl ⟨by decide, by decide⟩ rfl (Nat.le_of_ble_eq_true rfl) hl (HC_sH hc).1 rfl (Nat.le_of_ble_eq_true rfl) (g_number hc 1 _ rfl (by decide)) sH_22 ?_
  refine q_istore_n [_, _, _, _, _] (pc := 31) dX10_carryOut_31 rfl (by decide) rfl ?_
  refine r_aload_n (pc := 32) dX10_carryOut_32 rfl rfl ?_
  refine r_aload_n (pc := 33) dX10_carryOut_33 rfl rfl ?_
  refine r_iload_n (pc := 34) dX10_carryOut_34 rfl rfl ?_
  refine r_iload_n (pc := 35) dX10_carryOut_35 rfl rfl ?_
  refine q_callV (ci := 8) (T := TX10) (N := 6) (vs := [.ref _, .int _, .int _]) (pc := 36) dX10_carryOut_36 rfl l_RX10_384 rfl ⟨by decide, by decide⟩ rfl (Nat.le_of_ble_eq_true rfl) hl ((sH_out (Or.inl (by decide))).trans hg) rfl (Nat.le_of_ble_eq_true rfl) (s_may_7 hl hg hc _ _) sH_22 ?_
  refine q_istore [_, _, _, _, _] (pc := 39) dX10_carryOut_39 (by decide) rfl ?_
  refine r_iload (pc := 41) dX10_carryOut_41 rfl ?_
  refine r_if_eq 247 (pc := 43) dX10_carryOut_43 (by decide) (fun c43 => ?_) (fun c43 => absurd (c_eqt h rfl (a := 0) (b := 0) (by omega) (by omega) (by omega)) c43)
  refine r_iload (pc := 247) dX10_carryOut_247 rfl ?_
  exact r_ireturn (S := []) (pc := 249) dX10_carryOut_249 rfl (nar_b (Or.inl h)) ⟨by rw [h], rfl⟩
theorem s_co_7_yes {om : OM} {l : Launch} {B : Nat × Nat} {R : Hp} {C : Nat → Int32} {W : Nat → Int64} {ns cnt : Int32} (hl : l.stackTraces = false) (hg : R.1 0 = .inr (8, gf ns cnt)) {ln po : Int32} {t nu : Nat → Int32} (hc : HC R ln po (.ref 100017) t nu) (h : R_in (nu 0) 1 50 = 1) (A : Nat → Int32) (s : Nat) (hd : nu 0 = nI s) (hs : s ≤ 50) (hA : AG C W A) (hw : WF A) (hx : WX A) : Runs om l M_X10_carryOut B 0 (entL 5 [.ref 0]) [] (sH R 1 C W) (Det (some (.int 1)) (sH R 1 ((K_learns C W s).1) ((K_learns C W s).2))) := by
  show Runs om l M_X10_carryOut B 0 [some (.ref 0), none, none, none, none] [] _ _
  refine r_aload_n (pc := 0) dX10_carryOut_0 rfl rfl ?_
  refine r_getfield (pc := 1) dX10_carryOut_1 rfl f_RX10_33 ((sH_out (Or.inl (by decide))).trans hg) rfl ?_
  refine r_getfield (pc := 4) dX10_carryOut_4 rfl f_RX10_377 (HC_sH hc).1 rfl ?_
  refine q_astore_n [_, _, _, _, _] (pc := 7) dX10_carryOut_7 rfl (by decide) rfl ?_
  refine r_aload_n (pc := 8) dX10_carryOut_8 rfl rfl ?_
  refine r_ifnonnull 14 (pc := 9) dX10_carryOut_9 (by decide) ?_
  refine r_aload_n (pc := 14) dX10_carryOut_14 rfl rfl ?_
  refine r_getfield (pc := 15) dX10_carryOut_15 rfl f_RX10_33 ((sH_out (Or.inl (by decide))).trans hg) rfl ?_
  refine r_iconst (v := 0) (pc := 18) dX10_carryOut_18 (by decide) ?_
  refine q_callV (ci := 0) (T := TX1) (N := 5) (vs := [.int _]) (pc := 19) dX10_carryOut_19 rfl l_RX10_381 rfl ⟨by decide, by decide⟩ rfl (Nat.le_of_ble_eq_true rfl) hl (HC_sH hc).1 rfl (Nat.le_of_ble_eq_true rfl) (g_number hc 0 _ rfl (by decide)) sH_22 ?_
  refine q_istore_n [_, _, _, _, _] (pc := 22) dX10_carryOut_22 rfl (by decide) rfl ?_
  refine r_aload_n (pc := 23) dX10_carryOut_23 rfl rfl ?_
  refine r_getfield (pc := 24) dX10_carryOut_24 rfl f_RX10_33 ((sH_out (Or.inl (by decide))).trans hg) rfl ?_
  refine r_iconst (v := 1) (pc := 27) dX10_carryOut_27 (by decide) ?_
  refine q_callV (ci := 0) (T := TX1) (N := 5) (vs := [.int _]) (pc := 28) dX10_carryOut_28 rfl l_RX10_381 rfl ⟨by decide, by decide⟩ rfl (Nat.le_of_ble_eq_true rfl) hl (HC_sH hc).1 rfl (Nat.le_of_ble_eq_true rfl) (g_number hc 1 _ rfl (by decide)) sH_22 ?_
  refine q_istore_n [_, _, _, _, _] (pc := 31) dX10_carryOut_31 rfl (by decide) rfl ?_
  refine r_aload_n (pc := 32) dX10_carryOut_32 rfl rfl ?_
  refine r_aload_n (pc := 33) dX10_carryOut_33 rfl rfl ?_
  refine r_iload_n (pc := 34) dX10_carryOut_34 rfl rfl ?_
  refine r_iload_n (pc := 35) dX10_carryOut_35 rfl rfl ?_
  refine q_callV (ci := 8) (T := TX10) (N := 6) (vs := [.ref _, .int _, .int _]) (pc := 36) dX10_carryOut_36 rfl l_RX10_384 rfl ⟨by decide, by decide⟩ rfl (Nat.le_of_ble_eq_true rfl) hl ((sH_out (Or.inl (by decide))).trans hg) rfl (Nat.le_of_ble_eq_true rfl) (s_may_7 hl hg hc _ _) sH_22 ?_
  refine q_istore [_, _, _, _, _] (pc := 39) dX10_carryOut_39 (by decide) rfl ?_
  refine r_iload (pc := 41) dX10_carryOut_41 rfl ?_
  refine r_if_eq 247 (pc := 43) dX10_carryOut_43 (by decide) (fun c43 => absurd c43 (c_eqf h rfl (a := 1) (b := 0) (by omega) (by omega) (by omega))) (fun c43 => ?_)
  refine r_getstatic (pc := 46) dX10_carryOut_46 rfl sw_z g_RX10_388 ?_
  refine r_aload_n (pc := 49) dX10_carryOut_49 rfl rfl ?_
  refine r_ordinal (i := 7) (pc := 50) dX10_carryOut_50 l_RX10_394 (by decide) (by decide) (by decide) (Nat.le_of_ble_eq_true rfl) ?_
  refine r_taload (n := 9) (pc := 53) dX10_carryOut_53 sw_a (vin_n (k := 7) rfl (by decide) (by decide)) ?_
  rw [cl_n (k := 7) (n := 9) rfl (show 7 < 9 by decide) (by decide)]
  refine r_tableIn 223 (pc := 54) dX10_carryOut_54 (by decide) (by decide) rfl (by decide) ?_
  refine r_aload_n (pc := 223) dX10_carryOut_223 rfl rfl ?_
  refine r_getfield (pc := 224) dX10_carryOut_224 rfl f_RX10_12 ((sH_out (Or.inl (by decide))).trans hg) rfl ?_
  refine r_iload_n (pc := 227) dX10_carryOut_227 rfl rfl ?_
  refine q_callV (ci := 6) (T := TX7) (N := 7) (vs := [.int _]) (pc := 228) dX10_carryOut_228 rfl l_RX10_186 rfl ⟨by decide, by decide⟩ rfl (Nat.le_of_ble_eq_true rfl) hl sH_0 rfl (Nat.le_of_ble_eq_true rfl) (s_X7_learnFalseEchoes hl A _ s hd hs hA hw hx) sH_22 ?_
  refine r_goto 247 (pc := 231) dX10_carryOut_231 (by decide) ?_
  refine r_iload (pc := 247) dX10_carryOut_247 rfl ?_
  exact r_ireturn (S := []) (pc := 249) dX10_carryOut_249 rfl (nar_b (Or.inr h)) ⟨by rw [h], rfl⟩
theorem s_co_8_no {om : OM} {l : Launch} {B : Nat × Nat} {R : Hp} {C : Nat → Int32} {W : Nat → Int64} {ns cnt : Int32} (hl : l.stackTraces = false) (hg : R.1 0 = .inr (8, gf ns cnt)) {ln po : Int32} {t nu : Nat → Int32} (hc : HC R ln po (.ref 100018) t nu) (h : R_in (nu 0) 1 500 = 0) : Runs om l M_X10_carryOut B 0 (entL 5 [.ref 0]) [] (sH R 1 C W) (Det (some (.int 0)) (sH R 1 C W)) := by
  show Runs om l M_X10_carryOut B 0 [some (.ref 0), none, none, none, none] [] _ _
  refine r_aload_n (pc := 0) dX10_carryOut_0 rfl rfl ?_
  refine r_getfield (pc := 1) dX10_carryOut_1 rfl f_RX10_33 ((sH_out (Or.inl (by decide))).trans hg) rfl ?_
  refine r_getfield (pc := 4) dX10_carryOut_4 rfl f_RX10_377 (HC_sH hc).1 rfl ?_
  refine q_astore_n [_, _, _, _, _] (pc := 7) dX10_carryOut_7 rfl (by decide) rfl ?_
  refine r_aload_n (pc := 8) dX10_carryOut_8 rfl rfl ?_
  refine r_ifnonnull 14 (pc := 9) dX10_carryOut_9 (by decide) ?_
  refine r_aload_n (pc := 14) dX10_carryOut_14 rfl rfl ?_
  refine r_getfield (pc := 15) dX10_carryOut_15 rfl f_RX10_33 ((sH_out (Or.inl (by decide))).trans hg) rfl ?_
  refine r_iconst (v := 0) (pc := 18) dX10_carryOut_18 (by decide) ?_
  refine q_callV (ci := 0) (T := TX1) (N := 5) (vs := [.int _]) (pc := 19) dX10_carryOut_19 rfl l_RX10_381 rfl ⟨by decide, by decide⟩ rfl (Nat.le_of_ble_eq_true rfl) hl (HC_sH hc).1 rfl (Nat.le_of_ble_eq_true rfl) (g_number hc 0 _ rfl (by decide)) sH_22 ?_
  refine q_istore_n [_, _, _, _, _] (pc := 22) dX10_carryOut_22 rfl (by decide) rfl ?_
  refine r_aload_n (pc := 23) dX10_carryOut_23 rfl rfl ?_
  refine r_getfield (pc := 24) dX10_carryOut_24 rfl f_RX10_33 ((sH_out (Or.inl (by decide))).trans hg) rfl ?_
  refine r_iconst (v := 1) (pc := 27) dX10_carryOut_27 (by decide) ?_
  refine q_callV (ci := 0) (T := TX1) (N := 5) (vs := [.int _]) (pc := 28) dX10_carryOut_28 rfl l_RX10_381 rfl ⟨by decide, by decide⟩ rfl (Nat.le_of_ble_eq_true rfl) hl (HC_sH hc).1 rfl (Nat.le_of_ble_eq_true rfl) (g_number hc 1 _ rfl (by decide)) sH_22 ?_
  refine q_istore_n [_, _, _, _, _] (pc := 31) dX10_carryOut_31 rfl (by decide) rfl ?_
  refine r_aload_n (pc := 32) dX10_carryOut_32 rfl rfl ?_
  refine r_aload_n (pc := 33) dX10_carryOut_33 rfl rfl ?_
  refine r_iload_n (pc := 34) dX10_carryOut_34 rfl rfl ?_
  refine r_iload_n (pc := 35) dX10_carryOut_35 rfl rfl ?_
  refine q_callV (ci := 8) (T := TX10) (N := 6) (vs := [.ref _, .int _, .int _]) (pc := 36) dX10_carryOut_36 rfl l_RX10_384 rfl ⟨by decide, by decide⟩ rfl (Nat.le_of_ble_eq_true rfl) hl ((sH_out (Or.inl (by decide))).trans hg) rfl (Nat.le_of_ble_eq_true rfl) (s_may_8 hl hg hc _ _) sH_22 ?_
  refine q_istore [_, _, _, _, _] (pc := 39) dX10_carryOut_39 (by decide) rfl ?_
  refine r_iload (pc := 41) dX10_carryOut_41 rfl ?_
  refine r_if_eq 247 (pc := 43) dX10_carryOut_43 (by decide) (fun c43 => ?_) (fun c43 => absurd (c_eqt h rfl (a := 0) (b := 0) (by omega) (by omega) (by omega)) c43)
  refine r_iload (pc := 247) dX10_carryOut_247 rfl ?_
  exact r_ireturn (S := []) (pc := 249) dX10_carryOut_249 rfl (nar_b (Or.inl h)) ⟨by rw [h], rfl⟩
theorem s_co_8_yes {om : OM} {l : Launch} {B : Nat × Nat} {R : Hp} {C : Nat → Int32} {W : Nat → Int64} {ns cnt : Int32} (hl : l.stackTraces = false) (hg : R.1 0 = .inr (8, gf ns cnt)) {ln po : Int32} {t nu : Nat → Int32} (hc : HC R ln po (.ref 100018) t nu) (h : R_in (nu 0) 1 500 = 1) (A : Nat → Int32) (s : Nat) (hd : nu 0 = nI s) (hs : s ≤ 500) (hA : AG C W A) (hw : WF A) (hx : WX A) : Runs om l M_X10_carryOut B 0 (entL 5 [.ref 0]) [] (sH R 1 C W) (Det (some (.int 1)) (sH R 1 (K_shots W C s) W)) := by
  show Runs om l M_X10_carryOut B 0 [some (.ref 0), none, none, none, none] [] _ _
  refine r_aload_n (pc := 0) dX10_carryOut_0 rfl rfl ?_
  refine r_getfield (pc := 1) dX10_carryOut_1 rfl f_RX10_33 ((sH_out (Or.inl (by decide))).trans hg) rfl ?_
  refine r_getfield (pc := 4) dX10_carryOut_4 rfl f_RX10_377 (HC_sH hc).1 rfl ?_
  refine q_astore_n [_, _, _, _, _] (pc := 7) dX10_carryOut_7 rfl (by decide) rfl ?_
  refine r_aload_n (pc := 8) dX10_carryOut_8 rfl rfl ?_
  refine r_ifnonnull 14 (pc := 9) dX10_carryOut_9 (by decide) ?_
  refine r_aload_n (pc := 14) dX10_carryOut_14 rfl rfl ?_
  refine r_getfield (pc := 15) dX10_carryOut_15 rfl f_RX10_33 ((sH_out (Or.inl (by decide))).trans hg) rfl ?_
  refine r_iconst (v := 0) (pc := 18) dX10_carryOut_18 (by decide) ?_
  refine q_callV (ci := 0) (T := TX1) (N := 5) (vs := [.int _]) (pc := 19) dX10_carryOut_19 rfl l_RX10_381 rfl ⟨by decide, by decide⟩ rfl (Nat.le_of_ble_eq_true rfl) hl (HC_sH hc).1 rfl (Nat.le_of_ble_eq_true rfl) (g_number hc 0 _ rfl (by decide)) sH_22 ?_
  refine q_istore_n [_, _, _, _, _] (pc := 22) dX10_carryOut_22 rfl (by decide) rfl ?_
  refine r_aload_n (pc := 23) dX10_carryOut_23 rfl rfl ?_
  refine r_getfield (pc := 24) dX10_carryOut_24 rfl f_RX10_33 ((sH_out (Or.inl (by decide))).trans hg) rfl ?_
  refine r_iconst (v := 1) (pc := 27) dX10_carryOut_27 (by decide) ?_
  refine q_callV (ci := 0) (T := TX1) (N := 5) (vs := [.int _]) (pc := 28) dX10_carryOut_28 rfl l_RX10_381 rfl ⟨by decide, by decide⟩ rfl (Nat.le_of_ble_eq_true rfl) hl (HC_sH hc).1 rfl (Nat.le_of_ble_eq_true rfl) (g_number hc 1 _ rfl (by decide)) sH_22 ?_
  refine q_istore_n [_, _, _, _, _] (pc := 31) dX10_carryOut_31 rfl (by decide) rfl ?_
  refine r_aload_n (pc := 32) dX10_carryOut_32 rfl rfl ?_
  refine r_aload_n (pc := 33) dX10_carryOut_33 rfl rfl ?_
  refine r_iload_n (pc := 34) dX10_carryOut_34 rfl rfl ?_
  refine r_iload_n (pc := 35) dX10_carryOut_35 rfl rfl ?_
  refine q_callV (ci := 8) (T := TX10) (N := 6) (vs := [.ref _, .int _, .int _]) (pc := 36) dX10_carryOut_36 rfl l_RX10_384 rfl ⟨by decide, by decide⟩ rfl (Nat.le_of_ble_eq_true rfl) hl ((sH_out (Or.inl (by decide))).trans hg) rfl (Nat.le_of_ble_eq_true rfl) (s_may_8 hl hg hc _ _) sH_22 ?_
  refine q_istore [_, _, _, _, _] (pc := 39) dX10_carryOut_39 (by decide) rfl ?_
  refine r_iload (pc := 41) dX10_carryOut_41 rfl ?_
  refine r_if_eq 247 (pc := 43) dX10_carryOut_43 (by decide) (fun c43 => absurd c43 (c_eqf h rfl (a := 1) (b := 0) (by omega) (by omega) (by omega))) (fun c43 => ?_)
  refine r_getstatic (pc := 46) dX10_carryOut_46 rfl sw_z g_RX10_388 ?_
  refine r_aload_n (pc := 49) dX10_carryOut_49 rfl rfl ?_
  refine r_ordinal (i := 8) (pc := 50) dX10_carryOut_50 l_RX10_394 (by decide) (by decide) (by decide) (Nat.le_of_ble_eq_true rfl) ?_
  refine r_taload (n := 9) (pc := 53) dX10_carryOut_53 sw_a (vin_n (k := 8) rfl (by decide) (by decide)) ?_
  rw [cl_n (k := 8) (n := 9) rfl (show 8 < 9 by decide) (by decide)]
  refine r_tableIn 234 (pc := 54) dX10_carryOut_54 (by decide) (by decide) rfl (by decide) ?_
  refine r_aload_n (pc := 234) dX10_carryOut_234 rfl rfl ?_
  refine r_getfield (pc := 235) dX10_carryOut_235 rfl f_RX10_12 ((sH_out (Or.inl (by decide))).trans hg) rfl ?_
  refine r_iload_n (pc := 238) dX10_carryOut_238 rfl rfl ?_
  refine q_callV (ci := 6) (T := TX7) (N := 7) (vs := [.int _]) (pc := 239) dX10_carryOut_239 rfl l_RX10_201 rfl ⟨by decide, by decide⟩ rfl (Nat.le_of_ble_eq_true rfl) hl sH_0 rfl (Nat.le_of_ble_eq_true rfl) (s_X7_takeShots hl A _ s hd hs hA hw hx) sH_22 ?_
  refine r_goto 247 (pc := 242) dX10_carryOut_242 (by decide) ?_
  refine r_iload (pc := 247) dX10_carryOut_247 rfl ?_
  exact r_ireturn (S := []) (pc := 249) dX10_carryOut_249 rfl (nar_b (Or.inr h)) ⟨by rw [h], rfl⟩
