/-! the class: a command carried out -/
def HC (R : Hp) (ln po : Int32) (wd : Value) (t nu : Nat → Int32) : Prop := R.1 40 = .inr (0, ctf ln po wd) ∧ R.1 41 = .inl (1, 150, .inl t) ∧ R.1 42 = .inl (0, 5, .inl nu)
theorem cH_self {H : Hp} {ln po : Int32} {wd : Value} {t nu : Nat → Int32} (h : HC H ln po wd t nu) : cH H ln po wd t nu = H := by
  refine hp_ext (fun j => ?_) rfl
  show (if j = 40 then _ else if j = 41 then _ else if j = 42 then _ else H.1 j) = H.1 j
  by_cases h1 : j = 40
  · subst h1; rw [if_pos rfl]; exact h.1.symm
  · rw [if_neg h1]
    by_cases h2 : j = 41
    · subst h2; rw [if_pos rfl]; exact h.2.1.symm
    · rw [if_neg h2]
      by_cases h3 : j = 42
      · subst h3; rw [if_pos rfl]; exact h.2.2.symm
      · rw [if_neg h3]
theorem HC_sH {R : Hp} {C : Nat → Int32} {W : Nat → Int64} {ln po : Int32} {wd : Value} {t nu : Nat → Int32} (h : HC R ln po wd t nu) : HC (sH R 1 C W) ln po wd t nu := ⟨(sH_out (Or.inr (by decide))).trans h.1, (sH_out (Or.inr (by decide))).trans h.2.1, (sH_out (Or.inr (by decide))).trans h.2.2⟩
theorem g_number {om : OM} {l : Launch} {B : Nat × Nat} {R : Hp} {C : Nat → Int32} {W : Nat → Int64} {ln po : Int32} {wd : Value} {t nu : Nat → Int32} (hc : HC R ln po wd t nu) (k : Nat) (x : Int32) (hx : x = nI k) (hk : k < 5) : Runs om l M_X1_number B 0 (entL 2 [.ref 40, .int x]) [] (sH R 1 C W) (Det (some (.int (nu k))) (sH R 1 C W)) := by
  rw [← cH_self (HC_sH (C := C) (W := W) hc)]
  exact s_X1_number k x hx hk
theorem sw_z : ("EchoGauge$1", "$SwitchMap$EchoGauge$Word", "[I", Value.ref 100004) ∈ sz_l := .tail _ (.tail _ (.tail _ (.head _)))
theorem sw_a {om : OM} : (FieldType.int, 100004, 9, fun j => Value.int (nI (j + 1))) ∈ sa_l om := .tail _ (.tail _ (.tail _ (.tail _ (.head _))))
theorem stir01 (p u x sp be : Int32) : R_cStir p u x sp be = 0 ∨ R_cStir p u x sp be = 1 := by
  unfold R_cStir
  repeat' split
  all_goals first | exact Or.inl rfl | exact Or.inr rfl | exact in01 _ _ _
theorem set01 (A : Nat → Int32) (x d : Int32) : R_cSet A x d = 0 ∨ R_cSet A x d = 1 := by
  unfold R_cSet
  repeat' split
  all_goals first | exact Or.inl rfl | exact Or.inr rfl | exact in01 _ _ _ | exact cs2_01 _ _ _
def K_mayT (C : Nat → Int32) (a b : Int32) : Int32 := if R_cThing a b = 0 then 0 else if K_lt (C 4) 6 = 0 then 0 else 1
def K_may (C nu : Nat → Int32) (i : Nat) (a b : Int32) : Int32 := if i = 0 then R_in a 500 10000 else if i = 1 then R_in a 0 (C 0) else if i = 2 then R_in a (-200) 200 else if i = 3 then R_in a 0 500 else if i = 4 then K_mayT C a b else if i = 5 then R_cStir a b (nu 2) (nu 3) (nu 4) else if i = 6 then R_cSet C a b else if i = 7 then R_in a 1 50 else R_in a 1 500
theorem s_may_0 {om : OM} {l : Launch} {B : Nat × Nat} {R : Hp} {C : Nat → Int32} {W : Nat → Int64} {ns cnt : Int32} (hl : l.stackTraces = false) (hg : R.1 0 = .inr (8, gf ns cnt)) {ln po : Int32} {wd : Value} {t nu : Nat → Int32} (hc : HC R ln po wd t nu) (a b : Int32) : Runs om l M_X10_mayCarryOut B 0 (entL 4 [.ref 0, .ref 100010, .int a, .int b]) [] (sH R 1 C W) (Det (some (.int (R_in a 500 10000))) (sH R 1 C W)) := by
  show Runs om l M_X10_mayCarryOut B 0 [some (.ref 0), some (.ref 100010), some (.int a), some (.int b)] [] _ _
  refine r_aload_n (pc := 0) dX10_mayCarryOut_0 rfl rfl ?_
  refine r_ifnonnull 6 (pc := 1) dX10_mayCarryOut_1 (by decide) ?_
  refine r_getstatic (pc := 6) dX10_mayCarryOut_6 rfl sw_z g_RX10_388 ?_
  refine r_aload_n (pc := 9) dX10_mayCarryOut_9 rfl rfl ?_
  refine r_ordinal (i := 0) (pc := 10) dX10_mayCarryOut_10 l_RX10_394 (by decide) (by decide) (by decide) (Nat.le_of_ble_eq_true rfl) ?_
  refine r_taload (n := 9) (pc := 13) dX10_mayCarryOut_13 sw_a (vin_n (k := 0) rfl (by decide) (by decide)) ?_
  rw [cl_n (k := 0) (n := 9) rfl (show 0 < 9 by decide) (by decide)]
  refine r_tableIn 64 (pc := 14) dX10_mayCarryOut_14 (by decide) (by decide) rfl (by decide) ?_
  refine r_iload_n (pc := 64) dX10_mayCarryOut_64 rfl rfl ?_
  refine q_callS (vs := [.int _]) (pc := 65) dX10_mayCarryOut_65 rfl l_RX10_37 rfl ⟨by decide, by decide⟩ rfl (Nat.le_of_ble_eq_true rfl) hl (Nat.le_of_ble_eq_true rfl) (s_X8_allowsDepth _) sH_22 ?_
  exact r_ireturn (S := []) (pc := 68) dX10_mayCarryOut_68 rfl (nar_b (in01 _ _ _)) ⟨rfl, rfl⟩
theorem s_may_1 {om : OM} {l : Launch} {B : Nat × Nat} {R : Hp} {C : Nat → Int32} {W : Nat → Int64} {ns cnt : Int32} (hl : l.stackTraces = false) (hg : R.1 0 = .inr (8, gf ns cnt)) {ln po : Int32} {wd : Value} {t nu : Nat → Int32} (hc : HC R ln po wd t nu) (a b : Int32) : Runs om l M_X10_mayCarryOut B 0 (entL 4 [.ref 0, .ref 100011, .int a, .int b]) [] (sH R 1 C W) (Det (some (.int (R_in a 0 (C 0)))) (sH R 1 C W)) := by
  show Runs om l M_X10_mayCarryOut B 0 [some (.ref 0), some (.ref 100011), some (.int a), some (.int b)] [] _ _
  refine r_aload_n (pc := 0) dX10_mayCarryOut_0 rfl rfl ?_
  refine r_ifnonnull 6 (pc := 1) dX10_mayCarryOut_1 (by decide) ?_
  refine r_getstatic (pc := 6) dX10_mayCarryOut_6 rfl sw_z g_RX10_388 ?_
  refine r_aload_n (pc := 9) dX10_mayCarryOut_9 rfl rfl ?_
  refine r_ordinal (i := 1) (pc := 10) dX10_mayCarryOut_10 l_RX10_394 (by decide) (by decide) (by decide) (Nat.le_of_ble_eq_true rfl) ?_
  refine r_taload (n := 9) (pc := 13) dX10_mayCarryOut_13 sw_a (vin_n (k := 1) rfl (by decide) (by decide)) ?_
  rw [cl_n (k := 1) (n := 9) rfl (show 1 < 9 by decide) (by decide)]
  refine r_tableIn 69 (pc := 14) dX10_mayCarryOut_14 (by decide) (by decide) rfl (by decide) ?_
  refine r_aload_n (pc := 69) dX10_mayCarryOut_69 rfl rfl ?_
  refine r_getfield (pc := 70) dX10_mayCarryOut_70 rfl f_RX10_12 ((sH_out (Or.inl (by decide))).trans hg) rfl ?_
  refine cs_get0 (pc := 73) dX10_mayCarryOut_73 rfl f_RX10_66 rfl ?_
  refine r_iload_n (pc := 76) dX10_mayCarryOut_76 rfl rfl ?_
  refine q_callV (ci := 7) (T := TX8) (N := 14) (vs := [.int _]) (pc := 77) dX10_mayCarryOut_77 rfl l_RX10_70 rfl ⟨by decide, by decide⟩ rfl (Nat.le_of_ble_eq_true rfl) hl (sH_at (i := 1) (by decide)) rfl (Nat.le_of_ble_eq_true rfl) (s_X8_allowsLevel _) sH_22 ?_
  exact r_ireturn (S := []) (pc := 80) dX10_mayCarryOut_80 rfl (nar_b (in01 _ _ _)) ⟨rfl, rfl⟩
theorem s_may_2 {om : OM} {l : Launch} {B : Nat × Nat} {R : Hp} {C : Nat → Int32} {W : Nat → Int64} {ns cnt : Int32} (hl : l.stackTraces = false) (hg : R.1 0 = .inr (8, gf ns cnt)) {ln po : Int32} {wd : Value} {t nu : Nat → Int32} (hc : HC R ln po wd t nu) (a b : Int32) : Runs om l M_X10_mayCarryOut B 0 (entL 4 [.ref 0, .ref 100012, .int a, .int b]) [] (sH R 1 C W) (Det (some (.int (R_in a (-200) 200))) (sH R 1 C W)) := by
  show Runs om l M_X10_mayCarryOut B 0 [some (.ref 0), some (.ref 100012), some (.int a), some (.int b)] [] _ _
  refine r_aload_n (pc := 0) dX10_mayCarryOut_0 rfl rfl ?_
  refine r_ifnonnull 6 (pc := 1) dX10_mayCarryOut_1 (by decide) ?_
  refine r_getstatic (pc := 6) dX10_mayCarryOut_6 rfl sw_z g_RX10_388 ?_
  refine r_aload_n (pc := 9) dX10_mayCarryOut_9 rfl rfl ?_
  refine r_ordinal (i := 2) (pc := 10) dX10_mayCarryOut_10 l_RX10_394 (by decide) (by decide) (by decide) (Nat.le_of_ble_eq_true rfl) ?_
  refine r_taload (n := 9) (pc := 13) dX10_mayCarryOut_13 sw_a (vin_n (k := 2) rfl (by decide) (by decide)) ?_
  rw [cl_n (k := 2) (n := 9) rfl (show 2 < 9 by decide) (by decide)]
  refine r_tableIn 81 (pc := 14) dX10_mayCarryOut_14 (by decide) (by decide) rfl (by decide) ?_
  refine r_iload_n (pc := 81) dX10_mayCarryOut_81 rfl rfl ?_
  refine q_callS (vs := [.int _]) (pc := 82) dX10_mayCarryOut_82 rfl l_RX10_78 rfl ⟨by decide, by decide⟩ rfl (Nat.le_of_ble_eq_true rfl) hl (Nat.le_of_ble_eq_true rfl) (s_X8_allowsFlow _) sH_22 ?_
  exact r_ireturn (S := []) (pc := 85) dX10_mayCarryOut_85 rfl (nar_b (in01 _ _ _)) ⟨rfl, rfl⟩
theorem s_may_3 {om : OM} {l : Launch} {B : Nat × Nat} {R : Hp} {C : Nat → Int32} {W : Nat → Int64} {ns cnt : Int32} (hl : l.stackTraces = false) (hg : R.1 0 = .inr (8, gf ns cnt)) {ln po : Int32} {wd : Value} {t nu : Nat → Int32} (hc : HC R ln po wd t nu) (a b : Int32) : Runs om l M_X10_mayCarryOut B 0 (entL 4 [.ref 0, .ref 100013, .int a, .int b]) [] (sH R 1 C W) (Det (some (.int (R_in a 0 500))) (sH R 1 C W)) := by
  show Runs om l M_X10_mayCarryOut B 0 [some (.ref 0), some (.ref 100013), some (.int a), some (.int b)] [] _ _
  refine r_aload_n (pc := 0) dX10_mayCarryOut_0 rfl rfl ?_
  refine r_ifnonnull 6 (pc := 1) dX10_mayCarryOut_1 (by decide) ?_
  refine r_getstatic (pc := 6) dX10_mayCarryOut_6 rfl sw_z g_RX10_388 ?_
  refine r_aload_n (pc := 9) dX10_mayCarryOut_9 rfl rfl ?_
  refine r_ordinal (i := 3) (pc := 10) dX10_mayCarryOut_10 l_RX10_394 (by decide) (by decide) (by decide) (Nat.le_of_ble_eq_true rfl) ?_
  refine r_taload (n := 9) (pc := 13) dX10_mayCarryOut_13 sw_a (vin_n (k := 3) rfl (by decide) (by decide)) ?_
  rw [cl_n (k := 3) (n := 9) rfl (show 3 < 9 by decide) (by decide)]
  refine r_tableIn 86 (pc := 14) dX10_mayCarryOut_14 (by decide) (by decide) rfl (by decide) ?_
  refine r_iload_n (pc := 86) dX10_mayCarryOut_86 rfl rfl ?_
  refine q_callS (vs := [.int _]) (pc := 87) dX10_mayCarryOut_87 rfl l_RX10_86 rfl ⟨by decide, by decide⟩ rfl (Nat.le_of_ble_eq_true rfl) hl (Nat.le_of_ble_eq_true rfl) (s_X8_allowsFoam _) sH_22 ?_
  exact r_ireturn (S := []) (pc := 90) dX10_mayCarryOut_90 rfl (nar_b (in01 _ _ _)) ⟨rfl, rfl⟩
theorem s_may_4a {om : OM} {l : Launch} {B : Nat × Nat} {R : Hp} {C : Nat → Int32} {W : Nat → Int64} {ns cnt : Int32} (hl : l.stackTraces = false) (hg : R.1 0 = .inr (8, gf ns cnt)) {ln po : Int32} {wd : Value} {t nu : Nat → Int32} (hc : HC R ln po wd t nu) (a b : Int32) (h : R_cThing a b = 0) : Runs om l M_X10_mayCarryOut B 0 (entL 4 [.ref 0, .ref 100014, .int a, .int b]) [] (sH R 1 C W) (Det (some (.int (0))) (sH R 1 C W)) := by
  show Runs om l M_X10_mayCarryOut B 0 [some (.ref 0), some (.ref 100014), some (.int a), some (.int b)] [] _ _
  refine r_aload_n (pc := 0) dX10_mayCarryOut_0 rfl rfl ?_
  refine r_ifnonnull 6 (pc := 1) dX10_mayCarryOut_1 (by decide) ?_
  refine r_getstatic (pc := 6) dX10_mayCarryOut_6 rfl sw_z g_RX10_388 ?_
  refine r_aload_n (pc := 9) dX10_mayCarryOut_9 rfl rfl ?_
  refine r_ordinal (i := 4) (pc := 10) dX10_mayCarryOut_10 l_RX10_394 (by decide) (by decide) (by decide) (Nat.le_of_ble_eq_true rfl) ?_
  refine r_taload (n := 9) (pc := 13) dX10_mayCarryOut_13 sw_a (vin_n (k := 4) rfl (by decide) (by decide)) ?_
  rw [cl_n (k := 4) (n := 9) rfl (show 4 < 9 by decide) (by decide)]
  refine r_tableIn 91 (pc := 14) dX10_mayCarryOut_14 (by decide) (by decide) rfl (by decide) ?_
  refine r_iload_n (pc := 91) dX10_mayCarryOut_91 rfl rfl ?_
  refine r_iload_n (pc := 92) dX10_mayCarryOut_92 rfl rfl ?_
  refine q_callS (vs := [.int _, .int _]) (pc := 93) dX10_mayCarryOut_93 rfl l_RX10_94 rfl ⟨by decide, by decide⟩ rfl (Nat.le_of_ble_eq_true rfl) hl (Nat.le_of_ble_eq_true rfl) (s_X8_allowsThing hl _ _) sH_22 ?_
  refine r_if_eq 116 (pc := 96) dX10_mayCarryOut_96 (by decide) (fun c96 => ?_) (fun c96 => absurd (c_eqt h rfl (a := 0) (b := 0) (by omega) (by omega) (by omega)) c96)
  refine r_iconst (v := 0) (pc := 116) dX10_mayCarryOut_116 (by decide) ?_
  exact r_ireturn (S := []) (pc := 117) dX10_mayCarryOut_117 rfl rfl ⟨rfl, rfl⟩
theorem s_may_4b {om : OM} {l : Launch} {B : Nat × Nat} {R : Hp} {C : Nat → Int32} {W : Nat → Int64} {ns cnt : Int32} (hl : l.stackTraces = false) (hg : R.1 0 = .inr (8, gf ns cnt)) {ln po : Int32} {wd : Value} {t nu : Nat → Int32} (hc : HC R ln po wd t nu) (a b : Int32) (h : R_cThing a b = 1) (h2 : K_lt (C 4) 6 = 0) : Runs om l M_X10_mayCarryOut B 0 (entL 4 [.ref 0, .ref 100014, .int a, .int b]) [] (sH R 1 C W) (Det (some (.int (0))) (sH R 1 C W)) := by
  show Runs om l M_X10_mayCarryOut B 0 [some (.ref 0), some (.ref 100014), some (.int a), some (.int b)] [] _ _
  refine r_aload_n (pc := 0) dX10_mayCarryOut_0 rfl rfl ?_
  refine r_ifnonnull 6 (pc := 1) dX10_mayCarryOut_1 (by decide) ?_
  refine r_getstatic (pc := 6) dX10_mayCarryOut_6 rfl sw_z g_RX10_388 ?_
  refine r_aload_n (pc := 9) dX10_mayCarryOut_9 rfl rfl ?_
  refine r_ordinal (i := 4) (pc := 10) dX10_mayCarryOut_10 l_RX10_394 (by decide) (by decide) (by decide) (Nat.le_of_ble_eq_true rfl) ?_
  refine r_taload (n := 9) (pc := 13) dX10_mayCarryOut_13 sw_a (vin_n (k := 4) rfl (by decide) (by decide)) ?_
  rw [cl_n (k := 4) (n := 9) rfl (show 4 < 9 by decide) (by decide)]
  refine r_tableIn 91 (pc := 14) dX10_mayCarryOut_14 (by decide) (by decide) rfl (by decide) ?_
  refine r_iload_n (pc := 91) dX10_mayCarryOut_91 rfl rfl ?_
  refine r_iload_n (pc := 92) dX10_mayCarryOut_92 rfl rfl ?_
  refine q_callS (vs := [.int _, .int _]) (pc := 93) dX10_mayCarryOut_93 rfl l_RX10_94 rfl ⟨by decide, by decide⟩ rfl (Nat.le_of_ble_eq_true rfl) hl (Nat.le_of_ble_eq_true rfl) (s_X8_allowsThing hl _ _) sH_22 ?_
  refine r_if_eq 116 (pc := 96) dX10_mayCarryOut_96 (by decide) (fun c96 => absurd c96 (c_eqf h rfl (a := 1) (b := 0) (by omega) (by omega) (by omega))) (fun c96 => ?_)
  refine r_aload_n (pc := 99) dX10_mayCarryOut_99 rfl rfl ?_
  refine r_getfield (pc := 100) dX10_mayCarryOut_100 rfl f_RX10_12 ((sH_out (Or.inl (by decide))).trans hg) rfl ?_
  refine cs_get0 (pc := 103) dX10_mayCarryOut_103 rfl f_RX10_66 rfl ?_
  refine q_callV (ci := 7) (T := TX8) (N := 14) (vs := []) (pc := 106) dX10_mayCarryOut_106 rfl l_RX10_100 rfl ⟨by decide, by decide⟩ rfl (Nat.le_of_ble_eq_true rfl) hl (sH_at (i := 1) (by decide)) rfl (Nat.le_of_ble_eq_true rfl) (s_X8_hasPlaceForThing) sH_22 ?_
  refine r_if_eq 116 (pc := 109) dX10_mayCarryOut_109 (by decide) (fun c109 => ?_) (fun c109 => absurd (c_eqt h2 rfl (a := 0) (b := 0) (by omega) (by omega) (by omega)) c109)
  refine r_iconst (v := 0) (pc := 116) dX10_mayCarryOut_116 (by decide) ?_
  exact r_ireturn (S := []) (pc := 117) dX10_mayCarryOut_117 rfl rfl ⟨rfl, rfl⟩
theorem s_may_4c {om : OM} {l : Launch} {B : Nat × Nat} {R : Hp} {C : Nat → Int32} {W : Nat → Int64} {ns cnt : Int32} (hl : l.stackTraces = false) (hg : R.1 0 = .inr (8, gf ns cnt)) {ln po : Int32} {wd : Value} {t nu : Nat → Int32} (hc : HC R ln po wd t nu) (a b : Int32) (h : R_cThing a b = 1) (h2 : K_lt (C 4) 6 = 1) : Runs om l M_X10_mayCarryOut B 0 (entL 4 [.ref 0, .ref 100014, .int a, .int b]) [] (sH R 1 C W) (Det (some (.int (1))) (sH R 1 C W)) := by
  show Runs om l M_X10_mayCarryOut B 0 [some (.ref 0), some (.ref 100014), some (.int a), some (.int b)] [] _ _
  refine r_aload_n (pc := 0) dX10_mayCarryOut_0 rfl rfl ?_
  refine r_ifnonnull 6 (pc := 1) dX10_mayCarryOut_1 (by decide) ?_
  refine r_getstatic (pc := 6) dX10_mayCarryOut_6 rfl sw_z g_RX10_388 ?_
  refine r_aload_n (pc := 9) dX10_mayCarryOut_9 rfl rfl ?_
  refine r_ordinal (i := 4) (pc := 10) dX10_mayCarryOut_10 l_RX10_394 (by decide) (by decide) (by decide) (Nat.le_of_ble_eq_true rfl) ?_
  refine r_taload (n := 9) (pc := 13) dX10_mayCarryOut_13 sw_a (vin_n (k := 4) rfl (by decide) (by decide)) ?_
  rw [cl_n (k := 4) (n := 9) rfl (show 4 < 9 by decide) (by decide)]
  refine r_tableIn 91 (pc := 14) dX10_mayCarryOut_14 (by decide) (by decide) rfl (by decide) ?_
  refine r_iload_n (pc := 91) dX10_mayCarryOut_91 rfl rfl ?_
  refine r_iload_n (pc := 92) dX10_mayCarryOut_92 rfl rfl ?_
  refine q_callS (vs := [.int _, .int _]) (pc := 93) dX10_mayCarryOut_93 rfl l_RX10_94 rfl ⟨by decide, by decide⟩ rfl (Nat.le_of_ble_eq_true rfl) hl (Nat.le_of_ble_eq_true rfl) (s_X8_allowsThing hl _ _) sH_22 ?_
  refine r_if_eq 116 (pc := 96) dX10_mayCarryOut_96 (by decide) (fun c96 => absurd c96 (c_eqf h rfl (a := 1) (b := 0) (by omega) (by omega) (by omega))) (fun c96 => ?_)
  refine r_aload_n (pc := 99) dX10_mayCarryOut_99 rfl rfl ?_
  refine r_getfield (pc := 100) dX10_mayCarryOut_100 rfl f_RX10_12 ((sH_out (Or.inl (by decide))).trans hg) rfl ?_
  refine cs_get0 (pc := 103) dX10_mayCarryOut_103 rfl f_RX10_66 rfl ?_
  refine q_callV (ci := 7) (T := TX8) (N := 14) (vs := []) (pc := 106) dX10_mayCarryOut_106 rfl l_RX10_100 rfl ⟨by decide, by decide⟩ rfl (Nat.le_of_ble_eq_true rfl) hl (sH_at (i := 1) (by decide)) rfl (Nat.le_of_ble_eq_true rfl) (s_X8_hasPlaceForThing) sH_22 ?_
  refine r_if_eq 116 (pc := 109) dX10_mayCarryOut_109 (by decide) (fun c109 => absurd c109 (c_eqf h2 rfl (a := 1) (b := 0) (by omega) (by omega) (by omega))) (fun c109 => ?_)
  refine r_iconst (v := 1) (pc := 112) dX10_mayCarryOut_112 (by decide) ?_
  refine r_goto 117 (pc := 113) dX10_mayCarryOut_113 (by decide) ?_
  exact r_ireturn (S := []) (pc := 117) dX10_mayCarryOut_117 rfl rfl ⟨rfl, rfl⟩
theorem s_may_5 {om : OM} {l : Launch} {B : Nat × Nat} {R : Hp} {C : Nat → Int32} {W : Nat → Int64} {ns cnt : Int32} (hl : l.stackTraces = false) (hg : R.1 0 = .inr (8, gf ns cnt)) {ln po : Int32} {wd : Value} {t nu : Nat → Int32} (hc : HC R ln po wd t nu) (a b : Int32) : Runs om l M_X10_mayCarryOut B 0 (entL 4 [.ref 0, .ref 100015, .int a, .int b]) [] (sH R 1 C W) (Det (some (.int (R_cStir a b (nu 2) (nu 3) (nu 4)))) (sH R 1 C W)) := by
  show Runs om l M_X10_mayCarryOut B 0 [some (.ref 0), some (.ref 100015), some (.int a), some (.int b)] [] _ _
  refine r_aload_n (pc := 0) dX10_mayCarryOut_0 rfl rfl ?_
  refine r_ifnonnull 6 (pc := 1) dX10_mayCarryOut_1 (by decide) ?_
  refine r_getstatic (pc := 6) dX10_mayCarryOut_6 rfl sw_z g_RX10_388 ?_
  refine r_aload_n (pc := 9) dX10_mayCarryOut_9 rfl rfl ?_
  refine r_ordinal (i := 5) (pc := 10) dX10_mayCarryOut_10 l_RX10_394 (by decide) (by decide) (by decide) (Nat.le_of_ble_eq_true rfl) ?_
  refine r_taload (n := 9) (pc := 13) dX10_mayCarryOut_13 sw_a (vin_n (k := 5) rfl (by decide) (by decide)) ?_
  rw [cl_n (k := 5) (n := 9) rfl (show 5 < 9 by decide) (by decide)]
  refine r_tableIn 118 (pc := 14) dX10_mayCarryOut_14 (by decide) (by decide) rfl (by decide) ?_
  refine r_iload_n (pc := 118) dX10_mayCarryOut_118 rfl rfl ?_
  refine r_iload_n (pc := 119) dX10_mayCarryOut_119 rfl rfl ?_
  refine r_aload_n (pc := 120) dX10_mayCarryOut_120 rfl rfl ?_
  refine r_getfield (pc := 121) dX10_mayCarryOut_121 rfl f_RX10_33 ((sH_out (Or.inl (by decide))).trans hg) rfl ?_
  refine r_iconst (v := 2) (pc := 124) dX10_mayCarryOut_124 (by decide) ?_
  refine q_callV (ci := 0) (T := TX1) (N := 5) (vs := [.int _]) (pc := 125) dX10_mayCarryOut_125 rfl l_RX10_381 rfl ⟨by decide, by decide⟩ rfl (Nat.le_of_ble_eq_true rfl) hl (HC_sH hc).1 rfl (Nat.le_of_ble_eq_true rfl) (g_number hc 2 _ rfl (by decide)) sH_22 ?_
  refine r_aload_n (pc := 128) dX10_mayCarryOut_128 rfl rfl ?_
  refine r_getfield (pc := 129) dX10_mayCarryOut_129 rfl f_RX10_33 ((sH_out (Or.inl (by decide))).trans hg) rfl ?_
  refine r_iconst (v := 3) (pc := 132) dX10_mayCarryOut_132 (by decide) ?_
  refine q_callV (ci := 0) (T := TX1) (N := 5) (vs := [.int _]) (pc := 133) dX10_mayCarryOut_133 rfl l_RX10_381 rfl ⟨by decide, by decide⟩ rfl (Nat.le_of_ble_eq_true rfl) hl (HC_sH hc).1 rfl (Nat.le_of_ble_eq_true rfl) (g_number hc 3 _ rfl (by decide)) sH_22 ?_
  refine r_aload_n (pc := 136) dX10_mayCarryOut_136 rfl rfl ?_
  refine r_getfield (pc := 137) dX10_mayCarryOut_137 rfl f_RX10_33 ((sH_out (Or.inl (by decide))).trans hg) rfl ?_
  refine r_iconst (v := 4) (pc := 140) dX10_mayCarryOut_140 (by decide) ?_
  refine q_callV (ci := 0) (T := TX1) (N := 5) (vs := [.int _]) (pc := 141) dX10_mayCarryOut_141 rfl l_RX10_381 rfl ⟨by decide, by decide⟩ rfl (Nat.le_of_ble_eq_true rfl) hl (HC_sH hc).1 rfl (Nat.le_of_ble_eq_true rfl) (g_number hc 4 _ rfl (by decide)) sH_22 ?_
  refine q_callS (vs := [.int _, .int _, .int _, .int _, .int _]) (pc := 144) dX10_mayCarryOut_144 rfl l_RX10_127 rfl ⟨by decide, by decide⟩ rfl (Nat.le_of_ble_eq_true rfl) hl (Nat.le_of_ble_eq_true rfl) (s_X8_allowsStirrer hl _ _ _ _ _) sH_22 ?_
  exact r_ireturn (S := []) (pc := 147) dX10_mayCarryOut_147 rfl (nar_b (stir01 _ _ _ _ _)) ⟨rfl, rfl⟩
theorem s_may_6 {om : OM} {l : Launch} {B : Nat × Nat} {R : Hp} {C : Nat → Int32} {W : Nat → Int64} {ns cnt : Int32} (hl : l.stackTraces = false) (hg : R.1 0 = .inr (8, gf ns cnt)) {ln po : Int32} {wd : Value} {t nu : Nat → Int32} (hc : HC R ln po wd t nu) (a b : Int32) : Runs om l M_X10_mayCarryOut B 0 (entL 4 [.ref 0, .ref 100016, .int a, .int b]) [] (sH R 1 C W) (Det (some (.int (R_cSet C a b))) (sH R 1 C W)) := by
  show Runs om l M_X10_mayCarryOut B 0 [some (.ref 0), some (.ref 100016), some (.int a), some (.int b)] [] _ _
  refine r_aload_n (pc := 0) dX10_mayCarryOut_0 rfl rfl ?_
  refine r_ifnonnull 6 (pc := 1) dX10_mayCarryOut_1 (by decide) ?_
  refine r_getstatic (pc := 6) dX10_mayCarryOut_6 rfl sw_z g_RX10_388 ?_
  refine r_aload_n (pc := 9) dX10_mayCarryOut_9 rfl rfl ?_
  refine r_ordinal (i := 6) (pc := 10) dX10_mayCarryOut_10 l_RX10_394 (by decide) (by decide) (by decide) (Nat.le_of_ble_eq_true rfl) ?_
  refine r_taload (n := 9) (pc := 13) dX10_mayCarryOut_13 sw_a (vin_n (k := 6) rfl (by decide) (by decide)) ?_
  rw [cl_n (k := 6) (n := 9) rfl (show 6 < 9 by decide) (by decide)]
  refine r_tableIn 148 (pc := 14) dX10_mayCarryOut_14 (by decide) (by decide) rfl (by decide) ?_
  refine r_aload_n (pc := 148) dX10_mayCarryOut_148 rfl rfl ?_
  refine r_getfield (pc := 149) dX10_mayCarryOut_149 rfl f_RX10_12 ((sH_out (Or.inl (by decide))).trans hg) rfl ?_
  refine cs_get0 (pc := 152) dX10_mayCarryOut_152 rfl f_RX10_140 rfl ?_
  refine r_iload_n (pc := 155) dX10_mayCarryOut_155 rfl rfl ?_
  refine r_iload_n (pc := 156) dX10_mayCarryOut_156 rfl rfl ?_
  refine q_callV (ci := 5) (T := TX6) (N := 1) (vs := [.int _, .int _]) (pc := 157) dX10_mayCarryOut_157 rfl l_RX10_144 rfl ⟨by decide, by decide⟩ rfl (Nat.le_of_ble_eq_true rfl) hl (sH_at (i := 4) (by decide)) rfl (Nat.le_of_ble_eq_true rfl) (s_X6_allows hl _ _) sH_22 ?_
  exact r_ireturn (S := []) (pc := 160) dX10_mayCarryOut_160 rfl (nar_b (set01 _ _ _)) ⟨rfl, rfl⟩
theorem s_may_7 {om : OM} {l : Launch} {B : Nat × Nat} {R : Hp} {C : Nat → Int32} {W : Nat → Int64} {ns cnt : Int32} (hl : l.stackTraces = false) (hg : R.1 0 = .inr (8, gf ns cnt)) {ln po : Int32} {wd : Value} {t nu : Nat → Int32} (hc : HC R ln po wd t nu) (a b : Int32) : Runs om l M_X10_mayCarryOut B 0 (entL 4 [.ref 0, .ref 100017, .int a, .int b]) [] (sH R 1 C W) (Det (some (.int (R_in a 1 50))) (sH R 1 C W)) := by
  show Runs om l M_X10_mayCarryOut B 0 [some (.ref 0), some (.ref 100017), some (.int a), some (.int b)] [] _ _
  refine r_aload_n (pc := 0) dX10_mayCarryOut_0 rfl rfl ?_
  refine r_ifnonnull 6 (pc := 1) dX10_mayCarryOut_1 (by decide) ?_
  refine r_getstatic (pc := 6) dX10_mayCarryOut_6 rfl sw_z g_RX10_388 ?_
  refine r_aload_n (pc := 9) dX10_mayCarryOut_9 rfl rfl ?_
  refine r_ordinal (i := 7) (pc := 10) dX10_mayCarryOut_10 l_RX10_394 (by decide) (by decide) (by decide) (Nat.le_of_ble_eq_true rfl) ?_
  refine r_taload (n := 9) (pc := 13) dX10_mayCarryOut_13 sw_a (vin_n (k := 7) rfl (by decide) (by decide)) ?_
  rw [cl_n (k := 7) (n := 9) rfl (show 7 < 9 by decide) (by decide)]
  refine r_tableIn 161 (pc := 14) dX10_mayCarryOut_14 (by decide) (by decide) rfl (by decide) ?_
  refine r_iload_n (pc := 161) dX10_mayCarryOut_161 rfl rfl ?_
  refine q_callS (vs := [.int _]) (pc := 162) dX10_mayCarryOut_162 rfl l_RX10_181 rfl ⟨by decide, by decide⟩ rfl (Nat.le_of_ble_eq_true rfl) hl (Nat.le_of_ble_eq_true rfl) (s_X10_allowsLearning _) sH_22 ?_
  exact r_ireturn (S := []) (pc := 165) dX10_mayCarryOut_165 rfl (nar_b (in01 _ _ _)) ⟨rfl, rfl⟩
theorem s_may_8 {om : OM} {l : Launch} {B : Nat × Nat} {R : Hp} {C : Nat → Int32} {W : Nat → Int64} {ns cnt : Int32} (hl : l.stackTraces = false) (hg : R.1 0 = .inr (8, gf ns cnt)) {ln po : Int32} {wd : Value} {t nu : Nat → Int32} (hc : HC R ln po wd t nu) (a b : Int32) : Runs om l M_X10_mayCarryOut B 0 (entL 4 [.ref 0, .ref 100018, .int a, .int b]) [] (sH R 1 C W) (Det (some (.int (R_in a 1 500))) (sH R 1 C W)) := by
  show Runs om l M_X10_mayCarryOut B 0 [some (.ref 0), some (.ref 100018), some (.int a), some (.int b)] [] _ _
  refine r_aload_n (pc := 0) dX10_mayCarryOut_0 rfl rfl ?_
  refine r_ifnonnull 6 (pc := 1) dX10_mayCarryOut_1 (by decide) ?_
  refine r_getstatic (pc := 6) dX10_mayCarryOut_6 rfl sw_z g_RX10_388 ?_
  refine r_aload_n (pc := 9) dX10_mayCarryOut_9 rfl rfl ?_
  refine r_ordinal (i := 8) (pc := 10) dX10_mayCarryOut_10 l_RX10_394 (by decide) (by decide) (by decide) (Nat.le_of_ble_eq_true rfl) ?_
  refine r_taload (n := 9) (pc := 13) dX10_mayCarryOut_13 sw_a (vin_n (k := 8) rfl (by decide) (by decide)) ?_
  rw [cl_n (k := 8) (n := 9) rfl (show 8 < 9 by decide) (by decide)]
  refine r_tableIn 166 (pc := 14) dX10_mayCarryOut_14 (by decide) (by decide) rfl (by decide) ?_
  refine r_iload_n (pc := 166) dX10_mayCarryOut_166 rfl rfl ?_
  refine q_callS (vs := [.int _]) (pc := 167) dX10_mayCarryOut_167 rfl l_RX10_195 rfl ⟨by decide, by decide⟩ rfl (Nat.le_of_ble_eq_true rfl) hl (Nat.le_of_ble_eq_true rfl) (s_X10_allowsShooting _) sH_22 ?_
  exact r_ireturn (S := []) (pc := 170) dX10_mayCarryOut_170 rfl (nar_b (in01 _ _ _)) ⟨rfl, rfl⟩
