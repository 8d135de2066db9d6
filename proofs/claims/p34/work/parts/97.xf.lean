/-! the law's method does, case by case -/
def DPost (g : Hp) (C : Nat → Int32) (W : Nat → Int64) (S : Nat → Nat → Int32) (V : Nat → Nat → Int64) (p c m : Nat) (v : Int32) : Out → Hp → Prop := fun o h' => ∃ (x : Int32) (C' : Nat → Int32) (W' : Nat → Int64), o = .inl (some (.int x)) ∧ h' = NV g C W S V p c C' W' ∧ DP v m C C' W' x
section LD
variable {om : OM} {l : Launch} {B : Nat × Nat} {g : Hp} {C : Nat → Int32} {W : Nat → Int64} {S : Nat → Nat → Int32} {V : Nat → Nat → Int64} {p c m : Nat} {A : Nat → Int32} {v : Int32}
theorem dd_setLevel_yes (hp : p < 4) (hc : c ≤ 4) (hl : l.stackTraces = false) (d : Int32) (h : R_in d 0 (C 0) = 1) : Runs om l M_X10_setLevel B 0 (entL 3 [.ref 0, .int d]) [] (EW g C W S V p c) (Det (some (.int (C 1))) (NV g C W S V p c (upd C 1 d) W)) := s_X10_setLevel_yes (R := (cH (gR g A0 W0 S V (nI p) (nI c)) 0 0 .null Zi Zi)) (R' := (cH (gR g A0 W0 (updS S ((p + 1) % 4) C) (updS V ((p + 1) % 4) W) (nI ((p + 1) % 4)) (nI (min (c + 1) 4))) 0 0 .null Zi Zi)) hl EH_0 d h EH_0 rfl (e_save hl p c rfl rfl hp hc)
theorem dd_setFlow_yes (hp : p < 4) (hc : c ≤ 4) (hl : l.stackTraces = false) (d : Int32) (h : R_in d (-200) 200 = 1) : Runs om l M_X10_setFlow B 0 (entL 3 [.ref 0, .int d]) [] (EW g C W S V p c) (Det (some (.int (C 2))) (NV g C W S V p c (upd C 2 d) W)) := s_X10_setFlow_yes (R := (cH (gR g A0 W0 S V (nI p) (nI c)) 0 0 .null Zi Zi)) (R' := (cH (gR g A0 W0 (updS S ((p + 1) % 4) C) (updS V ((p + 1) % 4) W) (nI ((p + 1) % 4)) (nI (min (c + 1) 4))) 0 0 .null Zi Zi)) hl EH_0 d h EH_0 rfl (e_save hl p c rfl rfl hp hc)
theorem dd_setFoam_yes (hp : p < 4) (hc : c ≤ 4) (hl : l.stackTraces = false) (d : Int32) (h : R_in d 0 500 = 1) : Runs om l M_X10_setFoam B 0 (entL 3 [.ref 0, .int d]) [] (EW g C W S V p c) (Det (some (.int (C 3))) (NV g C W S V p c (upd C 3 d) W)) := s_X10_setFoam_yes (R := (cH (gR g A0 W0 S V (nI p) (nI c)) 0 0 .null Zi Zi)) (R' := (cH (gR g A0 W0 (updS S ((p + 1) % 4) C) (updS V ((p + 1) % 4) W) (nI ((p + 1) % 4)) (nI (min (c + 1) 4))) 0 0 .null Zi Zi)) hl EH_0 d h EH_0 rfl (e_save hl p c rfl rfl hp hc)
theorem dd_addThing_yes (hp : p < 4) (hc : c ≤ 4) (hl : l.stackTraces = false) (d s : Int32) (h : R_cThing d s = 1) (h2 : K_lt (C 4) 6 = 1) (k : Nat) (h4 : C 4 = nI k) (hk : k < 6) : Runs om l M_X10_addThing B 0 (entL 3 [.ref 0, .int d, .int s]) [] (EW g C W S V p c) (Det (some (.int (R_adds C k d s 4 - 1))) (NV g C W S V p c (R_adds C k d s) W)) := s_X10_addThing_yes (R := (cH (gR g A0 W0 S V (nI p) (nI c)) 0 0 .null Zi Zi)) (R' := (cH (gR g A0 W0 (updS S ((p + 1) % 4) C) (updS V ((p + 1) % 4) W) (nI ((p + 1) % 4)) (nI (min (c + 1) 4))) 0 0 .null Zi Zi)) hl EH_0 d s h h2 EH_0 rfl (e_save hl p c rfl rfl hp hc) k h4 hk
theorem dd_removeThing_yes (hp : p < 4) (hc : c ≤ 4) (hl : l.stackTraces = false) (d : Int32) (h : K_hasT d (C 4) = 1) (k k0 : Nat) (hx : d = nI k) (h4 : C 4 = nI (k0 + 1)) (hk : k < k0 + 1) (hK : k0 + 1 ≤ 6) : Runs om l M_X10_removeThing B 0 (entL 2 [.ref 0, .int d]) [] (EW g C W S V p c) (Det (some (.int (upd (K_dr C k k0) 4 (K_dr C k k0 4 - 1) 4))) (NV g C W S V p c (upd (K_dr C k k0) 4 (K_dr C k k0 4 - 1)) W)) := s_X10_removeThing_yes (R := (cH (gR g A0 W0 S V (nI p) (nI c)) 0 0 .null Zi Zi)) (R' := (cH (gR g A0 W0 (updS S ((p + 1) % 4) C) (updS V ((p + 1) % 4) W) (nI ((p + 1) % 4)) (nI (min (c + 1) 4))) 0 0 .null Zi Zi)) hl EH_0 d h EH_0 rfl (e_save hl p c rfl rfl hp hc) k k0 hx h4 hk hK
theorem dd_setStirrer_yes (hp : p < 4) (hc : c ≤ 4) (hl : l.stackTraces = false) (b0 u x sp be : Int32) (h : R_cStir b0 u x sp be = 1) : Runs om l M_X10_setStirrer B 0 (entL 7 [.ref 0, .int b0, .int u, .int x, .int sp, .int be]) [] (EW g C W S V p c) (Det (some (.int (C 5))) (NV g C W S V p c (R_stirs C b0 u x sp be) W)) := s_X10_setStirrer_yes (R := (cH (gR g A0 W0 S V (nI p) (nI c)) 0 0 .null Zi Zi)) (R' := (cH (gR g A0 W0 (updS S ((p + 1) % 4) C) (updS V ((p + 1) % 4) W) (nI ((p + 1) % 4)) (nI (min (c + 1) 4))) 0 0 .null Zi Zi)) hl EH_0 b0 u x sp be h EH_0 rfl (e_save hl p c rfl rfl hp hc)
theorem dd_set_yes (hp : p < 4) (hc : c ≤ 4) (hl : l.stackTraces = false) (x d : Int32) (h : R_cSet C x d = 1) (k : Nat) (hx : x = nI k) (hk : k < 12) (h6 : k ≠ 6) : Runs om l M_X10_set B 0 (entL 4 [.ref 0, .int x, .int d]) [] (EW g C W S V p c) (Det (some (.int (C (12 + k)))) (NV g C W S V p c (upd C (12 + k) d) W)) := s_X10_set_yes (R := (cH (gR g A0 W0 S V (nI p) (nI c)) 0 0 .null Zi Zi)) (R' := (cH (gR g A0 W0 (updS S ((p + 1) % 4) C) (updS V ((p + 1) % 4) W) (nI ((p + 1) % 4)) (nI (min (c + 1) 4))) 0 0 .null Zi Zi)) hl EH_0 x d h EH_0 rfl (e_save hl p c rfl rfl hp hc) k hx hk h6
theorem dd_set_yes6 (hp : p < 4) (hc : c ≤ 4) (hl : l.stackTraces = false) (x d : Int32) (h : R_cSet C x d = 1) (hx : x = nI 6) (K L : Nat) (hK : C 31 = nI K) (hK9 : K ≤ 9) (hd : d = nI L) (hL : L ≤ 9) : Runs om l M_X10_set B 0 (entL 4 [.ref 0, .int x, .int d]) [] (EW g C W S V p c) (Det (some (.int (C (12 + 6)))) (NV g C W S V p c (upd (upd C (12 + 6) d) 31 (nI (min K L))) W)) := s_X10_set_yes6 (R := (cH (gR g A0 W0 S V (nI p) (nI c)) 0 0 .null Zi Zi)) (R' := (cH (gR g A0 W0 (updS S ((p + 1) % 4) C) (updS V ((p + 1) % 4) W) (nI ((p + 1) % 4)) (nI (min (c + 1) 4))) 0 0 .null Zi Zi)) hl EH_0 x d h EH_0 rfl (e_save hl p c rfl rfl hp hc) hx K L hK hK9 hd hL
theorem dd_setS_yes (hp : p < 4) (hc : c ≤ 4) (hl : l.stackTraces = false) (d : Int32) (h : R_nn d = 1) : Runs om l M_X10_setS B 0 (entL 3 [.ref 0, .int d]) [] (EW g C W S V p c) (Det (some (.int (C 11))) (NV g C W S V p c (upd C 11 d) W)) := s_X10_setS_yes (R := (cH (gR g A0 W0 S V (nI p) (nI c)) 0 0 .null Zi Zi)) (R' := (cH (gR g A0 W0 (updS S ((p + 1) % 4) C) (updS V ((p + 1) % 4) W) (nI ((p + 1) % 4)) (nI (min (c + 1) 4))) 0 0 .null Zi Zi)) hl EH_0 d h EH_0 rfl (e_save hl p c rfl rfl hp hc)
theorem dd_mask_yes (hp : p < 4) (hc : c ≤ 4) (hl : l.stackTraces = false) (d y : Int32) (h : R_in d 0 10000 = 1) (x : Nat) (hx : d = nI x) (hx1 : x ≤ 10000) : Runs om l M_X10_mask B 0 (entL 4 [.ref 0, .int d, .int y]) [] (EW g C W S V p c) (Det (some (.int (K_bin W (x / 20)))) (NV g C W S V p c (K_mputC C W (x / 20) y) (K_mputW W (x / 20) y))) := s_X10_mask_yes (R := (cH (gR g A0 W0 S V (nI p) (nI c)) 0 0 .null Zi Zi)) (R' := (cH (gR g A0 W0 (updS S ((p + 1) % 4) C) (updS V ((p + 1) % 4) W) (nI ((p + 1) % 4)) (nI (min (c + 1) 4))) 0 0 .null Zi Zi)) hl EH_0 d y h EH_0 rfl (e_save hl p c rfl rfl hp hc) x hx hx1
theorem dd_learn_yes (hp : p < 4) (hc : c ≤ 4) (hl : l.stackTraces = false) (d : Int32) (h : R_in d 1 50 = 1) (s : Nat) (hd : d = nI s) (hs : s ≤ 50) (hA : AG C W A) (hw : WF A) (hx : WX A) : Runs om l M_X10_learn B 0 (entL 2 [.ref 0, .int d]) [] (EW g C W S V p c) (Det (some (.int ((K_learns C W s).1 647))) (NV g C W S V p c ((K_learns C W s).1) ((K_learns C W s).2))) := s_X10_learn_yes (R := (cH (gR g A0 W0 S V (nI p) (nI c)) 0 0 .null Zi Zi)) (R' := (cH (gR g A0 W0 (updS S ((p + 1) % 4) C) (updS V ((p + 1) % 4) W) (nI ((p + 1) % 4)) (nI (min (c + 1) 4))) 0 0 .null Zi Zi)) hl EH_0 d h EH_0 rfl (e_save hl p c rfl rfl hp hc) A s hd hs hA hw hx
theorem dd_shoot_yes (hp : p < 4) (hc : c ≤ 4) (hl : l.stackTraces = false) (d : Int32) (h : R_in d 1 500 = 1) (s : Nat) (hd : d = nI s) (hs : s ≤ 500) (hA : AG C W A) (hw : WF A) (hx : WX A) : Runs om l M_X10_shoot B 0 (entL 3 [.ref 0, .int d]) [] (EW g C W S V p c) (Det (some (.int (K_shots W C s 25 - C 25))) (NV g C W S V p c (K_shots W C s) W)) := s_X10_shoot_yes (R := (cH (gR g A0 W0 S V (nI p) (nI c)) 0 0 .null Zi Zi)) (R' := (cH (gR g A0 W0 (updS S ((p + 1) % 4) C) (updS V ((p + 1) % 4) W) (nI ((p + 1) % 4)) (nI (min (c + 1) 4))) 0 0 .null Zi Zi)) hl EH_0 d h EH_0 rfl (e_save hl p c rfl rfl hp hc) A s hd hs hA hw hx
theorem dd_forget (hp : p < 4) (hc : c ≤ 4) (hl : l.stackTraces = false) : Runs om l M_X10_forget B 0 (entL 2 [.ref 0]) [] (EW g C W S V p c) (Det (some (.int (C 647))) (NV g C W S V p c (upd C 647 0) (K_zero W 8))) := s_X10_forget (R := (cH (gR g A0 W0 S V (nI p) (nI c)) 0 0 .null Zi Zi)) (R' := (cH (gR g A0 W0 (updS S ((p + 1) % 4) C) (updS V ((p + 1) % 4) W) (nI ((p + 1) % 4)) (nI (min (c + 1) 4))) 0 0 .null Zi Zi)) hl EH_0 EH_0 rfl (e_save hl p c rfl rfl hp hc)
theorem dd_begin_yes (hp : p < 4) (hc : c ≤ 4) (hl : l.stackTraces = false) (d : Int32) (h : R_in d 500 10000 = 1) : Runs om l M_X10_begin B 0 (entL 3 [.ref 0, .int d]) [] (EW g C W S V p c) (Det (some (.int (C 24))) (NV g C W S V p c (K_start C d) (K_zero W 8))) := s_X10_begin_yes (R := (cH (gR g A0 W0 S V (nI p) (nI c)) 0 0 .null Zi Zi)) (R' := (cH (gR g A0 W0 (updS S ((p + 1) % 4) C) (updS V ((p + 1) % 4) W) (nI ((p + 1) % 4)) (nI (min (c + 1) 4))) 0 0 .null Zi Zi)) hl EH_0 d h EH_0 rfl (e_save hl p c rfl rfl hp hc)
theorem dz_setLevel (hl : l.stackTraces = false) (hA : AG C W A) (o : OKA A) (x : XA m A) (hm : m ≤ 160) (hp : p < 4) (hc : c ≤ 4) (h4 : ¬ 11 < v &&& 15) : Runs om l M_L_does B 68 [some (.ref 0), some (.int v)] [] (EW g C W S V p c) (DPost g C W S V p c m v) := by
  obtain ⟨D, hD, hD1⟩ := o.1.D
  have c0 : C 0 = nI D := (hA.1.lo (by omega)).trans hD
  have n0 : C 0 + (1 : Int32) = nI (D + 1) := nadd c0 rfl
  obtain ⟨k, hk, ek⟩ := lw_ex (v >>> ((4 : Int32) &&& 31)) n0 (by omega) (by omega)
  have hd : R_in (nI k) 0 (C 0) = 1 := rin2 (a := 0) rfl rfl c0 (by omega) (by omega) (by omega)
  have hd2 : R_in (nI k) 0 (A 0) = 1 := by rw [← hA.1.lo (j := 0) (by omega)]; exact hd
  refine r_aload_n (pc := 68) dL_does_68 rfl rfl ?_
  refine r_iload_n (pc := 69) dL_does_69 rfl rfl ?_
  refine r_iconst (v := 4) (pc := 70) dL_does_70 (by decide) ?_
  refine r_ishr (pc := 71) dL_does_71 ?_
  refine r_aload_n (pc := 72) dL_does_72 rfl rfl ?_
  refine r_iconst (v := 0) (pc := 73) dL_does_73 (by decide) ?_
  refine q_callV (ci := 8) (T := TX10) (N := 6) (vs := [.int _]) (pc := 74) dL_does_74 rfl l_RL_8 rfl ⟨by decide, by decide⟩ rfl (Nat.le_of_ble_eq_true rfl) hl EW_0 rfl (Nat.le_of_ble_eq_true rfl) (qs_tank hl _ 0 rfl (by omega)) rfl ?_
  refine r_iconst (v := 1) (pc := 77) dL_does_77 (by decide) ?_
  refine r_iadd (pc := 78) dL_does_78 ?_
  refine q_callS (vs := [.int _, .int _]) (pc := 79) dL_does_79 rfl l_RL_14 rfl ⟨by decide, by decide⟩ rfl (Nat.le_of_ble_eq_true rfl) hl (Nat.le_of_ble_eq_true rfl) (s_L_low _ _ (by rw [n0]; exact nI_ne0 (by omega) (by omega))) rfl ?_
  rw [ek]
  refine q_callV (ci := 8) (T := TX10) (N := 6) (vs := [.int _]) (pc := 82) dL_does_82 rfl l_RL_20 rfl ⟨by decide, by decide⟩ rfl (Nat.le_of_ble_eq_true rfl) hl EW_0 rfl (Nat.le_of_ble_eq_true rfl) (dd_setLevel_yes hp hc hl _ hd) rfl ?_
  exact r_ireturn (S := []) (pc := 85) dL_does_85 rfl rfl ⟨_, _, _, rfl, rfl, (dp_setLevel hA o x hd2 h4)⟩
theorem dz_setFlow (hl : l.stackTraces = false) (hA : AG C W A) (o : OKA A) (x : XA m A) (hm : m ≤ 160) (hp : p < 4) (hc : c ≤ 4) (h4 : ¬ 11 < v &&& 15) (hv : v &&& 15 = 1) : Runs om l M_L_does B 86 [some (.ref 0), some (.int v)] [] (EW g C W S V p c) (DPost g C W S V p c m v) := by
  obtain ⟨k, hk, ek⟩ := lw_ex (v >>> ((4 : Int32) &&& 31)) (n := 101) (N := 101) rfl (by omega) (by omega)
  refine r_aload_n (pc := 86) dL_does_86 rfl rfl ?_
  refine r_iload_n (pc := 87) dL_does_87 rfl rfl ?_
  refine r_iconst (v := 4) (pc := 88) dL_does_88 (by decide) ?_
  refine r_ishr (pc := 89) dL_does_89 ?_
  refine r_bipush (v := 101) (pc := 90) dL_does_90 (by decide) ?_
  refine q_callS (vs := [.int _, .int _]) (pc := 92) dL_does_92 rfl l_RL_14 rfl ⟨by decide, by decide⟩ rfl (Nat.le_of_ble_eq_true rfl) hl (Nat.le_of_ble_eq_true rfl) (s_L_low _ _ (by decide)) rfl ?_
  rw [ek]
  refine r_bipush (v := 50) (pc := 95) dL_does_95 (by decide) ?_
  refine r_isub (pc := 97) dL_does_97 ?_
  refine q_callV (ci := 8) (T := TX10) (N := 6) (vs := [.int _]) (pc := 98) dL_does_98 rfl l_RL_23 rfl ⟨by decide, by decide⟩ rfl (Nat.le_of_ble_eq_true rfl) hl EW_0 rfl (Nat.le_of_ble_eq_true rfl) (dd_setFlow_yes hp hc hl _ (rin_flow (by omega))) rfl ?_
  exact r_ireturn (S := []) (pc := 101) dL_does_101 rfl rfl ⟨_, _, _, rfl, rfl, (dp_setFlow hA o x hv h4)⟩
theorem dz_setFoam (hl : l.stackTraces = false) (hA : AG C W A) (o : OKA A) (x : XA m A) (hm : m ≤ 160) (hp : p < 4) (hc : c ≤ 4) (h4 : ¬ 11 < v &&& 15) : Runs om l M_L_does B 102 [some (.ref 0), some (.int v)] [] (EW g C W S V p c) (DPost g C W S V p c m v) := by
  obtain ⟨k, hk, ek⟩ := lw_ex (v >>> ((4 : Int32) &&& 31)) (n := 501) (N := 501) rfl (by omega) (by omega)
  refine r_aload_n (pc := 102) dL_does_102 rfl rfl ?_
  refine r_iload_n (pc := 103) dL_does_103 rfl rfl ?_
  refine r_iconst (v := 4) (pc := 104) dL_does_104 (by decide) ?_
  refine r_ishr (pc := 105) dL_does_105 ?_
  refine r_sipush (v := 501) (pc := 106) dL_does_106 (by decide) ?_
  refine q_callS (vs := [.int _, .int _]) (pc := 109) dL_does_109 rfl l_RL_14 rfl ⟨by decide, by decide⟩ rfl (Nat.le_of_ble_eq_true rfl) hl (Nat.le_of_ble_eq_true rfl) (s_L_low _ _ (by decide)) rfl ?_
  rw [ek]
  refine q_callV (ci := 8) (T := TX10) (N := 6) (vs := [.int _]) (pc := 112) dL_does_112 rfl l_RL_26 rfl ⟨by decide, by decide⟩ rfl (Nat.le_of_ble_eq_true rfl) hl EW_0 rfl (Nat.le_of_ble_eq_true rfl) (dd_setFoam_yes hp hc hl _ (rin2 (a := 0) (b := 500) rfl rfl rfl (by omega) (by omega) (by omega))) rfl ?_
  exact r_ireturn (S := []) (pc := 115) dL_does_115 rfl rfl ⟨_, _, _, rfl, rfl, (dp_setFoam hA o x (nI_pos' (by omega)) h4)⟩
theorem dz_addThing (hl : l.stackTraces = false) (hA : AG C W A) (o : OKA A) (x : XA m A) (hm : m ≤ 160) (hp : p < 4) (hc : c ≤ 4) (h4 : ¬ 11 < v &&& 15) : Runs om l M_L_does B 116 [some (.ref 0), some (.int v)] [] (EW g C W S V p c) (DPost g C W S V p c m v) := by
  obtain ⟨k, hk, ek⟩ := lw_ex (v >>> ((4 : Int32) &&& 31)) (n := 2500) (N := 2500) rfl (by omega) (by omega)
  obtain ⟨j, hj, ej⟩ := lw_ex (v >>> ((16 : Int32) &&& 31)) (n := 100) (N := 100) rfl (by omega) (by omega)
  obtain ⟨q, a4, hq⟩ := o.1.K4
  have c4 : C 4 = nI q := (hA.1.lo (by omega)).trans a4
  have hT : R_cThing (nI k) (1 + nI j) = 1 := by
    unfold R_cThing
    rw [rin2 (x := nI k) (lo := 0) (hi := 10000) (a := 0) (b := 10000) rfl rfl rfl (by omega) (by omega) (by omega), rin2 (x := 1 + nI j) (lo := 1) (hi := 100) (a := 1) (b := 100) (show (1 : Int32) + nI j = nI (1 + j) from nadd rfl rfl) rfl rfl (by omega) (by omega) (by omega)]
    rfl
  refine r_aload_n (pc := 116) dL_does_116 rfl rfl ?_
  refine r_iconst (v := 4) (pc := 117) dL_does_117 (by decide) ?_
  refine q_callV (ci := 8) (T := TX10) (N := 6) (vs := [.int _]) (pc := 118) dL_does_118 rfl l_RL_8 rfl ⟨by decide, by decide⟩ rfl (Nat.le_of_ble_eq_true rfl) hl EW_0 rfl (Nat.le_of_ble_eq_true rfl) (qs_tank hl _ 4 rfl (by omega)) rfl ?_
  refine r_bipush (v := 6) (pc := 121) dL_does_121 (by decide) ?_
  refine r_icmp_ge 153 (pc := 123) dL_does_123 (by decide) (fun c6 => ?_) (fun c6 => ?_)
  · have c46 : C 4 = nI (5 + 1) := by
      have h6 : 6 ≤ q := Nat.le_of_not_lt (fun z => absurd c6 (c_gef c4 (b := 6) rfl (by omega) (by omega) z))
      rw [c4, show q = 6 by omega]
    refine r_aload_n (pc := 153) dL_does_153 rfl rfl ?_
    refine r_iconst (v := 0) (pc := 154) dL_does_154 (by decide) ?_
    refine q_callV (ci := 8) (T := TX10) (N := 6) (vs := [.int _]) (pc := 155) dL_does_155 rfl l_RL_32 rfl ⟨by decide, by decide⟩ rfl (Nat.le_of_ble_eq_true rfl) hl EW_0 rfl (Nat.le_of_ble_eq_true rfl) (dd_removeThing_yes hp hc hl _ (hasT_1 (k := 0) rfl c46 (by omega) (by omega)) 0 5 rfl c46 (by omega) (by omega)) rfl ?_
    exact r_ireturn (S := []) (pc := 158) dL_does_158 rfl rfl ⟨_, _, _, rfl, rfl, (dp_removeThing hA o x c46 h4)⟩
  · refine r_aload_n (pc := 126) dL_does_126 rfl rfl ?_
    refine r_iload_n (pc := 127) dL_does_127 rfl rfl ?_
    refine r_iconst (v := 4) (pc := 128) dL_does_128 (by decide) ?_
    refine r_ishr (pc := 129) dL_does_129 ?_
    refine r_sipush (v := 2500) (pc := 130) dL_does_130 (by decide) ?_
    refine q_callS (vs := [.int _, .int _]) (pc := 133) dL_does_133 rfl l_RL_14 rfl ⟨by decide, by decide⟩ rfl (Nat.le_of_ble_eq_true rfl) hl (Nat.le_of_ble_eq_true rfl) (s_L_low _ _ (by decide)) rfl ?_
    rw [ek]
    refine r_iconst (v := 1) (pc := 136) dL_does_136 (by decide) ?_
    refine r_iload_n (pc := 137) dL_does_137 rfl rfl ?_
    refine r_bipush (v := 16) (pc := 138) dL_does_138 (by decide) ?_
    refine r_ishr (pc := 140) dL_does_140 ?_
    refine r_bipush (v := 100) (pc := 141) dL_does_141 (by decide) ?_
    refine q_callS (vs := [.int _, .int _]) (pc := 143) dL_does_143 rfl l_RL_14 rfl ⟨by decide, by decide⟩ rfl (Nat.le_of_ble_eq_true rfl) hl (Nat.le_of_ble_eq_true rfl) (s_L_low _ _ (by decide)) rfl ?_
    rw [ej]
    refine r_iadd (pc := 146) dL_does_146 ?_
    refine q_callV (ci := 8) (T := TX10) (N := 6) (vs := [.int _, .int _]) (pc := 147) dL_does_147 rfl l_RL_29 rfl ⟨by decide, by decide⟩ rfl (Nat.le_of_ble_eq_true rfl) hl EW_0 rfl (Nat.le_of_ble_eq_true rfl) (dd_addThing_yes hp hc hl _ _ hT (if_neg c6) q c4 (Nat.lt_of_not_le (fun z => c6 (c_get c4 (b := 6) rfl (by omega) (by omega) z)))) rfl ?_
    refine r_goto 158 (pc := 150) dL_does_150 (by decide) ?_
    exact r_ireturn (S := []) (pc := 158) dL_does_158 rfl rfl ⟨_, _, _, rfl, rfl, (dp_addThing hA o x c4 (Nat.lt_of_not_le (fun z => c6 (c_get c4 (b := 6) rfl (by omega) (by omega) z))) hT h4)⟩
theorem dz_setStirrer (hl : l.stackTraces = false) (hA : AG C W A) (o : OKA A) (x : XA m A) (hm : m ≤ 160) (hp : p < 4) (hc : c ≤ 4) (h4 : ¬ 11 < v &&& 15) : Runs om l M_L_does B 159 [some (.ref 0), some (.int v)] [] (EW g C W S V p c) (DPost g C W S V p c m v) := by
  obtain ⟨k1, hk1, ek1⟩ := lw_ex (v >>> ((4 : Int32) &&& 31)) (n := 7) (N := 7) rfl (by omega) (by omega)
  obtain ⟨k2, hk2, ek2⟩ := lw_ex (v >>> ((7 : Int32) &&& 31)) (n := 800) (N := 800) rfl (by omega) (by omega)
  obtain ⟨k3, hk3, ek3⟩ := lw_ex (v >>> ((17 : Int32) &&& 31)) (n := 500) (N := 500) rfl (by omega) (by omega)
  obtain ⟨k4, hk4, ek4⟩ := lw_ex (v >>> ((9 : Int32) &&& 31)) (n := 360) (N := 360) rfl (by omega) (by omega)
  obtain ⟨k5, hk5, ek5⟩ := lw_ex (v >>> ((18 : Int32) &&& 31)) (n := 91) (N := 91) rfl (by omega) (by omega)
  have hs : R_cStir (nI k1) (nI k2) (800 + nI k3) (nI k4) (nI k5) = 1 := by
    have e3 : (800 : Int32) + nI k3 = nI (800 + k3) := nadd rfl rfl
    unfold R_cStir
    rw [rin2 (x := nI k1) (lo := 0) (hi := 6) (a := 0) (b := 6) rfl rfl rfl (by omega) (by omega) (by omega), rin2 (x := nI k2) (lo := 0) (hi := 10000) (a := 0) (b := 10000) rfl rfl rfl (by omega) (by omega) (by omega), rin2 (x := 800 + nI k3) (lo := 0) (hi := 10000) (a := 0) (b := 10000) e3 rfl rfl (by omega) (by omega) (by omega), rin2 (x := nI k4) (lo := 0) (hi := 359) (a := 0) (b := 359) rfl rfl rfl (by omega) (by omega) (by omega), rin2 (x := nI k5) (lo := 0) (hi := 90) (a := 0) (b := 90) rfl rfl rfl (by omega) (by omega) (by omega)]
    rw [if_neg (by decide), if_neg (by decide), if_neg (by decide), if_neg (c_lef e3 rfl (by omega) (by omega) (by omega)), if_neg (by decide), if_neg (by decide)]
  refine r_aload_n (pc := 159) dL_does_159 rfl rfl ?_
  refine r_iload_n (pc := 160) dL_does_160 rfl rfl ?_
  refine r_iconst (v := 4) (pc := 161) dL_does_161 (by decide) ?_
  refine r_ishr (pc := 162) dL_does_162 ?_
  refine r_bipush (v := 7) (pc := 163) dL_does_163 (by decide) ?_
  refine q_callS (vs := [.int _, .int _]) (pc := 165) dL_does_165 rfl l_RL_14 rfl ⟨by decide, by decide⟩ rfl (Nat.le_of_ble_eq_true rfl) hl (Nat.le_of_ble_eq_true rfl) (s_L_low _ _ (by decide)) rfl ?_
  rw [ek1]
  refine r_iload_n (pc := 168) dL_does_168 rfl rfl ?_
  refine r_bipush (v := 7) (pc := 169) dL_does_169 (by decide) ?_
  refine r_ishr (pc := 171) dL_does_171 ?_
  refine r_sipush (v := 800) (pc := 172) dL_does_172 (by decide) ?_
  refine q_callS (vs := [.int _, .int _]) (pc := 175) dL_does_175 rfl l_RL_14 rfl ⟨by decide, by decide⟩ rfl (Nat.le_of_ble_eq_true rfl) hl (Nat.le_of_ble_eq_true rfl) (s_L_low _ _ (by decide)) rfl ?_
  rw [ek2]
  refine r_sipush (v := 800) (pc := 178) dL_does_178 (by decide) ?_
  refine r_iload_n (pc := 181) dL_does_181 rfl rfl ?_
  refine r_bipush (v := 17) (pc := 182) dL_does_182 (by decide) ?_
  refine r_ishr (pc := 184) dL_does_184 ?_
  refine r_sipush (v := 500) (pc := 185) dL_does_185 (by decide) ?_
  refine q_callS (vs := [.int _, .int _]) (pc := 188) dL_does_188 rfl l_RL_14 rfl ⟨by decide, by decide⟩ rfl (Nat.le_of_ble_eq_true rfl) hl (Nat.le_of_ble_eq_true rfl) (s_L_low _ _ (by decide)) rfl ?_
  rw [ek3]
  refine r_iadd (pc := 191) dL_does_191 ?_
  refine r_iload_n (pc := 192) dL_does_192 rfl rfl ?_
  refine r_bipush (v := 9) (pc := 193) dL_does_193 (by decide) ?_
  refine r_ishr (pc := 195) dL_does_195 ?_
  refine r_sipush (v := 360) (pc := 196) dL_does_196 (by decide) ?_
  refine q_callS (vs := [.int _, .int _]) (pc := 199) dL_does_199 rfl l_RL_14 rfl ⟨by decide, by decide⟩ rfl (Nat.le_of_ble_eq_true rfl) hl (Nat.le_of_ble_eq_true rfl) (s_L_low _ _ (by decide)) rfl ?_
  rw [ek4]
  refine r_iload_n (pc := 202) dL_does_202 rfl rfl ?_
  refine r_bipush (v := 18) (pc := 203) dL_does_203 (by decide) ?_
  refine r_ishr (pc := 205) dL_does_205 ?_
  refine r_bipush (v := 91) (pc := 206) dL_does_206 (by decide) ?_
  refine q_callS (vs := [.int _, .int _]) (pc := 208) dL_does_208 rfl l_RL_14 rfl ⟨by decide, by decide⟩ rfl (Nat.le_of_ble_eq_true rfl) hl (Nat.le_of_ble_eq_true rfl) (s_L_low _ _ (by decide)) rfl ?_
  rw [ek5]
  refine q_callV (ci := 8) (T := TX10) (N := 6) (vs := [.int _, .int _, .int _, .int _, .int _]) (pc := 211) dL_does_211 rfl l_RL_35 rfl ⟨by decide, by decide⟩ rfl (Nat.le_of_ble_eq_true rfl) hl EW_0 rfl (Nat.le_of_ble_eq_true rfl) (dd_setStirrer_yes hp hc hl _ _ _ _ _ hs) rfl ?_
  exact r_ireturn (S := []) (pc := 214) dL_does_214 rfl rfl ⟨_, _, _, rfl, rfl, (dp_setStirrer hA o x hs h4)⟩
theorem dz_set5 (hl : l.stackTraces = false) (hA : AG C W A) (o : OKA A) (x : XA m A) (hm : m ≤ 160) (hp : p < 4) (hc : c ≤ 4) (h4 : ¬ 11 < v &&& 15) : Runs om l M_L_does B 215 [some (.ref 0), some (.int v)] [] (EW g C W S V p c) (DPost g C W S V p c m v) := by
  obtain ⟨k, hk, ek⟩ := lw_ex (v >>> ((4 : Int32) &&& 31)) (n := 2) (N := 2) rfl (by omega) (by omega)
  obtain ⟨j, hj, ej⟩ := lw_ex (v >>> ((5 : Int32) &&& 31)) (n := 21) (N := 21) rfl (by omega) (by omega)
  have hs : ∀ Z : Nat → Int32, R_cSet Z (nI k) (nI j) = 1 := fun Z => by
    have h2 : k = 0 ∨ k = 1 := by omega
    rcases h2 with rfl | rfl
    · refine cset_ok rfl (by omega) ?_
      rw [show R_least (nI 0) = 0 from by decide, show R_most 0 = 100 from by decide]
      exact rin2 (a := 0) (b := 100) rfl rfl rfl (by omega) (by omega) (by omega)
    · refine cset_ok rfl (by omega) ?_
      rw [show R_least (nI 1) = 0 from by decide, show R_most 1 = 20 from by decide]
      exact rin2 (a := 0) (b := 20) rfl rfl rfl (by omega) (by omega) (by omega)
  refine r_aload_n (pc := 215) dL_does_215 rfl rfl ?_
  refine r_iload_n (pc := 216) dL_does_216 rfl rfl ?_
  refine r_iconst (v := 4) (pc := 217) dL_does_217 (by decide) ?_
  refine r_ishr (pc := 218) dL_does_218 ?_
  refine r_iconst (v := 2) (pc := 219) dL_does_219 (by decide) ?_
  refine q_callS (vs := [.int _, .int _]) (pc := 220) dL_does_220 rfl l_RL_14 rfl ⟨by decide, by decide⟩ rfl (Nat.le_of_ble_eq_true rfl) hl (Nat.le_of_ble_eq_true rfl) (s_L_low _ _ (by decide)) rfl ?_
  rw [ek]
  refine r_iload_n (pc := 223) dL_does_223 rfl rfl ?_
  refine r_iconst (v := 5) (pc := 224) dL_does_224 (by decide) ?_
  refine r_ishr (pc := 225) dL_does_225 ?_
  refine r_bipush (v := 21) (pc := 226) dL_does_226 (by decide) ?_
  refine q_callS (vs := [.int _, .int _]) (pc := 228) dL_does_228 rfl l_RL_14 rfl ⟨by decide, by decide⟩ rfl (Nat.le_of_ble_eq_true rfl) hl (Nat.le_of_ble_eq_true rfl) (s_L_low _ _ (by decide)) rfl ?_
  rw [ej]
  refine q_callV (ci := 8) (T := TX10) (N := 6) (vs := [.int _, .int _]) (pc := 231) dL_does_231 rfl l_RL_39 rfl ⟨by decide, by decide⟩ rfl (Nat.le_of_ble_eq_true rfl) hl EW_0 rfl (Nat.le_of_ble_eq_true rfl) (dd_set_yes hp hc hl _ _ (hs C) k rfl (by omega) (by omega)) rfl ?_
  exact r_ireturn (S := []) (pc := 234) dL_does_234 rfl rfl ⟨_, _, _, rfl, rfl, (dp_set hA o x rfl (by omega) (hs A) (nI_pos' (by omega)) h4)⟩
theorem dz_set6 (hl : l.stackTraces = false) (hA : AG C W A) (o : OKA A) (x : XA m A) (hm : m ≤ 160) (hp : p < 4) (hc : c ≤ 4) (h4 : ¬ 11 < v &&& 15) : Runs om l M_L_does B 235 [some (.ref 0), some (.int v)] [] (EW g C W S V p c) (DPost g C W S V p c m v) := by
  obtain ⟨k, hk, ek⟩ := lw_ex (v >>> ((4 : Int32) &&& 31)) (n := 2) (N := 2) rfl (by omega) (by omega)
  obtain ⟨j, hj, ej⟩ := lw_ex (v >>> ((5 : Int32) &&& 31)) (n := 2) (N := 2) rfl (by omega) (by omega)
  have e4 : (4 : Int32) + nI k = nI (4 + k) := nadd rfl rfl
  have hs : ∀ Z : Nat → Int32, R_cSet Z (4 + nI k) (nI j) = 1 := fun Z => by
    rw [e4]
    have h2 : k = 0 ∨ k = 1 := by omega
    rcases h2 with rfl | rfl
    · refine cset_ok rfl (by omega) ?_
      rw [show R_least (nI (4 + 0)) = 0 from by decide, show R_most (4 + 0) = 1 from by decide]
      exact rin2 (a := 0) (b := 1) rfl rfl rfl (by omega) (by omega) (by omega)
    · refine cset_ok rfl (by omega) ?_
      rw [show R_least (nI (4 + 1)) = 0 from by decide, show R_most (4 + 1) = 2 from by decide]
      exact rin2 (a := 0) (b := 2) rfl rfl rfl (by omega) (by omega) (by omega)
  refine r_aload_n (pc := 235) dL_does_235 rfl rfl ?_
  refine r_iconst (v := 4) (pc := 236) dL_does_236 (by decide) ?_
  refine r_iload_n (pc := 237) dL_does_237 rfl rfl ?_
  refine r_iconst (v := 4) (pc := 238) dL_does_238 (by decide) ?_
  refine r_ishr (pc := 239) dL_does_239 ?_
  refine r_iconst (v := 2) (pc := 240) dL_does_240 (by decide) ?_
  refine q_callS (vs := [.int _, .int _]) (pc := 241) dL_does_241 rfl l_RL_14 rfl ⟨by decide, by decide⟩ rfl (Nat.le_of_ble_eq_true rfl) hl (Nat.le_of_ble_eq_true rfl) (s_L_low _ _ (by decide)) rfl ?_
  rw [ek]
  refine r_iadd (pc := 244) dL_does_244 ?_
  refine r_iload_n (pc := 245) dL_does_245 rfl rfl ?_
  refine r_iconst (v := 5) (pc := 246) dL_does_246 (by decide) ?_
  refine r_ishr (pc := 247) dL_does_247 ?_
  refine r_iconst (v := 2) (pc := 248) dL_does_248 (by decide) ?_
  refine q_callS (vs := [.int _, .int _]) (pc := 249) dL_does_249 rfl l_RL_14 rfl ⟨by decide, by decide⟩ rfl (Nat.le_of_ble_eq_true rfl) hl (Nat.le_of_ble_eq_true rfl) (s_L_low _ _ (by decide)) rfl ?_
  rw [ej]
  refine q_callV (ci := 8) (T := TX10) (N := 6) (vs := [.int _, .int _]) (pc := 252) dL_does_252 rfl l_RL_39 rfl ⟨by decide, by decide⟩ rfl (Nat.le_of_ble_eq_true rfl) hl EW_0 rfl (Nat.le_of_ble_eq_true rfl) (dd_set_yes hp hc hl _ _ (hs C) (4 + k) e4 (by omega) (by omega)) rfl ?_
  exact r_ireturn (S := []) (pc := 255) dL_does_255 rfl rfl ⟨_, _, _, rfl, rfl, (dp_set hA o x e4 (by omega) (hs A) (nI_pos' (by omega)) h4)⟩
theorem dz_set7 (hl : l.stackTraces = false) (hA : AG C W A) (o : OKA A) (x : XA m A) (hm : m ≤ 160) (hp : p < 4) (hc : c ≤ 4) (h4 : ¬ 11 < v &&& 15) : Runs om l M_L_does B 256 [some (.ref 0), some (.int v)] [] (EW g C W S V p c) (DPost g C W S V p c m v) := by
  obtain ⟨k, hk, ek⟩ := lw_ex (v >>> ((4 : Int32) &&& 31)) (n := 3) (N := 3) rfl (by omega) (by omega)
  obtain ⟨j, hj, ej⟩ := lw_ex (v >>> ((6 : Int32) &&& 31)) (n := 9) (N := 9) rfl (by omega) (by omega)
  have e4 : (6 : Int32) + nI k = nI (6 + k) := nadd rfl rfl
  have ej1 : (1 : Int32) + nI j = nI (1 + j) := nadd rfl rfl
  obtain ⟨K, a31, hK9⟩ := o.1.K31
  have c31 : C 31 = nI K := (hA.1.lo (by omega)).trans a31
  have hs : ∀ Z : Nat → Int32, R_cSet Z (6 + nI k) (1 + nI j) = 1 := fun Z => by
    rw [e4, ej1]
    have h2 : k = 0 ∨ k = 1 ∨ k = 2 := by omega
    rcases h2 with rfl | rfl | rfl
    · refine cset_ok rfl (by omega) ?_
      rw [show R_least (nI (6 + 0)) = 1 from by decide, show R_most (6 + 0) = 9 from by decide]
      exact rin2 (a := 1) (b := 9) rfl rfl rfl (by omega) (by omega) (by omega)
    · refine cset_ok rfl (by omega) ?_
      rw [show R_least (nI (6 + 1)) = 1 from by decide, show R_most (6 + 1) = 20 from by decide]
      exact rin2 (a := 1) (b := 20) rfl rfl rfl (by omega) (by omega) (by omega)
    · refine cset_ok rfl (by omega) ?_
      rw [show R_least (nI (6 + 2)) = 1 from by decide, show R_most (6 + 2) = 99 from by decide]
      exact rin2 (a := 1) (b := 99) rfl rfl rfl (by omega) (by omega) (by omega)
  refine r_aload_n (pc := 256) dL_does_256 rfl rfl ?_
  refine r_bipush (v := 6) (pc := 257) dL_does_257 (by decide) ?_
  refine r_iload_n (pc := 259) dL_does_259 rfl rfl ?_
  refine r_iconst (v := 4) (pc := 260) dL_does_260 (by decide) ?_
  refine r_ishr (pc := 261) dL_does_261 ?_
  refine r_iconst (v := 3) (pc := 262) dL_does_262 (by decide) ?_
  refine q_callS (vs := [.int _, .int _]) (pc := 263) dL_does_263 rfl l_RL_14 rfl ⟨by decide, by decide⟩ rfl (Nat.le_of_ble_eq_true rfl) hl (Nat.le_of_ble_eq_true rfl) (s_L_low _ _ (by decide)) rfl ?_
  rw [ek]
  refine r_iadd (pc := 266) dL_does_266 ?_
  refine r_iconst (v := 1) (pc := 267) dL_does_267 (by decide) ?_
  refine r_iload_n (pc := 268) dL_does_268 rfl rfl ?_
  refine r_bipush (v := 6) (pc := 269) dL_does_269 (by decide) ?_
  refine r_ishr (pc := 271) dL_does_271 ?_
  refine r_bipush (v := 9) (pc := 272) dL_does_272 (by decide) ?_
  refine q_callS (vs := [.int _, .int _]) (pc := 274) dL_does_274 rfl l_RL_14 rfl ⟨by decide, by decide⟩ rfl (Nat.le_of_ble_eq_true rfl) hl (Nat.le_of_ble_eq_true rfl) (s_L_low _ _ (by decide)) rfl ?_
  rw [ej]
  refine r_iadd (pc := 277) dL_does_277 ?_
  by_cases k0 : k = 0
  · have e6 : (6 : Int32) + nI k = nI 6 := by rw [e4, k0]
    refine q_callV (ci := 8) (T := TX10) (N := 6) (vs := [.int _, .int _]) (pc := 278) dL_does_278 rfl l_RL_39 rfl ⟨by decide, by decide⟩ rfl (Nat.le_of_ble_eq_true rfl) hl EW_0 rfl (Nat.le_of_ble_eq_true rfl) (dd_set_yes6 hp hc hl _ _ (hs C) e6 K (1 + j) c31 hK9 ej1 (by omega)) rfl ?_
    exact r_ireturn (S := []) (pc := 281) dL_does_281 rfl rfl ⟨_, _, _, rfl, rfl, (dp_set6 hA o x e6 a31 hK9 ej1 (by omega) (hs A) h4)⟩
  · refine q_callV (ci := 8) (T := TX10) (N := 6) (vs := [.int _, .int _]) (pc := 278) dL_does_278 rfl l_RL_39 rfl ⟨by decide, by decide⟩ rfl (Nat.le_of_ble_eq_true rfl) hl EW_0 rfl (Nat.le_of_ble_eq_true rfl) (dd_set_yes hp hc hl _ _ (hs C) (6 + k) e4 (by omega) (by omega)) rfl ?_
    exact r_ireturn (S := []) (pc := 281) dL_does_281 rfl rfl ⟨_, _, _, rfl, rfl, (dp_set hA o x e4 (by omega) (hs A) (by rw [ej1]; exact nI_pos' (by omega)) h4)⟩
theorem dz_mask (hl : l.stackTraces = false) (hA : AG C W A) (o : OKA A) (x : XA m A) (hm : m ≤ 160) (hp : p < 4) (hc : c ≤ 4) (h4 : ¬ 11 < v &&& 15) : Runs om l M_L_does B 282 [some (.ref 0), some (.int v)] [] (EW g C W S V p c) (DPost g C W S V p c m v) := by
  obtain ⟨k, hk, ek⟩ := lw_ex (v >>> ((4 : Int32) &&& 31)) (n := 3000) (N := 3000) rfl (by omega) (by omega)
  refine r_aload_n (pc := 282) dL_does_282 rfl rfl ?_
  refine r_iload_n (pc := 283) dL_does_283 rfl rfl ?_
  refine r_iconst (v := 4) (pc := 284) dL_does_284 (by decide) ?_
  refine r_ishr (pc := 285) dL_does_285 ?_
  refine r_sipush (v := 3000) (pc := 286) dL_does_286 (by decide) ?_
  refine q_callS (vs := [.int _, .int _]) (pc := 289) dL_does_289 rfl l_RL_14 rfl ⟨by decide, by decide⟩ rfl (Nat.le_of_ble_eq_true rfl) hl (Nat.le_of_ble_eq_true rfl) (s_L_low _ _ (by decide)) rfl ?_
  rw [ek]
  refine r_iload_n (pc := 292) dL_does_292 rfl rfl ?_
  refine r_bipush (v := 20) (pc := 293) dL_does_293 (by decide) ?_
  refine r_ishr (pc := 295) dL_does_295 ?_
  refine r_iconst (v := 1) (pc := 296) dL_does_296 (by decide) ?_
  refine r_iand (pc := 297) dL_does_297 ?_
  refine r_iconst (v := 1) (pc := 298) dL_does_298 (by decide) ?_
  refine r_icmp_ne 306 (pc := 299) dL_does_299 (by decide) (fun cb => ?_) (fun cb => ?_)
  · refine r_iconst (v := 0) (pc := 306) dL_does_306 (by decide) ?_
    refine q_callV (ci := 8) (T := TX10) (N := 6) (vs := [.int _, .int _]) (pc := 307) dL_does_307 rfl l_RL_42 rfl ⟨by decide, by decide⟩ rfl (Nat.le_of_ble_eq_true rfl) hl EW_0 rfl (Nat.le_of_ble_eq_true rfl) (dd_mask_yes hp hc hl _ _ (rin2 (a := 0) (b := 10000) rfl rfl rfl (by omega) (by omega) (by omega)) k rfl (by omega)) rfl ?_
    exact r_ireturn (S := []) (pc := 310) dL_does_310 rfl rfl ⟨_, _, _, rfl, rfl, (dp_mask hA o x (by omega) (Or.inl rfl) h4)⟩
  · refine r_iconst (v := 1) (pc := 302) dL_does_302 (by decide) ?_
    refine r_goto 307 (pc := 303) dL_does_303 (by decide) ?_
    refine q_callV (ci := 8) (T := TX10) (N := 6) (vs := [.int _, .int _]) (pc := 307) dL_does_307 rfl l_RL_42 rfl ⟨by decide, by decide⟩ rfl (Nat.le_of_ble_eq_true rfl) hl EW_0 rfl (Nat.le_of_ble_eq_true rfl) (dd_mask_yes hp hc hl _ _ (rin2 (a := 0) (b := 10000) rfl rfl rfl (by omega) (by omega) (by omega)) k rfl (by omega)) rfl ?_
    exact r_ireturn (S := []) (pc := 310) dL_does_310 rfl rfl ⟨_, _, _, rfl, rfl, (dp_mask hA o x (by omega) (Or.inr rfl) h4)⟩
theorem dz_learn (hl : l.stackTraces = false) (hA : AG C W A) (o : OKA A) (x : XA m A) (hm : m ≤ 160) (hp : p < 4) (hc : c ≤ 4) (h4 : ¬ 11 < v &&& 15) : Runs om l M_L_does B 311 [some (.ref 0), some (.int v)] [] (EW g C W S V p c) (DPost g C W S V p c m v) := by
  obtain ⟨k, hk, ek⟩ := lw_ex (v >>> ((4 : Int32) &&& 31)) (n := 5) (N := 5) rfl (by omega) (by omega)
  refine r_aload_n (pc := 311) dL_does_311 rfl rfl ?_
  refine r_iconst (v := 1) (pc := 312) dL_does_312 (by decide) ?_
  refine r_iload_n (pc := 313) dL_does_313 rfl rfl ?_
  refine r_iconst (v := 4) (pc := 314) dL_does_314 (by decide) ?_
  refine r_ishr (pc := 315) dL_does_315 ?_
  refine r_iconst (v := 5) (pc := 316) dL_does_316 (by decide) ?_
  refine q_callS (vs := [.int _, .int _]) (pc := 317) dL_does_317 rfl l_RL_14 rfl ⟨by decide, by decide⟩ rfl (Nat.le_of_ble_eq_true rfl) hl (Nat.le_of_ble_eq_true rfl) (s_L_low _ _ (by decide)) rfl ?_
  rw [ek]
  refine r_iadd (pc := 320) dL_does_320 ?_
  refine q_callV (ci := 8) (T := TX10) (N := 6) (vs := [.int _]) (pc := 321) dL_does_321 rfl l_RL_46 rfl ⟨by decide, by decide⟩ rfl (Nat.le_of_ble_eq_true rfl) hl EW_0 rfl (Nat.le_of_ble_eq_true rfl) (dd_learn_yes hp hc hl _ (rin2 (a := 1) (b := 50) (show (1 : Int32) + nI k = nI (1 + k) from nadd rfl rfl) rfl rfl (by omega) (by omega) (by omega)) (1 + k) (nadd rfl rfl) (by omega) hA o.1 o.2.1) rfl ?_
  exact r_ireturn (S := []) (pc := 324) dL_does_324 rfl rfl ⟨_, _, _, rfl, rfl, (dp_learn hA o x h4)⟩
theorem dz_forget (hl : l.stackTraces = false) (hA : AG C W A) (o : OKA A) (x : XA m A) (hm : m ≤ 160) (hp : p < 4) (hc : c ≤ 4) (h4 : ¬ 11 < v &&& 15) : Runs om l M_L_does B 325 [some (.ref 0), some (.int v)] [] (EW g C W S V p c) (DPost g C W S V p c m v) := by
  refine r_aload_n (pc := 325) dL_does_325 rfl rfl ?_
  refine q_callV (ci := 8) (T := TX10) (N := 6) (vs := []) (pc := 326) dL_does_326 rfl l_RL_49 rfl ⟨by decide, by decide⟩ rfl (Nat.le_of_ble_eq_true rfl) hl EW_0 rfl (Nat.le_of_ble_eq_true rfl) (dd_forget hp hc hl) rfl ?_
  exact r_ireturn (S := []) (pc := 329) dL_does_329 rfl rfl ⟨_, _, _, rfl, rfl, (dp_forget hA o x h4)⟩
theorem dz_begin (hl : l.stackTraces = false) (hA : AG C W A) (o : OKA A) (x : XA m A) (hm : m ≤ 160) (hp : p < 4) (hc : c ≤ 4) (h4 : ¬ 11 < v &&& 15) : Runs om l M_L_does B 330 [some (.ref 0), some (.int v)] [] (EW g C W S V p c) (DPost g C W S V p c m v) := by
  obtain ⟨k, hk, ek⟩ := lw_ex (v >>> ((7 : Int32) &&& 31)) (n := 5000) (N := 5000) rfl (by omega) (by omega)
  obtain ⟨j, hj, ej⟩ := lw_ex (v >>> ((7 : Int32) &&& 31)) (n := 100000) (N := 100000) rfl (by omega) (by omega)
  have h5 : R_in (500 + nI k) 500 10000 = 1 := rin2 (a := 500) (b := 10000) (show (500 : Int32) + nI k = nI (500 + k) from nadd rfl rfl) rfl rfl (by omega) (by omega) (by omega)
  have hj0 : R_nn (nI j) = 1 := if_neg (nI_pos (by omega))
  refine r_iload_n (pc := 330) dL_does_330 rfl rfl ?_
  refine r_iconst (v := 4) (pc := 331) dL_does_331 (by decide) ?_
  refine r_ishr (pc := 332) dL_does_332 ?_
  refine r_bipush (v := 7) (pc := 333) dL_does_333 (by decide) ?_
  refine r_iand (pc := 335) dL_does_335 ?_
  refine r_if_ne 360 (pc := 336) dL_does_336 (by decide) (fun c336 => ?_) (fun c336 => ?_)
  · refine r_aload_n (pc := 360) dL_does_360 rfl rfl ?_
    refine r_iload_n (pc := 361) dL_does_361 rfl rfl ?_
    refine r_bipush (v := 7) (pc := 362) dL_does_362 (by decide) ?_
    refine r_ishr (pc := 364) dL_does_364 ?_
    refine r_ldc (pc := 365) dL_does_365 rfl k_RL_56 ?_
    refine q_callS (vs := [.int _, .int _]) (pc := 367) dL_does_367 rfl l_RL_14 rfl ⟨by decide, by decide⟩ rfl (Nat.le_of_ble_eq_true rfl) hl (Nat.le_of_ble_eq_true rfl) (s_L_low _ _ (by decide)) rfl ?_
    rw [ej]
    refine q_callV (ci := 8) (T := TX10) (N := 6) (vs := [.int _]) (pc := 370) dL_does_370 rfl l_RL_57 rfl ⟨by decide, by decide⟩ rfl (Nat.le_of_ble_eq_true rfl) hl EW_0 rfl (Nat.le_of_ble_eq_true rfl) (dd_setS_yes hp hc hl _ hj0) rfl ?_
    exact r_ireturn (S := []) (pc := 373) dL_does_373 rfl rfl ⟨_, _, _, rfl, rfl, (dp_setS hA o x (nI_pos' (by omega)) h4)⟩
  · refine r_aload_n (pc := 339) dL_does_339 rfl rfl ?_
    refine r_sipush (v := 500) (pc := 340) dL_does_340 (by decide) ?_
    refine r_iload_n (pc := 343) dL_does_343 rfl rfl ?_
    refine r_bipush (v := 7) (pc := 344) dL_does_344 (by decide) ?_
    refine r_ishr (pc := 346) dL_does_346 ?_
    refine r_sipush (v := 5000) (pc := 347) dL_does_347 (by decide) ?_
    refine q_callS (vs := [.int _, .int _]) (pc := 350) dL_does_350 rfl l_RL_14 rfl ⟨by decide, by decide⟩ rfl (Nat.le_of_ble_eq_true rfl) hl (Nat.le_of_ble_eq_true rfl) (s_L_low _ _ (by decide)) rfl ?_
    rw [ek]
    refine r_iadd (pc := 353) dL_does_353 ?_
    refine q_callV (ci := 8) (T := TX10) (N := 6) (vs := [.int _]) (pc := 354) dL_does_354 rfl l_RL_53 rfl ⟨by decide, by decide⟩ rfl (Nat.le_of_ble_eq_true rfl) hl EW_0 rfl (Nat.le_of_ble_eq_true rfl) (dd_begin_yes hp hc hl _ h5) rfl ?_
    refine r_goto 373 (pc := 357) dL_does_357 (by decide) ?_
    exact r_ireturn (S := []) (pc := 373) dL_does_373 rfl rfl ⟨_, _, _, rfl, rfl, (dp_begin hm hA o x h5 h4)⟩
theorem dz_shoot (hl : l.stackTraces = false) (hA : AG C W A) (o : OKA A) (x : XA m A) (hm : m ≤ 160) (hp : p < 4) (hc : c ≤ 4) : Runs om l M_L_does B 374 [some (.ref 0), some (.int v)] [] (EW g C W S V p c) (DPost g C W S V p c m v) := by
  obtain ⟨k, hk, ek⟩ := lw_ex (v >>> ((4 : Int32) &&& 31)) (n := 4) (N := 4) rfl (by omega) (by omega)
  refine r_aload_n (pc := 374) dL_does_374 rfl rfl ?_
  refine r_iconst (v := 1) (pc := 375) dL_does_375 (by decide) ?_
  refine r_iload_n (pc := 376) dL_does_376 rfl rfl ?_
  refine r_iconst (v := 4) (pc := 377) dL_does_377 (by decide) ?_
  refine r_ishr (pc := 378) dL_does_378 ?_
  refine r_iconst (v := 4) (pc := 379) dL_does_379 (by decide) ?_
  refine q_callS (vs := [.int _, .int _]) (pc := 380) dL_does_380 rfl l_RL_14 rfl ⟨by decide, by decide⟩ rfl (Nat.le_of_ble_eq_true rfl) hl (Nat.le_of_ble_eq_true rfl) (s_L_low _ _ (by decide)) rfl ?_
  rw [ek]
  refine r_iadd (pc := 383) dL_does_383 ?_
  refine q_callV (ci := 8) (T := TX10) (N := 6) (vs := [.int _]) (pc := 384) dL_does_384 rfl l_RL_60 rfl ⟨by decide, by decide⟩ rfl (Nat.le_of_ble_eq_true rfl) hl EW_0 rfl (Nat.le_of_ble_eq_true rfl) (dd_shoot_yes hp hc hl _ (rin2 (a := 1) (b := 500) (show (1 : Int32) + nI k = nI (1 + k) from nadd rfl rfl) rfl rfl (by omega) (by omega) (by omega)) (1 + k) (nadd rfl rfl) (by omega) hA o.1 o.2.1) rfl ?_
  exact r_ireturn (S := []) (pc := 387) dL_does_387 rfl rfl ⟨_, _, _, rfl, rfl, (dp_shoot hA o x ek rfl hk)⟩
theorem s_L_does (hl : l.stackTraces = false) (hA : AG C W A) (o : OKA A) (x : XA m A) (hm : m ≤ 160) (hp : p < 4) (hc : c ≤ 4) : Runs om l M_L_does B 0 (entL 2 [.ref 0, .int v]) [] (EW g C W S V p c) (DPost g C W S V p c m v) := by
  show Runs om l M_L_does B 0 [some (.ref 0), some (.int v)] [] _ _
  refine r_iload_n (pc := 0) dL_does_0 rfl rfl ?_
  refine r_bipush (v := 15) (pc := 1) dL_does_1 rfl ?_
  refine r_iand (pc := 3) dL_does_3 ?_
  obtain ⟨j, hj, ej⟩ := pk_andE v (m := 15) 4 (by decide +kernel)
  by_cases h12 : j < 12
  · have h4 : ¬ 11 < v &&& 15 := by
      rw [ej]
      exact c_ltf (x := 11) (a := 11) rfl rfl (by omega) (by omega) (by omega)
    have hc12 : j = 0 ∨ j = 1 ∨ j = 2 ∨ j = 3 ∨ j = 4 ∨ j = 5 ∨ j = 6 ∨ j = 7 ∨ j = 8 ∨ j = 9 ∨ j = 10 ∨ j = 11 := by omega
    rcases hc12 with rfl | rfl | rfl | rfl | rfl | rfl | rfl | rfl | rfl | rfl | rfl | rfl
    · have z := dz_setLevel (om := om) (B := B) (g := g) (S := S) (V := V) hl hA o x hm hp hc h4
      rw [ej]
      exact r_tableIn 68 (pc := 4) dL_does_4 (by decide) (by decide) rfl (by decide) z
    · have z := dz_setFlow (om := om) (B := B) (g := g) (S := S) (V := V) hl hA o x hm hp hc h4 ej
      rw [ej]
      exact r_tableIn 86 (pc := 4) dL_does_4 (by decide) (by decide) rfl (by decide) z
    · have z := dz_setFoam (om := om) (B := B) (g := g) (S := S) (V := V) hl hA o x hm hp hc h4
      rw [ej]
      exact r_tableIn 102 (pc := 4) dL_does_4 (by decide) (by decide) rfl (by decide) z
    · have z := dz_addThing (om := om) (B := B) (g := g) (S := S) (V := V) hl hA o x hm hp hc h4
      rw [ej]
      exact r_tableIn 116 (pc := 4) dL_does_4 (by decide) (by decide) rfl (by decide) z
    · have z := dz_setStirrer (om := om) (B := B) (g := g) (S := S) (V := V) hl hA o x hm hp hc h4
      rw [ej]
      exact r_tableIn 159 (pc := 4) dL_does_4 (by decide) (by decide) rfl (by decide) z
    · have z := dz_set5 (om := om) (B := B) (g := g) (S := S) (V := V) hl hA o x hm hp hc h4
      rw [ej]
      exact r_tableIn 215 (pc := 4) dL_does_4 (by decide) (by decide) rfl (by decide) z
    · have z := dz_set6 (om := om) (B := B) (g := g) (S := S) (V := V) hl hA o x hm hp hc h4
      rw [ej]
      exact r_tableIn 235 (pc := 4) dL_does_4 (by decide) (by decide) rfl (by decide) z
    · have z := dz_set7 (om := om) (B := B) (g := g) (S := S) (V := V) hl hA o x hm hp hc h4
      rw [ej]
      exact r_tableIn 256 (pc := 4) dL_does_4 (by decide) (by decide) rfl (by decide) z
    · have z := dz_mask (om := om) (B := B) (g := g) (S := S) (V := V) hl hA o x hm hp hc h4
      rw [ej]
      exact r_tableIn 282 (pc := 4) dL_does_4 (by decide) (by decide) rfl (by decide) z
    · have z := dz_learn (om := om) (B := B) (g := g) (S := S) (V := V) hl hA o x hm hp hc h4
      rw [ej]
      exact r_tableIn 311 (pc := 4) dL_does_4 (by decide) (by decide) rfl (by decide) z
    · have z := dz_forget (om := om) (B := B) (g := g) (S := S) (V := V) hl hA o x hm hp hc h4
      rw [ej]
      exact r_tableIn 325 (pc := 4) dL_does_4 (by decide) (by decide) rfl (by decide) z
    · have z := dz_begin (om := om) (B := B) (g := g) (S := S) (V := V) hl hA o x hm hp hc h4
      rw [ej]
      exact r_tableIn 330 (pc := 4) dL_does_4 (by decide) (by decide) rfl (by decide) z
  · have z := dz_shoot (om := om) (B := B) (g := g) (S := S) (V := V) (v := v) hl hA o x hm hp hc
    rw [ej]
    have e1 : (nI j).toInt = (j : Int) := nI_toInt (by omega)
    exact r_tableOut 374 (pc := 4) dL_does_4 (Or.inr (by rw [e1]; omega)) (by decide) z
end LD
