/-! the class: commands read -/
def K_rn (t : Nat → Int32) (L : Nat) : Nat → Nat → Nat → (Nat → Int32) → Int32 × Nat × (Nat → Int32)
  | 0, _, p, nu => (1, p, nu)
  | m + 1, k, p, nu => if K_rn1 t L p = 0 then (0, K_rnp t L p, K_rnn t L p k nu) else K_rn t L m (k + 1) (K_rnp t L p) (K_rnn t L p k nu)
def K_fin (t : Nat → Int32) (L : Nat) (r : Int32 × Nat × (Nat → Int32)) : Int32 × Nat × (Nat → Int32) := if r.1 = 0 then r else if K_b t L (R_n0 t L r.2.1) = 59 then (1, R_n0 t L r.2.1 + 1, r.2.2) else (0, R_n0 t L r.2.1, r.2.2)
theorem fin_1 {t : Nat → Int32} {L k p : Nat} {nu : Nat → Int32} (h : K_b t L (R_n0 t L p) = 59) : K_fin t L (K_rn t L 0 k p nu) = (1, R_n0 t L p + 1, nu) := by
  rw [K_rn, K_fin]
  dsimp only
  rw [if_neg (by decide), if_pos h]
theorem fin_0 {t : Nat → Int32} {L k p : Nat} {nu : Nat → Int32} (h : ¬ K_b t L (R_n0 t L p) = 59) : K_fin t L (K_rn t L 0 k p nu) = (0, R_n0 t L p, nu) := by
  rw [K_rn, K_fin]
  dsimp only
  rw [if_neg (by decide), if_neg h]
theorem fin_r {t : Nat → Int32} {L : Nat} {q : Nat} {nu : Nat → Int32} : K_fin t L (0, q, nu) = (0, q, nu) := if_pos rfl
theorem rnp_le {t : Nat → Int32} {L p : Nat} (h : p ≤ L) : p ≤ K_rnp t L p ∧ K_rnp t L p ≤ L := by
  unfold K_rnp
  split
  · exact kn0_le h
  · exact n1_le h
def K_nm (i : Nat) : Nat := cl (c_num.getD i 0)
theorem nm_ok : ∀ i, i < 9 → c_num.getD i 0 = nI (K_nm i) ∧ K_nm i ≤ 5 ∧ 1 ≤ K_nm i := by decide +kernel
def K_cmd (t : Nat → Int32) (L p : Nat) (nu : Nat → Int32) : Int32 × Nat × (Nat → Int32) := if K_w t L p = 9 then (0, p, nu) else K_fin t L (K_rn t L (K_nm (K_w t L p)) 0 (R_w1 t L p).1 nu)
theorem K_w_le (t : Nat → Int32) (L p : Nat) : K_w t L p ≤ 9 := by
  have := wi_le (t := t) (p := p) (q := (R_w1 t L p).1) 9 0
  unfold K_w
  omega
theorem lp_X1_readCommand {om : OM} {l : Launch} {B : Nat × Nat} {H : Hp} {ln po : Int32} {wd : Value} {t nu : Nat → Int32} (hl : l.stackTraces = false) (Ln : Nat) (hln : ln = nI Ln) (hL : Ln ≤ 150) (i : Nat) (hi : i < 9) : ∀ (n9 k p : Nat) (nu : Nat → Int32), k + n9 = K_nm i → p ≤ Ln → Runs om l M_X1_readCommand B 18 [some (.ref 40), some (.int (nI k))] [] (cH H ln (nI p) (.ref (100010 + i)) t nu) (Det (some (.int (K_fin t Ln (K_rn t Ln n9 k p nu)).1)) (cH H ln (nI (K_fin t Ln (K_rn t Ln n9 k p nu)).2.1) (.ref (100010 + i)) t ((K_fin t Ln (K_rn t Ln n9 k p nu)).2.2))) := by
  obtain ⟨hn1, hn2, hn3⟩ := nm_ok i hi
  intro n9
  induction n9 with
  | zero =>
    intro k p nu hk hpL
    have hq := kn0_le (t := t) hpL
    refine r_iload_n (pc := 18) dX1_readCommand_18 rfl rfl ?_
    refine r_aload_n (pc := 19) dX1_readCommand_19 rfl rfl ?_
    refine tx_get (pc := 20) dX1_readCommand_20 rfl f_RX1_22 rfl ?_
    refine r_getfieldC (pc := 23) dX1_readCommand_23 rfl (m_num (i := i) (by omega)) g_RX1_46 ?_
    refine r_icmp_ge 45 (pc := 26) dX1_readCommand_26 (by decide) (fun c26 => ?_) (fun c26 => absurd (c_get rfl hn1 (a := k) (b := K_nm i) (by omega) (by omega) (by omega)) c26)
    refine r_aload_n (pc := 45) dX1_readCommand_45 rfl rfl ?_
    refine q_callV (ci := 0) (T := TX1) (N := 5) (vs := []) (pc := 46) dX1_readCommand_46 rfl l_RX1_40 rfl ⟨by decide, by decide⟩ rfl (Nat.le_of_ble_eq_true rfl) hl cH_40 rfl (Nat.le_of_ble_eq_true rfl) (s_X1_skipSpaces hl Ln hln hL p rfl hpL) cH_22 ?_
    refine r_aload_n (pc := 49) dX1_readCommand_49 rfl rfl ?_
    refine r_aload_n (pc := 50) dX1_readCommand_50 rfl rfl ?_
    refine tx_get (pc := 51) dX1_readCommand_51 rfl f_RX1_19 rfl ?_
    refine q_callV (ci := 0) (T := TX1) (N := 5) (vs := [.int _]) (pc := 54) dX1_readCommand_54 rfl l_RX1_54 rfl ⟨by decide, by decide⟩ rfl (Nat.le_of_ble_eq_true rfl) hl cH_40 rfl (Nat.le_of_ble_eq_true rfl) (s_X1_byteAt Ln hln hL (R_n0 t Ln p) _ rfl (by omega)) cH_22 ?_
    refine r_bipush (v := 59) (pc := 57) dX1_readCommand_57 (by decide) ?_
    refine r_icmp_eq 64 (pc := 59) dX1_readCommand_59 (by decide) (fun c59 => ?_) (fun c59 => ?_)
    · refine r_aload_n (pc := 64) dX1_readCommand_64 rfl rfl ?_
      refine r_dup (pc := 65) dX1_readCommand_65 rfl ?_
      refine tx_get (pc := 66) dX1_readCommand_66 rfl f_RX1_19 rfl ?_
      refine r_iconst (v := 1) (pc := 69) dX1_readCommand_69 (by decide) ?_
      refine r_iadd (pc := 70) dX1_readCommand_70 ?_
      refine tx_put _ _ _ (pc := 71) dX1_readCommand_71 rfl f_RX1_19 (fun _ => rfl) (fun _ => rfl) (by decide) rfl ?_
      refine r_iconst (v := 1) (pc := 74) dX1_readCommand_74 (by decide) ?_
      exact r_ireturn (S := []) (pc := 75) dX1_readCommand_75 rfl rfl ⟨by first | rw [fin_1 c59] | rw [fin_0 c59], by first | rw [fin_1 c59, nI_succ] | rw [fin_0 c59]⟩
    · refine r_iconst (v := 0) (pc := 62) dX1_readCommand_62 (by decide) ?_
      exact r_ireturn (S := []) (pc := 63) dX1_readCommand_63 rfl rfl ⟨by first | rw [fin_1 c59] | rw [fin_0 c59], by first | rw [fin_1 c59, nI_succ] | rw [fin_0 c59]⟩
  | succ n9 ih =>
    intro k p nu hk hpL
    have hr := rnp_le (t := t) hpL
    refine r_iload_n (pc := 18) dX1_readCommand_18 rfl rfl ?_
    refine r_aload_n (pc := 19) dX1_readCommand_19 rfl rfl ?_
    refine tx_get (pc := 20) dX1_readCommand_20 rfl f_RX1_22 rfl ?_
    refine r_getfieldC (pc := 23) dX1_readCommand_23 rfl (m_num (i := i) (by omega)) g_RX1_46 ?_
    refine r_icmp_ge 45 (pc := 26) dX1_readCommand_26 (by decide) (fun c26 => absurd c26 (c_gef rfl hn1 (a := k) (b := K_nm i) (by omega) (by omega) (by omega))) (fun c26 => ?_)
    refine r_aload_n (pc := 29) dX1_readCommand_29 rfl rfl ?_
    refine r_iload_n (pc := 30) dX1_readCommand_30 rfl rfl ?_
    refine q_callV (ci := 0) (T := TX1) (N := 5) (vs := [.int _]) (pc := 31) dX1_readCommand_31 rfl l_RX1_50 rfl ⟨by decide, by decide⟩ rfl (Nat.le_of_ble_eq_true rfl) hl cH_40 rfl (Nat.le_of_ble_eq_true rfl) (s_X1_readNumber hl Ln hln hL p rfl hpL k _ rfl (by omega)) cH_22 ?_
    refine r_if_ne 39 (pc := 34) dX1_readCommand_34 (by decide) (fun c34 => ?_) (fun c34 => ?_)
    · refine q_iinc (nI (k + 1)) [_, _] (pc := 39) dX1_readCommand_39 rfl (by decide) (ninc 1 rfl) rfl ?_
      refine r_goto 18 (pc := 42) dX1_readCommand_42 (by decide) ?_
      rw [show K_rn t Ln (n9 + 1) k p nu = K_rn t Ln n9 (k + 1) (K_rnp t Ln p) (K_rnn t Ln p k nu) by rw [K_rn, if_neg c34]]
      exact ih (k + 1) _ _ (by omega) hr.2
    · refine r_iconst (v := 0) (pc := 37) dX1_readCommand_37 (by decide) ?_
      exact r_ireturn (S := []) (pc := 38) dX1_readCommand_38 rfl rfl ⟨by rw [show K_fin t Ln (K_rn t Ln (n9 + 1) k p nu) = (0, K_rnp t Ln p, K_rnn t Ln p k nu) by rw [K_rn, if_pos c34, fin_r]], by rw [show K_fin t Ln (K_rn t Ln (n9 + 1) k p nu) = (0, K_rnp t Ln p, K_rnn t Ln p k nu) by rw [K_rn, if_pos c34, fin_r]]⟩
theorem s_X1_readCommand_no {om : OM} {l : Launch} {B : Nat × Nat} {H : Hp} {ln po : Int32} {wd : Value} {t nu : Nat → Int32} (hl : l.stackTraces = false) (Ln : Nat) (hln : ln = nI Ln) (hL : Ln ≤ 150) (p : Nat) (hp : po = nI p) (hpL : p ≤ Ln) (hw : K_w t Ln p = 9) : Runs om l M_X1_readCommand B 0 (entL 2 [.ref 40]) [] (cH H ln po wd t nu) (Det (some (.int 0)) (cH H ln (nI p) (.null) t nu)) := by
  show Runs om l M_X1_readCommand B 0 [some (.ref 40), none] [] _ _
  refine r_aload_n (pc := 0) dX1_readCommand_0 rfl rfl ?_
  refine q_callV (ci := 0) (T := TX1) (N := 5) (vs := []) (pc := 1) dX1_readCommand_1 rfl l_RX1_43 rfl ⟨by decide, by decide⟩ rfl (Nat.le_of_ble_eq_true rfl) hl cH_40 rfl (Nat.le_of_ble_eq_true rfl) (s_X1_readWord_no hl Ln hln hL p hp hpL hw) cH_22 ?_
  refine r_if_eq 14 (pc := 4) dX1_readCommand_4 (by decide) (fun c4 => ?_) (fun c4 => absurd (c_eqt rfl rfl (a := 0) (b := 0) (by omega) (by omega) (by omega)) c4)
  refine r_iconst (v := 0) (pc := 14) dX1_readCommand_14 (by decide) ?_
  exact r_ireturn (S := []) (pc := 15) dX1_readCommand_15 rfl rfl ⟨rfl, rfl⟩
theorem s_X1_readCommand_yes {om : OM} {l : Launch} {B : Nat × Nat} {H : Hp} {ln po : Int32} {wd : Value} {t nu : Nat → Int32} (hl : l.stackTraces = false) (Ln : Nat) (hln : ln = nI Ln) (hL : Ln ≤ 150) (p : Nat) (hp : po = nI p) (hpL : p ≤ Ln) (i : Nat) (hi : i < 9) (hw : K_w t Ln p = i) : Runs om l M_X1_readCommand B 0 (entL 2 [.ref 40]) [] (cH H ln po wd t nu) (Det (some (.int (K_fin t Ln (K_rn t Ln (K_nm i) 0 (R_w1 t Ln p).1 nu)).1)) (cH H ln (nI (K_fin t Ln (K_rn t Ln (K_nm i) 0 (R_w1 t Ln p).1 nu)).2.1) (.ref (100010 + i)) t ((K_fin t Ln (K_rn t Ln (K_nm i) 0 (R_w1 t Ln p).1 nu)).2.2))) := by
  show Runs om l M_X1_readCommand B 0 [some (.ref 40), none] [] _ _
  refine r_aload_n (pc := 0) dX1_readCommand_0 rfl rfl ?_
  refine q_callV (ci := 0) (T := TX1) (N := 5) (vs := []) (pc := 1) dX1_readCommand_1 rfl l_RX1_43 rfl ⟨by decide, by decide⟩ rfl (Nat.le_of_ble_eq_true rfl) hl cH_40 rfl (Nat.le_of_ble_eq_true rfl) (s_X1_readWord_yes hl Ln hln hL p hp hpL i hi hw) cH_22 ?_
  refine r_if_eq 14 (pc := 4) dX1_readCommand_4 (by decide) (fun c4 => absurd c4 (c_eqf rfl rfl (a := 1) (b := 0) (by omega) (by omega) (by omega))) (fun c4 => ?_)
  refine r_aload_n (pc := 7) dX1_readCommand_7 rfl rfl ?_
  refine tx_get (pc := 8) dX1_readCommand_8 rfl f_RX1_22 rfl ?_
  refine r_ifnonnull 16 (pc := 11) dX1_readCommand_11 (by decide) ?_
  refine r_iconst (v := 0) (pc := 16) dX1_readCommand_16 (by decide) ?_
  refine q_istore_n [_, _] (pc := 17) dX1_readCommand_17 rfl (by decide) rfl ?_
  exact lp_X1_readCommand (po := po) (wd := wd) (nu := nu) hl Ln hln hL i hi (K_nm i) 0 _ nu (by omega) (w1_le hpL).2
theorem s_X1_readCommand {om : OM} {l : Launch} {B : Nat × Nat} {H : Hp} {ln po : Int32} {wd : Value} {t nu : Nat → Int32} (hl : l.stackTraces = false) (Ln : Nat) (hln : ln = nI Ln) (hL : Ln ≤ 150) (p : Nat) (hp : po = nI p) (hpL : p ≤ Ln) : Runs om l M_X1_readCommand B 0 (entL 2 [.ref 40]) [] (cH H ln po wd t nu) (Det (some (.int (K_cmd t Ln p nu).1)) (cH H ln (nI (K_cmd t Ln p nu).2.1) (K_wv (K_w t Ln p)) t ((K_cmd t Ln p nu).2.2))) := by
  by_cases hw : K_w t Ln p = 9
  · rw [show K_cmd t Ln p nu = (0, p, nu) from if_pos hw, hw]
    exact s_X1_readCommand_no hl Ln hln hL p hp hpL hw
  · have hi : K_w t Ln p < 9 := by have := K_w_le t Ln p; omega
    rw [show K_cmd t Ln p nu = K_fin t Ln (K_rn t Ln (K_nm (K_w t Ln p)) 0 (R_w1 t Ln p).1 nu) from if_neg hw, kwv_i hi]
    exact s_X1_readCommand_yes hl Ln hln hL p hp hpL _ hi rfl
theorem rn_le2 {t : Nat → Int32} {L : Nat} : ∀ (m k p : Nat) (nu : Nat → Int32), p ≤ L → p ≤ (K_rn t L m k p nu).2.1 ∧ (K_rn t L m k p nu).2.1 ≤ L := by
  intro m
  induction m with
  | zero => exact fun k p nu h => ⟨Nat.le_refl _, h⟩
  | succ m ih =>
    intro k p nu h
    have h1 := rnp_le (t := t) h
    rw [K_rn]
    split
    · exact h1
    · have := ih (k + 1) (K_rnp t L p) (K_rnn t L p k nu) h1.2
      omega
theorem kcmd_le {t : Nat → Int32} {L p : Nat} {nu : Nat → Int32} (h : p ≤ L) : p ≤ (K_cmd t L p nu).2.1 ∧ (K_cmd t L p nu).2.1 ≤ L := by
  unfold K_cmd
  split
  · exact ⟨Nat.le_refl _, h⟩
  · have h1 := w1_le (t := t) h
    have h2 := rn_le2 (t := t) (K_nm (K_w t L p)) 0 (R_w1 t L p).1 nu h1.2
    unfold K_fin
    split
    · omega
    · have h3 := kn0_le (t := t) h2.2
      split
      · rename_i hb
        have : R_n0 t L (K_rn t L (K_nm (K_w t L p)) 0 (R_w1 t L p).1 nu).2.1 < L := by
          apply Nat.lt_of_not_le
          intro z
          rw [K_b, if_neg (by omega)] at hb
          exact absurd hb (by decide)
        exact ⟨by show p ≤ R_n0 t L _ + 1; omega, by show R_n0 t L _ + 1 ≤ L; omega⟩
      · exact ⟨by show p ≤ R_n0 t L _; omega, by show R_n0 t L _ ≤ L; omega⟩
/-- the whole text checked: the fault or -1, where the reader stands, the last word, the numbers -/
def K_flt (t : Nat → Int32) (L : Nat) : Nat → Nat → Value → (Nat → Int32) → Int32 × Nat × Value × (Nat → Int32)
  | 0, p, wd, nu => (-1, p, wd, nu)
  | m + 1, p, wd, nu => if L ≤ R_n0 t L p then (-1, R_n0 t L p, wd, nu) else if (K_cmd t L (R_n0 t L p) nu).1 = 0 then (nI (K_cmd t L (R_n0 t L p) nu).2.1, (K_cmd t L (R_n0 t L p) nu).2.1, K_wv (K_w t L (R_n0 t L p)), (K_cmd t L (R_n0 t L p) nu).2.2) else K_flt t L m (K_cmd t L (R_n0 t L p) nu).2.1 (K_wv (K_w t L (R_n0 t L p))) (K_cmd t L (R_n0 t L p) nu).2.2
theorem lp_X1_fault {om : OM} {l : Launch} {B : Nat × Nat} {H : Hp} {ln po : Int32} {wd : Value} {t nu : Nat → Int32} (hl : l.stackTraces = false) (Ln : Nat) (hln : ln = nI Ln) (hL : Ln ≤ 150) : ∀ (n9 k p : Nat) (wd : Value) (nu : Nat → Int32), k + n9 = 150 → p ≤ Ln → Runs om l M_X1_fault B 6 [some (.ref 40), some (.int (nI k))] [] (cH H ln (nI p) wd t nu) (Det (some (.int (K_flt t Ln n9 p wd nu).1)) (cH H ln (nI (K_flt t Ln n9 p wd nu).2.1) ((K_flt t Ln n9 p wd nu).2.2.1) t ((K_flt t Ln n9 p wd nu).2.2.2))) := by
  intro n9
  induction n9 with
  | zero =>
    intro k p wd nu hk hpL
    have e9 : k = 150 := by omega
    subst e9
    refine r_iload_n (pc := 6) dX1_fault_6 rfl rfl ?_
    refine r_sipush (v := 150) (pc := 7) dX1_fault_7 (by decide) ?_
    refine r_icmp_ge 38 (pc := 10) dX1_fault_10 (by decide) (fun c10 => ?_) (fun c10 => absurd (c_get rfl rfl (a := 150) (b := 150) (by omega) (by omega) (by omega)) c10)
    refine r_iconst (v := (-1)) (pc := 38) dX1_fault_38 (by decide) ?_
    exact r_ireturn (S := []) (pc := 39) dX1_fault_39 rfl rfl ⟨rfl, rfl⟩
  | succ n9 ih =>
    intro k p wd nu hk hpL
    have hq := kn0_le (t := t) hpL
    refine r_iload_n (pc := 6) dX1_fault_6 rfl rfl ?_
    refine r_sipush (v := 150) (pc := 7) dX1_fault_7 (by decide) ?_
    refine r_icmp_ge 38 (pc := 10) dX1_fault_10 (by decide) (fun c10 => absurd c10 (c_gef rfl rfl (a := k) (b := 150) (by omega) (by omega) (by omega))) (fun c10 => ?_)
    refine r_aload_n (pc := 13) dX1_fault_13 rfl rfl ?_
    refine q_callV (ci := 0) (T := TX1) (N := 5) (vs := []) (pc := 14) dX1_fault_14 rfl l_RX1_33 rfl ⟨by decide, by decide⟩ rfl (Nat.le_of_ble_eq_true rfl) hl cH_40 rfl (Nat.le_of_ble_eq_true rfl) (s_X1_hasMore hl Ln hln hL p rfl hpL) cH_22 ?_
    refine r_if_eq 38 (pc := 17) dX1_fault_17 (by decide) (fun c17 => ?_) (fun c17 => ?_)
    · have hge : Ln ≤ R_n0 t Ln p := Classical.byContradiction fun z => by rw [if_neg z] at c17; exact absurd c17 (by decide)
      rw [show K_flt t Ln (n9 + 1) p wd nu = (-1, R_n0 t Ln p, wd, nu) by rw [K_flt, if_pos hge]]
      refine r_iconst (v := (-1)) (pc := 38) dX1_fault_38 (by decide) ?_
      exact r_ireturn (S := []) (pc := 39) dX1_fault_39 rfl rfl ⟨rfl, rfl⟩
    · have hlt : ¬ Ln ≤ R_n0 t Ln p := fun z => c17 (if_pos z)
      refine r_aload_n (pc := 20) dX1_fault_20 rfl rfl ?_
      refine q_callV (ci := 0) (T := TX1) (N := 5) (vs := []) (pc := 21) dX1_fault_21 rfl l_RX1_37 rfl ⟨by decide, by decide⟩ rfl (Nat.le_of_ble_eq_true rfl) hl cH_40 rfl (Nat.le_of_ble_eq_true rfl) (s_X1_readCommand hl Ln hln hL (R_n0 t Ln p) rfl hq.2) cH_22 ?_
      refine r_if_ne 32 (pc := 24) dX1_fault_24 (by decide) (fun c24 => ?_) (fun c24 => ?_)
      · refine q_iinc (nI (k + 1)) [_, _] (pc := 32) dX1_fault_32 rfl (by decide) (ninc 1 rfl) rfl ?_
        refine r_goto 6 (pc := 35) dX1_fault_35 (by decide) ?_
        rw [show K_flt t Ln (n9 + 1) p wd nu = K_flt t Ln n9 (K_cmd t Ln (R_n0 t Ln p) nu).2.1 (K_wv (K_w t Ln (R_n0 t Ln p))) (K_cmd t Ln (R_n0 t Ln p) nu).2.2 by rw [K_flt, if_neg hlt, if_neg c24]]
        exact ih (k + 1) _ _ _ (by omega) (kcmd_le hq.2).2
      · rw [show K_flt t Ln (n9 + 1) p wd nu = (nI (K_cmd t Ln (R_n0 t Ln p) nu).2.1, (K_cmd t Ln (R_n0 t Ln p) nu).2.1, K_wv (K_w t Ln (R_n0 t Ln p)), (K_cmd t Ln (R_n0 t Ln p) nu).2.2) by rw [K_flt, if_neg hlt, if_pos c24]]
        refine r_aload_n (pc := 27) dX1_fault_27 rfl rfl ?_
        refine tx_get (pc := 28) dX1_fault_28 rfl f_RX1_19 rfl ?_
        exact r_ireturn (S := []) (pc := 31) dX1_fault_31 rfl rfl ⟨rfl, rfl⟩
theorem s_X1_fault {om : OM} {l : Launch} {B : Nat × Nat} {H : Hp} {ln po : Int32} {wd : Value} {t nu : Nat → Int32} (hl : l.stackTraces = false) (Ln : Nat) (hln : ln = nI Ln) (hL : Ln ≤ 150) : Runs om l M_X1_fault B 0 (entL 2 [.ref 40]) [] (cH H ln po wd t nu) (Det (some (.int (K_flt t Ln 150 0 wd nu).1)) (cH H ln (nI (K_flt t Ln 150 0 wd nu).2.1) ((K_flt t Ln 150 0 wd nu).2.2.1) t ((K_flt t Ln 150 0 wd nu).2.2.2))) := by
  show Runs om l M_X1_fault B 0 [some (.ref 40), none] [] _ _
  refine r_aload_n (pc := 0) dX1_fault_0 rfl rfl ?_
  refine q_callV (ci := 0) (T := TX1) (N := 5) (vs := []) (pc := 1) dX1_fault_1 rfl l_RX1_30 rfl ⟨by decide, by decide⟩ rfl (Nat.le_of_ble_eq_true rfl) hl cH_40 rfl (Nat.le_of_ble_eq_true rfl) (s_X1_rewind) cH_22 ?_
  refine r_iconst (v := 0) (pc := 4) dX1_fault_4 (by decide) ?_
  refine q_istore_n [_, _] (pc := 5) dX1_fault_5 rfl (by decide) rfl ?_
  exact lp_X1_fault (po := po) (wd := wd) (nu := nu) hl Ln hln hL 150 0 0 wd nu (by omega) (by omega)
