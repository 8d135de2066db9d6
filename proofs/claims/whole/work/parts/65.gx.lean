/-! runCommands of the class -/
section RUN2
variable {om : OM} {l : Launch} {B : Nat × Nat} {R R' : Hp} {C : Nat → Int32} {W : Nat → Int64} {ns cnt ns' cnt' ln po : Int32} {wd : Value} {t nu : Nat → Int32}
theorem y_run_bad (hl : l.stackTraces = false) (hg : R.1 0 = .inr (8, gf ns cnt)) (Ln : Nat) (hln : ln = nI Ln) (hL : Ln ≤ 150) (q : Nat) (hq : q ≤ 150) (h : (K_flt t Ln 150 0 wd nu).1 = nI q) : Runs om l M_X10_runCommands B 0 (entL 3 [.ref 0]) [] (sH (cH R ln po wd t nu) 1 C W) (fun o h => o = .inl (some (.int (-10 - nI q))) ∧ ∃ (po : Int32) (wd : Value) (nu : Nat → Int32), h = sH (cH R ln po wd t nu) 1 C W) := by
  show Runs om l M_X10_runCommands B 0 [some (.ref 0), none, none] [] _ _
  refine r_aload_n (pc := 0) dX10_runCommands_0 rfl rfl ?_
  refine r_getfield (pc := 1) dX10_runCommands_1 rfl f_RX10_33 (yH_0 hg) rfl ?_
  refine q_callV (ci := 0) (T := TX1) (N := 5) (vs := []) (pc := 4) dX10_runCommands_4 rfl l_RX10_314 rfl ⟨by decide, by decide⟩ rfl (Nat.le_of_ble_eq_true rfl) hl yH_40 rfl (Nat.le_of_ble_eq_true rfl) (y_fault hl Ln hln hL) rfl ?_
  rw [h]
  refine q_istore_n [_, _, _] (pc := 7) dX10_runCommands_7 rfl (by decide) rfl ?_
  refine r_iload_n (pc := 8) dX10_runCommands_8 rfl rfl ?_
  refine r_iconst (v := -1) (pc := 9) dX10_runCommands_9 rfl ?_
  refine r_icmp_eq 18 (pc := 10) dX10_runCommands_10 (by decide) (fun c10 => absurd c10 (neg1_ne (by omega))) (fun c10 => ?_)
  refine r_bipush (v := -10) (pc := 13) dX10_runCommands_13 rfl ?_
  refine r_iload_n (pc := 15) dX10_runCommands_15 rfl rfl ?_
  refine r_isub (pc := 16) dX10_runCommands_16 ?_
  exact r_ireturn (S := []) (pc := 17) dX10_runCommands_17 rfl rfl ⟨rfl, _, _, _, rfl⟩
theorem y_run_ok (hl : l.stackTraces = false) (hg : R.1 0 = .inr (8, gf ns cnt)) (Ln : Nat) (hln : ln = nI Ln) (hL : Ln ≤ 150) (h : (K_flt t Ln 150 0 wd nu).1 = -1) (hg' : R'.1 0 = .inr (8, gf ns' cnt')) (hR : R'.2 = R.2)
    (hsv : ∀ (B : Nat × Nat) (po : Int32) (wd : Value) (nu : Nat → Int32), Runs om l M_X10_save B 0 (entL 1 [.ref 0]) [] (sH (cH R ln po wd t nu) 1 C W) (Det none (sH (cH R' ln po wd t nu) 1 C W)))
    {A : Nat → Int32} (hA : AG C W A) (o : OKA A) (n : Nat → Int32) (w : Int64) : Runs om l M_X10_runCommands B 0 (entL 3 [.ref 0]) [] (sH (cH R ln po wd t nu) 1 C W) (RunP R' ln t (R_run t Ln Ln 0 (R_n0 t Ln 0) A n w)) := by
  show Runs om l M_X10_runCommands B 0 [some (.ref 0), none, none] [] _ _
  refine r_aload_n (pc := 0) dX10_runCommands_0 rfl rfl ?_
  refine r_getfield (pc := 1) dX10_runCommands_1 rfl f_RX10_33 (yH_0 hg) rfl ?_
  refine q_callV (ci := 0) (T := TX1) (N := 5) (vs := []) (pc := 4) dX10_runCommands_4 rfl l_RX10_314 rfl ⟨by decide, by decide⟩ rfl (Nat.le_of_ble_eq_true rfl) hl yH_40 rfl (Nat.le_of_ble_eq_true rfl) (y_fault hl Ln hln hL) rfl ?_
  rw [h]
  refine q_istore_n [_, _, _] (pc := 7) dX10_runCommands_7 rfl (by decide) rfl ?_
  refine r_iload_n (pc := 8) dX10_runCommands_8 rfl rfl ?_
  refine r_iconst (v := -1) (pc := 9) dX10_runCommands_9 rfl ?_
  refine r_icmp_eq 18 (pc := 10) dX10_runCommands_10 (by decide) (fun c10 => ?_) (fun c10 => absurd rfl c10)
  refine r_aload_n (pc := 18) dX10_runCommands_18 rfl rfl ?_
  refine q_callV (ci := 8) (T := TX10) (N := 6) (vs := []) (pc := 19) dX10_runCommands_19 rfl l_RX10_50 rfl ⟨by decide, by decide⟩ rfl (Nat.le_of_ble_eq_true rfl) hl (yH_0 hg) rfl (Nat.le_of_ble_eq_true rfl) (hsv _ _ _ _) hR ?_
  refine r_iconst (v := 0) (pc := 22) dX10_runCommands_22 rfl ?_
  refine q_istore_n [_, _, _] (pc := 23) dX10_runCommands_23 rfl (by decide) rfl ?_
  refine r_aload_n (pc := 24) dX10_runCommands_24 rfl rfl ?_
  refine r_getfield (pc := 25) dX10_runCommands_25 rfl f_RX10_33 (yH_0 hg') rfl ?_
  refine q_callV (ci := 0) (T := TX1) (N := 5) (vs := []) (pc := 28) dX10_runCommands_28 rfl l_RX10_317 rfl ⟨by decide, by decide⟩ rfl (Nat.le_of_ble_eq_true rfl) hl yH_40 rfl (Nat.le_of_ble_eq_true rfl) y_rewind rfl ?_
  exact lpq_run hl hg' Ln hln hL _ Ln 0 0 C W A _ n w _ hA o (Nat.zero_le _) (Nat.le_add_left _ _) (Nat.le_refl _)
/-! type, clearCommands -/
theorem y_isFull (Ln : Nat) (hln : ln = nI Ln) (hL : Ln ≤ 150) : Runs om l M_X1_isFull B 0 (entL 1 [.ref 40]) [] (sH (cH R ln po wd t nu) 1 C W) (Det (some (.int (if (150 : Int32) ≤ ln then 1 else 0))) (sH (cH R ln po wd t nu) 1 C W)) := by
  rw [← cH_sH]
  exact s_X1_isFull Ln hln hL
theorem y_append (Ln : Nat) (hln : ln = nI Ln) (hL : Ln ≤ 150) (hL2 : Ln < 150) (x : Int32) : Runs om l M_X1_append B 0 (entL 2 [.ref 40, .int x]) [] (sH (cH R ln po wd t nu) 1 C W) (Det none (sH (cH R (ln + 1) po wd (upd t Ln (vp_nar .byte x.toInt8.toInt32)) nu) 1 C W)) := by
  rw [← cH_sH, ← cH_sH]
  exact s_X1_append Ln hln hL hL2 x
theorem y_clear (hg : R.1 0 = .inr (8, gf ns cnt)) : Runs om l M_X10_clearCommands B 0 (entL 2 [.ref 0]) [] (sH (cH R ln po wd t nu) 1 C W) (Det (some (.int ln)) (sH (cH R 0 po wd t nu) 1 C W)) := by
  show Runs om l M_X10_clearCommands B 0 [some (.ref 0), none] [] _ _
  refine r_aload_n (pc := 0) dX10_clearCommands_0 rfl rfl ?_
  refine r_getfield (pc := 1) dX10_clearCommands_1 rfl f_RX10_33 (yH_0 hg) rfl ?_
  refine r_getfield (pc := 4) dX10_clearCommands_4 rfl f_RX10_311 yH_40 rfl ?_
  refine q_istore_n [_, _] (pc := 7) dX10_clearCommands_7 rfl (by decide) rfl ?_
  refine r_aload_n (pc := 8) dX10_clearCommands_8 rfl rfl ?_
  refine r_getfield (pc := 9) dX10_clearCommands_9 rfl f_RX10_33 (yH_0 hg) rfl ?_
  refine r_iconst (v := 0) (pc := 12) dX10_clearCommands_12 rfl ?_
  rw [← cH_sH]
  refine tx_put 0 po wd (pc := 13) dX10_clearCommands_13 rfl f_RX10_311 (fun _ => rfl) (fun _ => rfl) (by decide) rfl ?_
  rw [cH_sH]
  refine r_iload_n (pc := 16) dX10_clearCommands_16 rfl rfl ?_
  exact r_ireturn (S := []) (pc := 17) dX10_clearCommands_17 rfl rfl ⟨rfl, rfl⟩
theorem y_type_no (hl : l.stackTraces = false) (hB : 1 ≤ B.1 ∧ 6 ≤ B.2) (x : Int32) (h : R_in x 0 127 = 0) : Runs om l M_X10_type B 0 (entL 2 [.ref 0, .int x]) [] (sH (cH R ln po wd t nu) 1 C W) (Exc "java/lang/IllegalArgumentException" (sH (cH R ln po wd t nu) 1 C W)) := by
  show Runs om l M_X10_type B 0 [some (.ref 0), some (.int x)] [] _ _
  refine r_iload_n (pc := 0) dX10_type_0 rfl rfl ?_
  refine r_if_lt 10 (pc := 1) dX10_type_1 (by decide) (fun c1 => ?_) (fun c1 => ?_)
  · exact r_throwW (pc := 10) dX10_type_10 dX10_type_13 dX10_type_14 dX10_type_17 dX10_type_20 rfl rfl th_43_301_47 (by decide) (Nat.le_of_ble_eq_true rfl) hl hB ⟨rfl, rfl⟩
  · refine r_iload_n (pc := 4) dX10_type_4 rfl rfl ?_
    refine r_bipush (v := 127) (pc := 5) dX10_type_5 rfl ?_
    refine r_icmp_le 21 (pc := 7) dX10_type_7 (by decide) (fun c7 => ?_) (fun c7 => ?_)
    · exact absurd h (by rw [R_in, if_neg c1, if_neg (Int32.not_lt.mpr c7)]; decide)
    · exact r_throwW (pc := 10) dX10_type_10 dX10_type_13 dX10_type_14 dX10_type_17 dX10_type_20 rfl rfl th_43_301_47 (by decide) (Nat.le_of_ble_eq_true rfl) hl hB ⟨rfl, rfl⟩
end RUN2
