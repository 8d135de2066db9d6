/-! type of the class; how often till told -/
section TY
variable {om : OM} {l : Launch} {B : Nat × Nat} {R R' : Hp} {C : Nat → Int32} {W : Nat → Int64} {ns cnt ns' cnt' ln po : Int32} {wd : Value} {t nu : Nat → Int32}
theorem y_type_no2 (hl : l.stackTraces = false) (hB : 1 ≤ B.1 ∧ 6 ≤ B.2) (hg : R.1 0 = .inr (8, gf ns cnt)) (x : Int32) (h : R_in x 0 127 = 1) (h6 : ln = nI 150) : Runs om l M_X10_type B 0 (entL 2 [.ref 0, .int x]) [] (sH (cH R ln po wd t nu) 1 C W) (Exc "java/lang/IllegalStateException" (sH (cH R ln po wd t nu) 1 C W)) := by
  show Runs om l M_X10_type B 0 [some (.ref 0), some (.int x)] [] _ _
  refine r_iload_n (pc := 0) dX10_type_0 rfl rfl ?_
  refine r_if_lt 10 (pc := 1) dX10_type_1 (by decide) (fun c1 => absurd h (by rw [R_in, if_pos c1]; decide)) (fun c1 => ?_)
  refine r_iload_n (pc := 4) dX10_type_4 rfl rfl ?_
  refine r_bipush (v := 127) (pc := 5) dX10_type_5 rfl ?_
  refine r_icmp_le 21 (pc := 7) dX10_type_7 (by decide) (fun c7 => ?_) (fun c7 => absurd h (by rw [R_in, if_neg c1, if_pos (Int32.not_le.mp c7)]; decide))
  refine r_aload_n (pc := 21) dX10_type_21 rfl rfl ?_
  refine r_getfield (pc := 22) dX10_type_22 rfl f_RX10_33 (yH_0 hg) rfl ?_
  refine q_callV (ci := 0) (T := TX1) (N := 5) (vs := []) (pc := 25) dX10_type_25 rfl l_RX10_303 rfl ⟨by decide, by decide⟩ rfl (Nat.le_of_ble_eq_true rfl) hl yH_40 rfl (Nat.le_of_ble_eq_true rfl) (y_isFull 150 h6 (by omega)) rfl ?_
  rw [if_pos (by rw [h6]; decide)]
  refine r_if_eq 42 (pc := 28) dX10_type_28 (by decide) (fun c28 => absurd c28 (by decide)) (fun c28 => ?_)
  exact r_throwW (pc := 31) dX10_type_31 dX10_type_34 dX10_type_35 dX10_type_38 dX10_type_41 rfl rfl th_104_306_108 (by decide) (Nat.le_of_ble_eq_true rfl) hl hB ⟨rfl, rfl⟩
theorem y_type_yes (hl : l.stackTraces = false) (hg : R.1 0 = .inr (8, gf ns cnt)) (x : Int32) (h : R_in x 0 127 = 1) (Ln : Nat) (hln : ln = nI Ln) (hL : Ln < 150) : Runs om l M_X10_type B 0 (entL 2 [.ref 0, .int x]) [] (sH (cH R ln po wd t nu) 1 C W) (Det (some (.int (ln + 1))) (sH (cH R (ln + 1) po wd (upd t Ln (vp_nar .byte x.toInt8.toInt32)) nu) 1 C W)) := by
  show Runs om l M_X10_type B 0 [some (.ref 0), some (.int x)] [] _ _
  refine r_iload_n (pc := 0) dX10_type_0 rfl rfl ?_
  refine r_if_lt 10 (pc := 1) dX10_type_1 (by decide) (fun c1 => absurd h (by rw [R_in, if_pos c1]; decide)) (fun c1 => ?_)
  refine r_iload_n (pc := 4) dX10_type_4 rfl rfl ?_
  refine r_bipush (v := 127) (pc := 5) dX10_type_5 rfl ?_
  refine r_icmp_le 21 (pc := 7) dX10_type_7 (by decide) (fun c7 => ?_) (fun c7 => absurd h (by rw [R_in, if_neg c1, if_pos (Int32.not_le.mp c7)]; decide))
  refine r_aload_n (pc := 21) dX10_type_21 rfl rfl ?_
  refine r_getfield (pc := 22) dX10_type_22 rfl f_RX10_33 (yH_0 hg) rfl ?_
  refine q_callV (ci := 0) (T := TX1) (N := 5) (vs := []) (pc := 25) dX10_type_25 rfl l_RX10_303 rfl ⟨by decide, by decide⟩ rfl (Nat.le_of_ble_eq_true rfl) hl yH_40 rfl (Nat.le_of_ble_eq_true rfl) (y_isFull Ln hln (by omega)) rfl ?_
  rw [if_neg (by rw [hln]; exact fun z => by have := (nI_le_iff (a := 150) (by omega) (by omega)).mp z; omega)]
  refine r_if_eq 42 (pc := 28) dX10_type_28 (by decide) (fun c28 => ?_) (fun c28 => absurd rfl c28)
  refine r_aload_n (pc := 42) dX10_type_42 rfl rfl ?_
  refine r_getfield (pc := 43) dX10_type_43 rfl f_RX10_33 (yH_0 hg) rfl ?_
  refine r_iload_n (pc := 46) dX10_type_46 rfl rfl ?_
  refine q_callV (ci := 0) (T := TX1) (N := 5) (vs := [.int _]) (pc := 47) dX10_type_47 rfl l_RX10_308 rfl ⟨by decide, by decide⟩ rfl (Nat.le_of_ble_eq_true rfl) hl yH_40 rfl (Nat.le_of_ble_eq_true rfl) (y_append Ln hln (by omega) hL x) rfl ?_
  refine r_aload_n (pc := 50) dX10_type_50 rfl rfl ?_
  refine r_getfield (pc := 51) dX10_type_51 rfl f_RX10_33 (yH_0 hg) rfl ?_
  refine r_getfield (pc := 54) dX10_type_54 rfl f_RX10_311 yH_40 rfl ?_
  exact r_ireturn (S := []) (pc := 57) dX10_type_57 rfl rfl ⟨rfl, rfl⟩
end TY
theorem ta_ag {W : Nat → Int64} : ∀ (m k q : Nat) (C A : Nat → Int32), AG C W A → OKA A → q ≤ k → k + m ≤ 500 → K_tac (K_ta W m k C) = R_tac (R_ta A m k (nI q)) := by
  intro m
  induction m with
  | zero =>
    intro k q C A h o hq hk
    rw [K_ta, R_ta]
    unfold K_tac R_tac
    rw [show ((C, k) : (Nat → Int32) × Nat).1 26 = A 26 from h.1.lo (by omega)]
    by_cases e : A 26 = -1
    · rw [if_pos e]; exact (if_pos e).symm
    · rw [if_neg e]
      exact ((if_neg e).trans (if_pos ((nI_le_iff (by omega) (by omega)).mpr hq))).symm
  | succ m ih =>
    intro k q C A h o hq hk
    rw [K_ta, R_ta, h.1.lo (by omega)]
    by_cases e : A 26 = -1
    · rw [if_pos e, if_pos e]
      obtain ⟨h2, o2⟩ := OKA_shot h o
      have e1 : ∃ q2, nI q + R_one (R_shot A).2 = nI q2 ∧ q2 ≤ k + 1 := by
        unfold R_one
        by_cases z : (R_shot A).2 = 0
        · rw [if_pos z]; exact ⟨q, by rw [Int32.add_zero], by omega⟩
        · rw [if_neg z]; exact ⟨q + 1, (nI_succ q).symm, by omega⟩
      obtain ⟨q2, e2, hq2⟩ := e1
      rw [e2]
      exact ih (k + 1) q2 _ _ h2 o2 hq2 (by omega)
    · rw [if_neg e, if_neg e]
      unfold K_tac R_tac
      rw [show ((C, k) : (Nat → Int32) × Nat).1 26 = A 26 from h.1.lo (by omega), if_neg e]
      exact ((if_neg e).trans (if_pos ((nI_le_iff (by omega) (by omega)).mpr hq))).symm
