/-! the class: a state copied, begun, changed; digests, values -/
theorem cp_X7_copyFrom {b : Nat} {C C2 : Nat → Int32} {W : Nat → Int64} : ∀ m, m < 19 → sc b (blk 18 C2 (upd (blk 16 C2 (upd (blk 14 C2 (blk 13 C2 (blk 12 C2 (blk 11 C2 (blk 10 C2 (blk 9 C2 (upd (upd (blk 5 C2 (blk 3 C2 (blk 2 C2 (blk 1 C2 C)))) 647 (C2 647)) 41 (C2 41)))))))) 102 (C2 102))) 118 (C2 118))) W m = sc b C2 W m
  | 0, _ => rfl
  | 1, _ => sc_congr 1 fun j hj => by
    have e118 : ¬ j = 118 := fun e => by subst e; exact absurd hj (by decide)
    have e102 : ¬ j = 102 := fun e => by subst e; exact absurd hj (by decide)
    have e647 : ¬ j = 647 := fun e => by subst e; exact absurd hj (by decide)
    have e41 : ¬ j = 41 := fun e => by subst e; exact absurd hj (by decide)
    simp [blk, upd, hj, e118, e102, e647, e41]
  | 2, _ => sc_congr 2 fun j hj => by
    have e118 : ¬ j = 118 := fun e => by subst e; exact absurd hj (by decide)
    have e102 : ¬ j = 102 := fun e => by subst e; exact absurd hj (by decide)
    have e647 : ¬ j = 647 := fun e => by subst e; exact absurd hj (by decide)
    have e41 : ¬ j = 41 := fun e => by subst e; exact absurd hj (by decide)
    simp [blk, upd, hj, e118, e102, e647, e41]
  | 3, _ => sc_congr 3 fun j hj => by
    have e118 : ¬ j = 118 := fun e => by subst e; exact absurd hj (by decide)
    have e102 : ¬ j = 102 := fun e => by subst e; exact absurd hj (by decide)
    have e647 : ¬ j = 647 := fun e => by subst e; exact absurd hj (by decide)
    have e41 : ¬ j = 41 := fun e => by subst e; exact absurd hj (by decide)
    simp [blk, upd, hj, e118, e102, e647, e41]
  | 4, _ => rfl
  | 5, _ => sc_congr 5 fun j hj => by
    have e118 : ¬ j = 118 := fun e => by subst e; exact absurd hj (by decide)
    have e102 : ¬ j = 102 := fun e => by subst e; exact absurd hj (by decide)
    have e647 : ¬ j = 647 := fun e => by subst e; exact absurd hj (by decide)
    have e41 : ¬ j = 41 := fun e => by subst e; exact absurd hj (by decide)
    simp [blk, upd, hj, e118, e102, e647, e41]
  | 6, _ => rfl
  | 7, _ => rfl
  | 8, _ => rfl
  | 9, _ => sc_congr 9 fun j hj => by
    have e118 : ¬ j = 118 := fun e => by subst e; exact absurd hj (by decide)
    have e102 : ¬ j = 102 := fun e => by subst e; exact absurd hj (by decide)
    have e647 : ¬ j = 647 := fun e => by subst e; exact absurd hj (by decide)
    have e41 : ¬ j = 41 := fun e => by subst e; exact absurd hj (by decide)
    simp [blk, upd, hj, e118, e102, e647, e41]
  | 10, _ => sc_congr 10 fun j hj => by
    have e118 : ¬ j = 118 := fun e => by subst e; exact absurd hj (by decide)
    have e102 : ¬ j = 102 := fun e => by subst e; exact absurd hj (by decide)
    have e647 : ¬ j = 647 := fun e => by subst e; exact absurd hj (by decide)
    have e41 : ¬ j = 41 := fun e => by subst e; exact absurd hj (by decide)
    simp [blk, upd, hj, e118, e102, e647, e41]
  | 11, _ => sc_congr 11 fun j hj => by
    have e118 : ¬ j = 118 := fun e => by subst e; exact absurd hj (by decide)
    have e102 : ¬ j = 102 := fun e => by subst e; exact absurd hj (by decide)
    have e647 : ¬ j = 647 := fun e => by subst e; exact absurd hj (by decide)
    have e41 : ¬ j = 41 := fun e => by subst e; exact absurd hj (by decide)
    simp [blk, upd, hj, e118, e102, e647, e41]
  | 12, _ => sc_congr 12 fun j hj => by
    have e118 : ¬ j = 118 := fun e => by subst e; exact absurd hj (by decide)
    have e102 : ¬ j = 102 := fun e => by subst e; exact absurd hj (by decide)
    have e647 : ¬ j = 647 := fun e => by subst e; exact absurd hj (by decide)
    have e41 : ¬ j = 41 := fun e => by subst e; exact absurd hj (by decide)
    simp [blk, upd, hj, e118, e102, e647, e41]
  | 13, _ => sc_congr 13 fun j hj => by
    have e118 : ¬ j = 118 := fun e => by subst e; exact absurd hj (by decide)
    have e102 : ¬ j = 102 := fun e => by subst e; exact absurd hj (by decide)
    have e647 : ¬ j = 647 := fun e => by subst e; exact absurd hj (by decide)
    have e41 : ¬ j = 41 := fun e => by subst e; exact absurd hj (by decide)
    simp [blk, upd, hj, e118, e102, e647, e41]
  | 14, _ => sc_congr 14 fun j hj => by
    have e118 : ¬ j = 118 := fun e => by subst e; exact absurd hj (by decide)
    have e102 : ¬ j = 102 := fun e => by subst e; exact absurd hj (by decide)
    have e647 : ¬ j = 647 := fun e => by subst e; exact absurd hj (by decide)
    have e41 : ¬ j = 41 := fun e => by subst e; exact absurd hj (by decide)
    simp [blk, upd, hj, e118, e102, e647, e41]
  | 15, _ => rfl
  | 16, _ => sc_congr 16 fun j hj => by
    have e118 : ¬ j = 118 := fun e => by subst e; exact absurd hj (by decide)
    have e102 : ¬ j = 102 := fun e => by subst e; exact absurd hj (by decide)
    have e647 : ¬ j = 647 := fun e => by subst e; exact absurd hj (by decide)
    have e41 : ¬ j = 41 := fun e => by subst e; exact absurd hj (by decide)
    simp [blk, upd, hj, e118, e102, e647, e41]
  | 17, _ => rfl
  | 18, _ => sc_congr 18 fun j hj => by
    have e118 : ¬ j = 118 := fun e => by subst e; exact absurd hj (by decide)
    have e102 : ¬ j = 102 := fun e => by subst e; exact absurd hj (by decide)
    have e647 : ¬ j = 647 := fun e => by subst e; exact absurd hj (by decide)
    have e41 : ¬ j = 41 := fun e => by subst e; exact absurd hj (by decide)
    simp [blk, upd, hj, e118, e102, e647, e41]
  | m + 19, h => absurd h (by omega)
theorem s_X7_copyFrom {om : OM} {l : Launch} {B : Nat × Nat} {h0 : Hp} {b b2 : Nat} {C C2 : Nat → Int32} {W W2 : Nat → Int64} (hl : l.stackTraces = false) (hd : b + 19 ≤ b2 ∨ b2 + 19 ≤ b) : Runs om l M_X7_copyFrom B 0 (entL 2 [.ref b, .ref b2]) [] (sH ((sH h0 b2 C2 W2)) b C W) (Det (none) (sH ((sH h0 b2 C2 W2)) b C2 W2)) := by
  show Runs om l M_X7_copyFrom B 0 [some (.ref b), some (.ref b2)] [] _ _
  refine r_aload_n (pc := 0) dX7_copyFrom_0 rfl rfl ?_
  refine cs_get0 (pc := 1) dX7_copyFrom_1 rfl f_RX7_12 rfl ?_
  refine r_aload_n (pc := 4) dX7_copyFrom_4 rfl rfl ?_
  refine r_getfield (pc := 5) dX7_copyFrom_5 rfl f_RX7_12 (sH_far (i := 0) hd (by decide)) rfl ?_
  refine q_callV (ci := 7) (T := TX8) (N := 14) (vs := [.ref _]) (pc := 8) dX7_copyFrom_8 rfl l_RX7_56 rfl ⟨by decide, by decide⟩ rfl (Nat.le_of_ble_eq_true rfl) hl (sH_at (i := 1) (by decide)) rfl (Nat.le_of_ble_eq_true rfl) (s_X8_copyFrom hl hd) sH_22 ?_
  refine r_aload_n (pc := 11) dX7_copyFrom_11 rfl rfl ?_
  refine cs_get0 (pc := 12) dX7_copyFrom_12 rfl f_RX7_21 rfl ?_
  refine r_aload_n (pc := 15) dX7_copyFrom_15 rfl rfl ?_
  refine r_getfield (pc := 16) dX7_copyFrom_16 rfl f_RX7_21 (sH_far (i := 0) hd (by decide)) rfl ?_
  refine q_callV (ci := 5) (T := TX6) (N := 1) (vs := [.ref _]) (pc := 19) dX7_copyFrom_19 rfl l_RX7_60 rfl ⟨by decide, by decide⟩ rfl (Nat.le_of_ble_eq_true rfl) hl (sH_at (i := 4) (by decide)) rfl (Nat.le_of_ble_eq_true rfl) (s_X6_copyFrom hl hd) sH_22 ?_
  refine r_aload_n (pc := 22) dX7_copyFrom_22 rfl rfl ?_
  refine cs_get0 (pc := 23) dX7_copyFrom_23 rfl f_RX7_28 rfl ?_
  refine r_aload_n (pc := 26) dX7_copyFrom_26 rfl rfl ?_
  refine r_getfield (pc := 27) dX7_copyFrom_27 rfl f_RX7_28 (sH_far (i := 0) hd (by decide)) rfl ?_
  refine q_callV (ci := 4) (T := TX5) (N := 2) (vs := [.ref _]) (pc := 30) dX7_copyFrom_30 rfl l_RX7_63 rfl ⟨by decide, by decide⟩ rfl (Nat.le_of_ble_eq_true rfl) hl (sH_at (i := 6) (by decide)) rfl (Nat.le_of_ble_eq_true rfl) (s_X5_copyFrom hd) sH_22 ?_
  refine r_aload_n (pc := 33) dX7_copyFrom_33 rfl rfl ?_
  refine cs_get0 (pc := 34) dX7_copyFrom_34 rfl f_RX7_35 rfl ?_
  refine r_aload_n (pc := 37) dX7_copyFrom_37 rfl rfl ?_
  refine r_getfield (pc := 38) dX7_copyFrom_38 rfl f_RX7_35 (sH_far (i := 0) hd (by decide)) rfl ?_
  refine q_callV (ci := 2) (T := TX3) (N := 5) (vs := [.ref _]) (pc := 41) dX7_copyFrom_41 rfl l_RX7_66 rfl ⟨by decide, by decide⟩ rfl (Nat.le_of_ble_eq_true rfl) hl (sH_at (i := 8) (by decide)) rfl (Nat.le_of_ble_eq_true rfl) (s_X3_copyFrom hl hd) sH_22 ?_
  refine r_aload_n (pc := 44) dX7_copyFrom_44 rfl rfl ?_
  refine cs_get0 (pc := 45) dX7_copyFrom_45 rfl f_RX7_42 rfl ?_
  refine r_aload_n (pc := 48) dX7_copyFrom_48 rfl rfl ?_
  refine r_getfield (pc := 49) dX7_copyFrom_49 rfl f_RX7_42 (sH_far (i := 0) hd (by decide)) rfl ?_
  refine q_callV (ci := 3) (T := TX4) (N := 9) (vs := [.ref _]) (pc := 52) dX7_copyFrom_52 rfl l_RX7_69 rfl ⟨by decide, by decide⟩ rfl (Nat.le_of_ble_eq_true rfl) hl (sH_at (i := 13) (by decide)) rfl (Nat.le_of_ble_eq_true rfl) (s_X4_copyFrom hl hd) sH_22 ?_
  refine r_aload_n (pc := 55) dX7_copyFrom_55 rfl rfl ?_
  refine cs_get0 (pc := 56) dX7_copyFrom_56 rfl f_RX7_49 rfl ?_
  refine r_aload_n (pc := 59) dX7_copyFrom_59 rfl rfl ?_
  refine r_getfield (pc := 60) dX7_copyFrom_60 rfl f_RX7_49 (sH_far (i := 0) hd (by decide)) rfl ?_
  refine q_callV (ci := 1) (T := TX2) (N := 2) (vs := [.ref _]) (pc := 63) dX7_copyFrom_63 rfl l_RX7_72 rfl ⟨by decide, by decide⟩ rfl (Nat.le_of_ble_eq_true rfl) hl (sH_at (i := 15) (by decide)) rfl (Nat.le_of_ble_eq_true rfl) (s_X2_copyFrom15 hl hd) sH_22 ?_
  refine r_aload_n (pc := 66) dX7_copyFrom_66 rfl rfl ?_
  refine cs_get0 (pc := 67) dX7_copyFrom_67 rfl f_RX7_53 rfl ?_
  refine r_aload_n (pc := 70) dX7_copyFrom_70 rfl rfl ?_
  refine r_getfield (pc := 71) dX7_copyFrom_71 rfl f_RX7_53 (sH_far (i := 0) hd (by decide)) rfl ?_
  refine q_callV (ci := 1) (T := TX2) (N := 2) (vs := [.ref _]) (pc := 74) dX7_copyFrom_74 rfl l_RX7_72 rfl ⟨by decide, by decide⟩ rfl (Nat.le_of_ble_eq_true rfl) hl (sH_at (i := 17) (by decide)) rfl (Nat.le_of_ble_eq_true rfl) (s_X2_copyFrom17 hl hd) sH_22 ?_
  exact r_return (S := []) (pc := 77) dX7_copyFrom_77 rfl ⟨rfl, sH_eq cp_X7_copyFrom⟩
def K_start (C : Nat → Int32) (d : Int32) : Nat → Int32 := upd (upd (upd (upd (upd (upd (upd (upd (upd (upd (upd (upd (C_fst (upd (upd (K_tres C) 0 d) 11 (C 11))) 647 0) 41 0) 31 0) 26 (-1)) 27 0) 28 0) 24 0) 25 0) 29 0) 30 0) 102 0) 118 0
theorem s_X7_startAgain {om : OM} {l : Launch} {B : Nat × Nat} {h0 : Hp} {b : Nat} {C : Nat → Int32} {W : Nat → Int64} (hl : l.stackTraces = false) (d : Int32) : Runs om l M_X7_startAgain B 0 (entL 3 [.ref b, .int d]) [] (sH h0 b C W) (Det (none) (sH h0 b (K_start C d) (K_zero W 8))) := by
  show Runs om l M_X7_startAgain B 0 [some (.ref b), some (.int d), none] [] _ _
  refine r_aload_n (pc := 0) dX7_startAgain_0 rfl rfl ?_
  refine cs_get0 (pc := 1) dX7_startAgain_1 rfl f_RX7_12 rfl ?_
  refine cs_get (i := 1) (pc := 4) dX7_startAgain_4 rfl f_RX7_75 (by decide) rfl rfl ?_
  refine q_istore_n [_, _, _] (pc := 7) dX7_startAgain_7 rfl (by decide) rfl ?_
  refine r_aload_n (pc := 8) dX7_startAgain_8 rfl rfl ?_
  refine cs_get0 (pc := 9) dX7_startAgain_9 rfl f_RX7_12 rfl ?_
  refine q_callV (ci := 7) (T := TX8) (N := 14) (vs := []) (pc := 12) dX7_startAgain_12 rfl l_RX7_79 rfl ⟨by decide, by decide⟩ rfl (Nat.le_of_ble_eq_true rfl) hl (sH_at (i := 1) (by decide)) rfl (Nat.le_of_ble_eq_true rfl) (s_X8_reset) sH_22 ?_
  refine r_aload_n (pc := 15) dX7_startAgain_15 rfl rfl ?_
  refine cs_get0 (pc := 16) dX7_startAgain_16 rfl f_RX7_12 rfl ?_
  refine r_iload_n (pc := 19) dX7_startAgain_19 rfl rfl ?_
  refine cs_put (i := 1) 0 (pc := 20) dX7_startAgain_20 rfl f_RX7_82 (by decide) rfl (Nat.le_of_ble_eq_true rfl) rfl rfl ?_
  refine r_aload_n (pc := 23) dX7_startAgain_23 rfl rfl ?_
  refine cs_get0 (pc := 24) dX7_startAgain_24 rfl f_RX7_12 rfl ?_
  refine r_iload_n (pc := 27) dX7_startAgain_27 rfl rfl ?_
  refine cs_put (i := 1) 11 (pc := 28) dX7_startAgain_28 rfl f_RX7_75 (by decide) rfl (Nat.le_of_ble_eq_true rfl) rfl rfl ?_
  refine r_aload_n (pc := 31) dX7_startAgain_31 rfl rfl ?_
  refine cs_get0 (pc := 32) dX7_startAgain_32 rfl f_RX7_21 rfl ?_
  refine q_callV (ci := 5) (T := TX6) (N := 1) (vs := []) (pc := 35) dX7_startAgain_35 rfl l_RX7_85 rfl ⟨by decide, by decide⟩ rfl (Nat.le_of_ble_eq_true rfl) hl (sH_at (i := 4) (by decide)) rfl (Nat.le_of_ble_eq_true rfl) (s_X6_reset hl) sH_22 ?_
  refine r_aload_n (pc := 38) dX7_startAgain_38 rfl rfl ?_
  refine cs_get0 (pc := 39) dX7_startAgain_39 rfl f_RX7_28 rfl ?_
  refine q_callV (ci := 4) (T := TX5) (N := 2) (vs := []) (pc := 42) dX7_startAgain_42 rfl l_RX7_86 rfl ⟨by decide, by decide⟩ rfl (Nat.le_of_ble_eq_true rfl) hl (sH_at (i := 6) (by decide)) rfl (Nat.le_of_ble_eq_true rfl) (s_X5_reset) sH_22 ?_
  refine r_aload_n (pc := 45) dX7_startAgain_45 rfl rfl ?_
  refine cs_get0 (pc := 46) dX7_startAgain_46 rfl f_RX7_35 rfl ?_
  refine q_callV (ci := 2) (T := TX3) (N := 5) (vs := []) (pc := 49) dX7_startAgain_49 rfl l_RX7_87 rfl ⟨by decide, by decide⟩ rfl (Nat.le_of_ble_eq_true rfl) hl (sH_at (i := 8) (by decide)) rfl (Nat.le_of_ble_eq_true rfl) (s_X3_reset) sH_22 ?_
  refine r_aload_n (pc := 52) dX7_startAgain_52 rfl rfl ?_
  refine cs_get0 (pc := 53) dX7_startAgain_53 rfl f_RX7_42 rfl ?_
  refine q_callV (ci := 3) (T := TX4) (N := 9) (vs := []) (pc := 56) dX7_startAgain_56 rfl l_RX7_88 rfl ⟨by decide, by decide⟩ rfl (Nat.le_of_ble_eq_true rfl) hl (sH_at (i := 13) (by decide)) rfl (Nat.le_of_ble_eq_true rfl) (s_X4_reset) sH_22 ?_
  refine r_aload_n (pc := 59) dX7_startAgain_59 rfl rfl ?_
  refine cs_get0 (pc := 60) dX7_startAgain_60 rfl f_RX7_49 rfl ?_
  refine q_callV (ci := 1) (T := TX2) (N := 2) (vs := []) (pc := 63) dX7_startAgain_63 rfl l_RX7_89 rfl ⟨by decide, by decide⟩ rfl (Nat.le_of_ble_eq_true rfl) hl (sH_at (i := 15) (by decide)) rfl (Nat.le_of_ble_eq_true rfl) (s_X2_reset15) sH_22 ?_
  refine r_aload_n (pc := 66) dX7_startAgain_66 rfl rfl ?_
  refine cs_get0 (pc := 67) dX7_startAgain_67 rfl f_RX7_53 rfl ?_
  refine q_callV (ci := 1) (T := TX2) (N := 2) (vs := []) (pc := 70) dX7_startAgain_70 rfl l_RX7_89 rfl ⟨by decide, by decide⟩ rfl (Nat.le_of_ble_eq_true rfl) hl (sH_at (i := 17) (by decide)) rfl (Nat.le_of_ble_eq_true rfl) (s_X2_reset17) sH_22 ?_
  exact r_return (S := []) (pc := 73) dX7_startAgain_73 rfl ⟨rfl, rfl⟩
theorem s_X7_change {om : OM} {l : Launch} {B : Nat × Nat} {h0 : Hp} {b : Nat} {C : Nat → Int32} {W : Nat → Int64} (hl : l.stackTraces = false) (x y : Int32) (k : Nat) (hx : x = nI k) (hk : k < 12) (h6 : k ≠ 6) : Runs om l M_X7_change B 0 (entL 3 [.ref b, .int x, .int y]) [] (sH h0 b C W) (Det (none) (sH h0 b (upd C (12 + k) y) W)) := by
  show Runs om l M_X7_change B 0 [some (.ref b), some (.int x), some (.int y)] [] _ _
  refine r_aload_n (pc := 0) dX7_change_0 rfl rfl ?_
  refine cs_get0 (pc := 1) dX7_change_1 rfl f_RX7_21 rfl ?_
  refine r_iload_n (pc := 4) dX7_change_4 rfl rfl ?_
  refine r_iload_n (pc := 5) dX7_change_5 rfl rfl ?_
  refine q_callV (ci := 5) (T := TX6) (N := 1) (vs := [.int _, .int _]) (pc := 6) dX7_change_6 rfl l_RX7_90 rfl ⟨by decide, by decide⟩ rfl (Nat.le_of_ble_eq_true rfl) hl (sH_at (i := 4) (by decide)) rfl (Nat.le_of_ble_eq_true rfl) (s_X6_put hl _ k hx hk _) sH_22 ?_
  refine r_iload_n (pc := 9) dX7_change_9 rfl rfl ?_
  refine r_bipush (v := 6) (pc := 10) dX7_change_10 (by decide) ?_
  refine r_icmp_ne 23 (pc := 12) dX7_change_12 (by decide) (fun c12 => ?_) (fun c12 => absurd c12 (c_eqf hx rfl (a := k) (b := 6) (by omega) (by omega) (by omega)))
  exact r_return (S := []) (pc := 23) dX7_change_23 rfl ⟨rfl, rfl⟩
theorem s_X7_change6 {om : OM} {l : Launch} {B : Nat × Nat} {h0 : Hp} {b : Nat} {C : Nat → Int32} {W : Nat → Int64} (hl : l.stackTraces = false) (x y : Int32) (hx : x = nI 6) (K L : Nat) (hK : C 31 = nI K) (hK9 : K ≤ 9) (hy : y = nI L) (hL : L ≤ 9) : Runs om l M_X7_change B 0 (entL 3 [.ref b, .int x, .int y]) [] (sH h0 b C W) (Det (none) (sH h0 b (upd (upd C (12 + 6) y) 31 (nI (min K L))) W)) := by
  show Runs om l M_X7_change B 0 [some (.ref b), some (.int x), some (.int y)] [] _ _
  refine r_aload_n (pc := 0) dX7_change_0 rfl rfl ?_
  refine cs_get0 (pc := 1) dX7_change_1 rfl f_RX7_21 rfl ?_
  refine r_iload_n (pc := 4) dX7_change_4 rfl rfl ?_
  refine r_iload_n (pc := 5) dX7_change_5 rfl rfl ?_
  refine q_callV (ci := 5) (T := TX6) (N := 1) (vs := [.int _, .int _]) (pc := 6) dX7_change_6 rfl l_RX7_90 rfl ⟨by decide, by decide⟩ rfl (Nat.le_of_ble_eq_true rfl) hl (sH_at (i := 4) (by decide)) rfl (Nat.le_of_ble_eq_true rfl) (s_X6_put hl _ 6 hx (by decide) _) sH_22 ?_
  refine r_iload_n (pc := 9) dX7_change_9 rfl rfl ?_
  refine r_bipush (v := 6) (pc := 10) dX7_change_10 (by decide) ?_
  refine r_icmp_ne 23 (pc := 12) dX7_change_12 (by decide) (fun c12 => absurd (c_eqt hx rfl (a := 6) (b := 6) (by omega) (by omega) (by omega)) c12) (fun c12 => ?_)
  refine r_aload_n (pc := 15) dX7_change_15 rfl rfl ?_
  refine cs_get0 (pc := 16) dX7_change_16 rfl f_RX7_42 rfl ?_
  refine r_iload_n (pc := 19) dX7_change_19 rfl rfl ?_
  refine q_callV (ci := 3) (T := TX4) (N := 9) (vs := [.int _]) (pc := 20) dX7_change_20 rfl l_RX7_94 rfl ⟨by decide, by decide⟩ rfl (Nat.le_of_ble_eq_true rfl) hl (sH_at (i := 13) (by decide)) rfl (Nat.le_of_ble_eq_true rfl) (s_X4_shorten K ((upd_n (by decide)).trans hK) hK9 L _ hy hL) sH_22 ?_
  exact r_return (S := []) (pc := 23) dX7_change_23 rfl ⟨rfl, rfl⟩
theorem lp_X8_dig1 {om : OM} {l : Launch} {B : Nat × Nat} {h0 : Hp} {b : Nat} {C : Nat → Int32} {W : Nat → Int64} {Post : Out → Hp → Prop} (hl : l.stackTraces = false) (x : Int64) (K : Nat) (hK : C 4 = nI K) (hK6 : K ≤ 6) : ∀ (n9 k : Nat) (g : Int64), k + n9 = K → g = R_mixN (fun j => C (134 + j)) (2 * k) x → Runs om l M_X8_addToDigest B 48 [some (.ref (b + 1)), some (.long x), none, some (.long (R_mixN (fun j => C (134 + j)) (2 * K) x)), none, some (.int (nI K))] [] (sH h0 b C W) Post → Runs om l M_X8_addToDigest B 5 [some (.ref (b + 1)), some (.long x), none, some (.long g), none, some (.int (nI k))] [] (sH h0 b C W) Post := by
  intro n9
  induction n9 with
  | zero =>
    intro k g hk e_g KK
    have e9 : k = K := by omega
    refine r_iload (pc := 5) dX8_addToDigest_5 rfl ?_
    refine r_aload_n (pc := 7) dX8_addToDigest_7 rfl rfl ?_
    refine cs_get (i := 1) (pc := 8) dX8_addToDigest_8 rfl f_RX8_34 (by decide) rfl rfl ?_
    refine r_icmp_ge 48 (pc := 11) dX8_addToDigest_11 (by decide) (fun c11 => ?_) (fun c11 => absurd (c_get rfl hK (a := k) (b := K) (by omega) (by omega) (by omega)) c11)
    subst e9
    subst e_g
    exact KK
  | succ n9 ih =>
    intro k g hk e_g KK
    refine r_iload (pc := 5) dX8_addToDigest_5 rfl ?_
    refine r_aload_n (pc := 7) dX8_addToDigest_7 rfl rfl ?_
    refine cs_get (i := 1) (pc := 8) dX8_addToDigest_8 rfl f_RX8_34 (by decide) rfl rfl ?_
    refine r_icmp_ge 48 (pc := 11) dX8_addToDigest_11 (by decide) (fun c11 => absurd c11 (c_gef rfl hK (a := k) (b := K) (by omega) (by omega) (by omega))) (fun c11 => ?_)
    refine r_ldc2 (pc := 14) dX8_addToDigest_14 rfl k_RX8_89 ?_
    refine r_lload_n (pc := 17) dX8_addToDigest_17 rfl rfl ?_
    refine r_lmul (pc := 18) dX8_addToDigest_18 ?_
    refine r_aload_n (pc := 19) dX8_addToDigest_19 rfl rfl ?_
    refine r_iload (pc := 20) dX8_addToDigest_20 rfl ?_
    refine q_callV (ci := 7) (T := TX8) (N := 14) (vs := [.int _]) (pc := 22) dX8_addToDigest_22 rfl l_RX8_91 rfl ⟨by decide, by decide⟩ rfl (Nat.le_of_ble_eq_true rfl) hl (sH_at (i := 1) (by decide)) rfl (Nat.le_of_ble_eq_true rfl) (s_X8_thingDistance hl _ k K rfl hK (by omega) hK6) sH_22 ?_
    refine r_i2l (pc := 25) dX8_addToDigest_25 ?_
    refine r_ladd (pc := 26) dX8_addToDigest_26 ?_
    refine q_lstore_n [_, _, _, _, _, _] (pc := 27) dX8_addToDigest_27 rfl (by decide) rfl ?_
    refine r_ldc2 (pc := 28) dX8_addToDigest_28 rfl k_RX8_89 ?_
    refine r_lload_n (pc := 31) dX8_addToDigest_31 rfl rfl ?_
    refine r_lmul (pc := 32) dX8_addToDigest_32 ?_
    refine r_aload_n (pc := 33) dX8_addToDigest_33 rfl rfl ?_
    refine r_iload (pc := 34) dX8_addToDigest_34 rfl ?_
    refine q_callV (ci := 7) (T := TX8) (N := 14) (vs := [.int _]) (pc := 36) dX8_addToDigest_36 rfl l_RX8_94 rfl ⟨by decide, by decide⟩ rfl (Nat.le_of_ble_eq_true rfl) hl (sH_at (i := 1) (by decide)) rfl (Nat.le_of_ble_eq_true rfl) (s_X8_thingStrength hl _ k K rfl hK (by omega) hK6) sH_22 ?_
    refine r_i2l (pc := 39) dX8_addToDigest_39 ?_
    refine r_ladd (pc := 40) dX8_addToDigest_40 ?_
    refine q_lstore_n [_, _, _, _, _, _] (pc := 41) dX8_addToDigest_41 rfl (by decide) rfl ?_
    refine q_iinc (nI (k + 1)) [_, _, _, _, _, _] (pc := 42) dX8_addToDigest_42 rfl (by decide) (ninc 1 rfl) rfl ?_
    refine r_goto 5 (pc := 45) dX8_addToDigest_45 (by decide) ?_
    exact ih (k + 1) _ (by omega) (by rw [e_g]; rfl) KK
theorem lp_X8_dig2 {om : OM} {l : Launch} {B : Nat × Nat} {h0 : Hp} {b : Nat} {C : Nat → Int32} {W : Nat → Int64} {Post : Out → Hp → Prop} (hl : l.stackTraces = false) (x y : Int64) (K : Nat) (hK : C 5 = nI K) (hK6 : K ≤ 6) : ∀ (n9 k : Nat) (g : Int64), k + n9 = K → g = R_mixN (fun j => R_angle C (nI j)) k y → Runs om l M_X8_addToDigest B 80 [some (.ref (b + 1)), some (.long x), none, some (.long (R_mixN (fun j => R_angle C (nI j)) K y)), none, some (.int (nI K))] [] (sH h0 b C W) Post → Runs om l M_X8_addToDigest B 51 [some (.ref (b + 1)), some (.long x), none, some (.long g), none, some (.int (nI k))] [] (sH h0 b C W) Post := by
  intro n9
  induction n9 with
  | zero =>
    intro k g hk e_g KK
    have e9 : k = K := by omega
    refine r_iload (pc := 51) dX8_addToDigest_51 rfl ?_
    refine r_aload_n (pc := 53) dX8_addToDigest_53 rfl rfl ?_
    refine cs_get (i := 1) (pc := 54) dX8_addToDigest_54 rfl f_RX8_37 (by decide) rfl rfl ?_
    refine r_icmp_ge 80 (pc := 57) dX8_addToDigest_57 (by decide) (fun c57 => ?_) (fun c57 => absurd (c_get rfl hK (a := k) (b := K) (by omega) (by omega) (by omega)) c57)
    subst e9
    subst e_g
    exact KK
  | succ n9 ih =>
    intro k g hk e_g KK
    refine r_iload (pc := 51) dX8_addToDigest_51 rfl ?_
    refine r_aload_n (pc := 53) dX8_addToDigest_53 rfl rfl ?_
    refine cs_get (i := 1) (pc := 54) dX8_addToDigest_54 rfl f_RX8_37 (by decide) rfl rfl ?_
    refine r_icmp_ge 80 (pc := 57) dX8_addToDigest_57 (by decide) (fun c57 => absurd c57 (c_gef rfl hK (a := k) (b := K) (by omega) (by omega) (by omega))) (fun c57 => ?_)
    refine r_ldc2 (pc := 60) dX8_addToDigest_60 rfl k_RX8_89 ?_
    refine r_lload_n (pc := 63) dX8_addToDigest_63 rfl rfl ?_
    refine r_lmul (pc := 64) dX8_addToDigest_64 ?_
    refine r_aload_n (pc := 65) dX8_addToDigest_65 rfl rfl ?_
    refine r_iload (pc := 66) dX8_addToDigest_66 rfl ?_
    refine q_callV (ci := 7) (T := TX8) (N := 14) (vs := [.int _]) (pc := 68) dX8_addToDigest_68 rfl l_RX8_78 rfl ⟨by decide, by decide⟩ rfl (Nat.le_of_ble_eq_true rfl) hl (sH_at (i := 1) (by decide)) rfl (Nat.le_of_ble_eq_true rfl) (s_X8_bladeAngle _ K hK (by omega) hK6) sH_22 ?_
    refine r_i2l (pc := 71) dX8_addToDigest_71 ?_
    refine r_ladd (pc := 72) dX8_addToDigest_72 ?_
    refine q_lstore_n [_, _, _, _, _, _] (pc := 73) dX8_addToDigest_73 rfl (by decide) rfl ?_
    refine q_iinc (nI (k + 1)) [_, _, _, _, _, _] (pc := 74) dX8_addToDigest_74 rfl (by decide) (ninc 1 rfl) rfl ?_
    refine r_goto 51 (pc := 77) dX8_addToDigest_77 (by decide) ?_
    exact ih (k + 1) _ (by omega) (by rw [e_g]; rfl) KK
theorem s_X8_addToDigest {om : OM} {l : Launch} {B : Nat × Nat} {h0 : Hp} {b : Nat} {C : Nat → Int32} {W : Nat → Int64} (hl : l.stackTraces = false) (x : Int64) (K4 K5 : Nat) (h4 : C 4 = nI K4) (hK4 : K4 ≤ 6) (h5 : C 5 = nI K5) (hK5 : K5 ≤ 6) : Runs om l M_X8_addToDigest B 0 (entL 6 [.ref (b + 1), .long x]) [] (sH h0 b C W) (Det (some (.long (R_mixN (fun j => R_angle C (nI j)) K5 (R_mixN (fun j => C (134 + j)) (2 * K4) x)))) (sH h0 b C W)) := by
  show Runs om l M_X8_addToDigest B 0 [some (.ref (b + 1)), some (.long x), none, none, none, none] [] _ _
  refine r_lload_n (pc := 0) dX8_addToDigest_0 rfl rfl ?_
  refine q_lstore_n [_, _, _, _, _, _] (pc := 1) dX8_addToDigest_1 rfl (by decide) rfl ?_
  refine r_iconst (v := 0) (pc := 2) dX8_addToDigest_2 (by decide) ?_
  refine q_istore [_, _, _, _, _, _] (pc := 3) dX8_addToDigest_3 (by decide) rfl ?_
  refine lp_X8_dig1 hl x K4 h4 hK4 K4 0 _ (by omega) rfl ?_
  refine r_iconst (v := 0) (pc := 48) dX8_addToDigest_48 (by decide) ?_
  refine q_istore [_, _, _, _, _, _] (pc := 49) dX8_addToDigest_49 (by decide) rfl ?_
  refine lp_X8_dig2 hl x _ K5 h5 hK5 K5 0 _ (by omega) rfl ?_
  refine r_lload_n (pc := 80) dX8_addToDigest_80 rfl rfl ?_
  exact r_lreturn (S := []) (pc := 81) dX8_addToDigest_81 rfl ⟨rfl, rfl⟩
theorem lp_X5_dig {om : OM} {l : Launch} {B : Nat × Nat} {h0 : Hp} {b : Nat} {C : Nat → Int32} {W : Nat → Int64} {Post : Out → Hp → Prop} (hl : l.stackTraces = false) (x : Int64) : ∀ (n9 k : Nat) (g : Int64), k + n9 = 501 → g = R_mixN (K_bin W) k x → Runs om l M_X5_addToDigest B 40 [some (.ref (b + 6)), some (.long x), none, some (.long (R_mixN (K_bin W) 501 x)), none, some (.int (nI 501))] [] (sH h0 b C W) Post → Runs om l M_X5_addToDigest B 5 [some (.ref (b + 6)), some (.long x), none, some (.long g), none, some (.int (nI k))] [] (sH h0 b C W) Post := by
  intro n9
  induction n9 with
  | zero =>
    intro k g hk e_g KK
    have e9 : k = 501 := by omega
    subst e9
    refine r_iload (pc := 5) dX5_addToDigest_5 rfl ?_
    refine r_sipush (v := 501) (pc := 7) dX5_addToDigest_7 (by decide) ?_
    refine r_icmp_ge 40 (pc := 10) dX5_addToDigest_10 (by decide) (fun c10 => ?_) (fun c10 => absurd (c_get rfl rfl (a := 501) (b := 501) (by omega) (by omega) (by omega)) c10)
    subst e_g
    exact KK
  | succ n9 ih =>
    intro k g hk e_g KK
    refine r_iload (pc := 5) dX5_addToDigest_5 rfl ?_
    refine r_sipush (v := 501) (pc := 7) dX5_addToDigest_7 (by decide) ?_
    refine r_icmp_ge 40 (pc := 10) dX5_addToDigest_10 (by decide) (fun c10 => absurd c10 (c_gef rfl rfl (a := k) (b := 501) (by omega) (by omega) (by omega))) (fun c10 => ?_)
    refine r_ldc2 (pc := 13) dX5_addToDigest_13 rfl k_RX5_39 ?_
    refine r_lload_n (pc := 16) dX5_addToDigest_16 rfl rfl ?_
    refine r_lmul (pc := 17) dX5_addToDigest_17 ?_
    refine r_aload_n (pc := 18) dX5_addToDigest_18 rfl rfl ?_
    refine r_iload (pc := 19) dX5_addToDigest_19 rfl ?_
    refine q_callV (ci := 4) (T := TX5) (N := 2) (vs := [.int _]) (pc := 21) dX5_addToDigest_21 rfl l_RX5_31 rfl ⟨by decide, by decide⟩ rfl (Nat.le_of_ble_eq_true rfl) hl (sH_at (i := 6) (by decide)) rfl (Nat.le_of_ble_eq_true rfl) (s_X5_hasBin hl k _ rfl (by omega)) sH_22 ?_
    refine r_if_eq 31 (pc := 24) dX5_addToDigest_24 (by decide) (fun c24 => ?_) (fun c24 => ?_)
    · refine r_lconst (v := 0) (pc := 31) dX5_addToDigest_31 rfl ?_
      refine r_ladd (pc := 32) dX5_addToDigest_32 ?_
      refine q_lstore_n [_, _, _, _, _, _] (pc := 33) dX5_addToDigest_33 rfl (by decide) rfl ?_
      refine q_iinc (nI (k + 1)) [_, _, _, _, _, _] (pc := 34) dX5_addToDigest_34 rfl (by decide) (ninc 1 rfl) rfl ?_
      refine r_goto 5 (pc := 37) dX5_addToDigest_37 (by decide) ?_
      exact ih (k + 1) _ (by omega) (by first | (rw [show R_mixN (K_bin W) (k + 1) x = R_mx (R_mixN (K_bin W) k x) (K_bin W k) from rfl, ← e_g, R_mx, c24]; rfl) | (rw [show R_mixN (K_bin W) (k + 1) x = R_mx (R_mixN (K_bin W) k x) (K_bin W k) from rfl, ← e_g, R_mx, (bin01 W k).resolve_left c24]; rfl)) KK
    · refine r_lconst (v := 1) (pc := 27) dX5_addToDigest_27 rfl ?_
      refine r_goto 32 (pc := 28) dX5_addToDigest_28 (by decide) ?_
      refine r_ladd (pc := 32) dX5_addToDigest_32 ?_
      refine q_lstore_n [_, _, _, _, _, _] (pc := 33) dX5_addToDigest_33 rfl (by decide) rfl ?_
      refine q_iinc (nI (k + 1)) [_, _, _, _, _, _] (pc := 34) dX5_addToDigest_34 rfl (by decide) (ninc 1 rfl) rfl ?_
      refine r_goto 5 (pc := 37) dX5_addToDigest_37 (by decide) ?_
      exact ih (k + 1) _ (by omega) (by first | (rw [show R_mixN (K_bin W) (k + 1) x = R_mx (R_mixN (K_bin W) k x) (K_bin W k) from rfl, ← e_g, R_mx, c24]; rfl) | (rw [show R_mixN (K_bin W) (k + 1) x = R_mx (R_mixN (K_bin W) k x) (K_bin W k) from rfl, ← e_g, R_mx, (bin01 W k).resolve_left c24]; rfl)) KK
theorem s_X5_addToDigest {om : OM} {l : Launch} {B : Nat × Nat} {h0 : Hp} {b : Nat} {C : Nat → Int32} {W : Nat → Int64} (hl : l.stackTraces = false) (x : Int64) : Runs om l M_X5_addToDigest B 0 (entL 6 [.ref (b + 6), .long x]) [] (sH h0 b C W) (Det (some (.long (R_mixN (K_bin W) 501 x))) (sH h0 b C W)) := by
  show Runs om l M_X5_addToDigest B 0 [some (.ref (b + 6)), some (.long x), none, none, none, none] [] _ _
  refine r_lload_n (pc := 0) dX5_addToDigest_0 rfl rfl ?_
  refine q_lstore_n [_, _, _, _, _, _] (pc := 1) dX5_addToDigest_1 rfl (by decide) rfl ?_
  refine r_iconst (v := 0) (pc := 2) dX5_addToDigest_2 (by decide) ?_
  refine q_istore [_, _, _, _, _, _] (pc := 3) dX5_addToDigest_3 (by decide) rfl ?_
  refine lp_X5_dig hl x 501 0 _ (by omega) rfl ?_
  refine r_lload_n (pc := 40) dX5_addToDigest_40 rfl rfl ?_
  exact r_lreturn (S := []) (pc := 41) dX5_addToDigest_41 rfl ⟨rfl, rfl⟩
def K_val (C : Nat → Int32) (k w : Nat) : Int32 := if w = 0 then C (42 + 4 * k) else if w = 1 then C (42 + 4 * k + 1) else if w = 2 then C (42 + 4 * k + 2) else if w = 3 then K_mk (C (42 + 4 * k + 3)) 1 else if w = 4 then K_mk (C (42 + 4 * k + 3)) 2 else K_mk (C (42 + 4 * k + 3)) 4
theorem mk01 (x m : Int32) : K_mk x m = 0 ∨ K_mk x m = 1 := by
  unfold K_mk
  split
  · exact Or.inl rfl
  · exact Or.inr rfl
theorem s_X3_value {om : OM} {l : Launch} {B : Nat × Nat} {h0 : Hp} {b : Nat} {C : Nat → Int32} {W : Nat → Int64} (hl : l.stackTraces = false) (x : Int32) (k K : Nat) (hx : x = nI k) (hK : C 41 = nI K) (hk : k < K) (h15 : K ≤ 15) (y : Int32) (w : Nat) (hy : y = nI w) (hw : w ≤ 5) : Runs om l M_X3_value B 0 (entL 3 [.ref (b + 8), .int x, .int y]) [] (sH h0 b C W) (Det (some (.int (K_val C k w))) (sH h0 b C W)) := by
  subst hy
  have hw' : w = 0 ∨ w = 1 ∨ w = 2 ∨ w = 3 ∨ w = 4 ∨ w = 5 := by omega
  rcases hw' with rfl | rfl | rfl | rfl | rfl | rfl
  · show Runs om l M_X3_value B 0 [some (.ref (b + 8)), some (.int x), some (.int (nI 0))] [] _ _
    refine r_aload_n (pc := 0) dX3_value_0 rfl rfl ?_
    refine r_iload_n (pc := 1) dX3_value_1 rfl rfl ?_
    refine q_callV (ci := 2) (T := TX3) (N := 5) (vs := [.int _]) (pc := 2) dX3_value_2 rfl l_RX3_32 rfl ⟨by decide, by decide⟩ rfl (Nat.le_of_ble_eq_true rfl) hl (sH_at (i := 8) (by decide)) rfl (Nat.le_of_ble_eq_true rfl) (s_X3_has _ k K hx hK hk h15) sH_22 ?_
    refine r_if_ne 10 (pc := 5) dX3_value_5 (by decide) (fun c5 => ?_) (fun c5 => absurd c5 (c_eqf rfl rfl (a := 1) (b := 0) (by omega) (by omega) (by omega)))
    refine r_iload_n (pc := 10) dX3_value_10 rfl rfl ?_
    refine r_tableIn 48 (pc := 11) dX3_value_11 (by decide) (by decide) rfl (by decide) ?_
    refine r_aload_n (pc := 48) dX3_value_48 rfl rfl ?_
    refine r_iload_n (pc := 49) dX3_value_49 rfl rfl ?_
    refine q_callV (ci := 2) (T := TX3) (N := 5) (vs := [.int _]) (pc := 50) dX3_value_50 rfl l_RX3_79 rfl ⟨by decide, by decide⟩ rfl (Nat.le_of_ble_eq_true rfl) hl (sH_at (i := 8) (by decide)) rfl (Nat.le_of_ble_eq_true rfl) (s_X3_kind hl _ k K hx hK hk h15) sH_22 ?_
    exact r_ireturn (S := []) (pc := 53) dX3_value_53 rfl rfl ⟨rfl, rfl⟩
  · show Runs om l M_X3_value B 0 [some (.ref (b + 8)), some (.int x), some (.int (nI 1))] [] _ _
    refine r_aload_n (pc := 0) dX3_value_0 rfl rfl ?_
    refine r_iload_n (pc := 1) dX3_value_1 rfl rfl ?_
    refine q_callV (ci := 2) (T := TX3) (N := 5) (vs := [.int _]) (pc := 2) dX3_value_2 rfl l_RX3_32 rfl ⟨by decide, by decide⟩ rfl (Nat.le_of_ble_eq_true rfl) hl (sH_at (i := 8) (by decide)) rfl (Nat.le_of_ble_eq_true rfl) (s_X3_has _ k K hx hK hk h15) sH_22 ?_
    refine r_if_ne 10 (pc := 5) dX3_value_5 (by decide) (fun c5 => ?_) (fun c5 => absurd c5 (c_eqf rfl rfl (a := 1) (b := 0) (by omega) (by omega) (by omega)))
    refine r_iload_n (pc := 10) dX3_value_10 rfl rfl ?_
    refine r_tableIn 54 (pc := 11) dX3_value_11 (by decide) (by decide) rfl (by decide) ?_
    refine r_aload_n (pc := 54) dX3_value_54 rfl rfl ?_
    refine r_iload_n (pc := 55) dX3_value_55 rfl rfl ?_
    refine q_callV (ci := 2) (T := TX3) (N := 5) (vs := [.int _]) (pc := 56) dX3_value_56 rfl l_RX3_73 rfl ⟨by decide, by decide⟩ rfl (Nat.le_of_ble_eq_true rfl) hl (sH_at (i := 8) (by decide)) rfl (Nat.le_of_ble_eq_true rfl) (s_X3_distance hl _ k K hx hK hk h15) sH_22 ?_
    exact r_ireturn (S := []) (pc := 59) dX3_value_59 rfl rfl ⟨rfl, rfl⟩
  · show Runs om l M_X3_value B 0 [some (.ref (b + 8)), some (.int x), some (.int (nI 2))] [] _ _
    refine r_aload_n (pc := 0) dX3_value_0 rfl rfl ?_
    refine r_iload_n (pc := 1) dX3_value_1 rfl rfl ?_
    refine q_callV (ci := 2) (T := TX3) (N := 5) (vs := [.int _]) (pc := 2) dX3_value_2 rfl l_RX3_32 rfl ⟨by decide, by decide⟩ rfl (Nat.le_of_ble_eq_true rfl) hl (sH_at (i := 8) (by decide)) rfl (Nat.le_of_ble_eq_true rfl) (s_X3_has _ k K hx hK hk h15) sH_22 ?_
    refine r_if_ne 10 (pc := 5) dX3_value_5 (by decide) (fun c5 => ?_) (fun c5 => absurd c5 (c_eqf rfl rfl (a := 1) (b := 0) (by omega) (by omega) (by omega)))
    refine r_iload_n (pc := 10) dX3_value_10 rfl rfl ?_
    refine r_tableIn 60 (pc := 11) dX3_value_11 (by decide) (by decide) rfl (by decide) ?_
    refine r_aload_n (pc := 60) dX3_value_60 rfl rfl ?_
    refine r_iload_n (pc := 61) dX3_value_61 rfl rfl ?_
    refine q_callV (ci := 2) (T := TX3) (N := 5) (vs := [.int _]) (pc := 62) dX3_value_62 rfl l_RX3_70 rfl ⟨by decide, by decide⟩ rfl (Nat.le_of_ble_eq_true rfl) hl (sH_at (i := 8) (by decide)) rfl (Nat.le_of_ble_eq_true rfl) (s_X3_strength hl _ k K hx hK hk h15) sH_22 ?_
    exact r_ireturn (S := []) (pc := 65) dX3_value_65 rfl rfl ⟨rfl, rfl⟩
  · show Runs om l M_X3_value B 0 [some (.ref (b + 8)), some (.int x), some (.int (nI 3))] [] _ _
    refine r_aload_n (pc := 0) dX3_value_0 rfl rfl ?_
    refine r_iload_n (pc := 1) dX3_value_1 rfl rfl ?_
    refine q_callV (ci := 2) (T := TX3) (N := 5) (vs := [.int _]) (pc := 2) dX3_value_2 rfl l_RX3_32 rfl ⟨by decide, by decide⟩ rfl (Nat.le_of_ble_eq_true rfl) hl (sH_at (i := 8) (by decide)) rfl (Nat.le_of_ble_eq_true rfl) (s_X3_has _ k K hx hK hk h15) sH_22 ?_
    refine r_if_ne 10 (pc := 5) dX3_value_5 (by decide) (fun c5 => ?_) (fun c5 => absurd c5 (c_eqf rfl rfl (a := 1) (b := 0) (by omega) (by omega) (by omega)))
    refine r_iload_n (pc := 10) dX3_value_10 rfl rfl ?_
    refine r_tableIn 66 (pc := 11) dX3_value_11 (by decide) (by decide) rfl (by decide) ?_
    refine r_aload_n (pc := 66) dX3_value_66 rfl rfl ?_
    refine r_iload_n (pc := 67) dX3_value_67 rfl rfl ?_
    refine r_iconst (v := 1) (pc := 68) dX3_value_68 (by decide) ?_
    refine q_callV (ci := 2) (T := TX3) (N := 5) (vs := [.int _, .int _]) (pc := 69) dX3_value_69 rfl l_RX3_63 rfl ⟨by decide, by decide⟩ rfl (Nat.le_of_ble_eq_true rfl) hl (sH_at (i := 8) (by decide)) rfl (Nat.le_of_ble_eq_true rfl) (s_X3_isMarked hl _ k K hx hK hk h15 _) sH_22 ?_
    refine r_if_eq 79 (pc := 72) dX3_value_72 (by decide) (fun c72 => ?_) (fun c72 => ?_)
    · refine r_iconst (v := 0) (pc := 79) dX3_value_79 (by decide) ?_
      exact r_ireturn (S := []) (pc := 80) dX3_value_80 rfl rfl ⟨by first | (rw [show K_val C k 3 = K_mk (C (42 + 4 * k + 3)) 1 from rfl, (by assumption : K_mk (C (42 + 4 * k + 3)) 1 = 0)]; done) | (rw [show K_val C k 3 = K_mk (C (42 + 4 * k + 3)) 1 from rfl, (mk01 _ _).resolve_left (by assumption)]; done), rfl⟩
    · refine r_iconst (v := 1) (pc := 75) dX3_value_75 (by decide) ?_
      refine r_goto 80 (pc := 76) dX3_value_76 (by decide) ?_
      exact r_ireturn (S := []) (pc := 80) dX3_value_80 rfl rfl ⟨by first | (rw [show K_val C k 3 = K_mk (C (42 + 4 * k + 3)) 1 from rfl, (by assumption : K_mk (C (42 + 4 * k + 3)) 1 = 0)]; done) | (rw [show K_val C k 3 = K_mk (C (42 + 4 * k + 3)) 1 from rfl, (mk01 _ _).resolve_left (by assumption)]; done), rfl⟩
  · show Runs om l M_X3_value B 0 [some (.ref (b + 8)), some (.int x), some (.int (nI 4))] [] _ _
    refine r_aload_n (pc := 0) dX3_value_0 rfl rfl ?_
    refine r_iload_n (pc := 1) dX3_value_1 rfl rfl ?_
    refine q_callV (ci := 2) (T := TX3) (N := 5) (vs := [.int _]) (pc := 2) dX3_value_2 rfl l_RX3_32 rfl ⟨by decide, by decide⟩ rfl (Nat.le_of_ble_eq_true rfl) hl (sH_at (i := 8) (by decide)) rfl (Nat.le_of_ble_eq_true rfl) (s_X3_has _ k K hx hK hk h15) sH_22 ?_
    refine r_if_ne 10 (pc := 5) dX3_value_5 (by decide) (fun c5 => ?_) (fun c5 => absurd c5 (c_eqf rfl rfl (a := 1) (b := 0) (by omega) (by omega) (by omega)))
    refine r_iload_n (pc := 10) dX3_value_10 rfl rfl ?_
    refine r_tableIn 81 (pc := 11) dX3_value_11 (by decide) (by decide) rfl (by decide) ?_
    refine r_aload_n (pc := 81) dX3_value_81 rfl rfl ?_
    refine r_iload_n (pc := 82) dX3_value_82 rfl rfl ?_
    refine r_iconst (v := 2) (pc := 83) dX3_value_83 (by decide) ?_
    refine q_callV (ci := 2) (T := TX3) (N := 5) (vs := [.int _, .int _]) (pc := 84) dX3_value_84 rfl l_RX3_63 rfl ⟨by decide, by decide⟩ rfl (Nat.le_of_ble_eq_true rfl) hl (sH_at (i := 8) (by decide)) rfl (Nat.le_of_ble_eq_true rfl) (s_X3_isMarked hl _ k K hx hK hk h15 _) sH_22 ?_
    refine r_if_eq 94 (pc := 87) dX3_value_87 (by decide) (fun c87 => ?_) (fun c87 => ?_)
    · refine r_iconst (v := 0) (pc := 94) dX3_value_94 (by decide) ?_
      exact r_ireturn (S := []) (pc := 95) dX3_value_95 rfl rfl ⟨by first | (rw [show K_val C k 4 = K_mk (C (42 + 4 * k + 3)) 2 from rfl, (by assumption : K_mk (C (42 + 4 * k + 3)) 2 = 0)]; done) | (rw [show K_val C k 4 = K_mk (C (42 + 4 * k + 3)) 2 from rfl, (mk01 _ _).resolve_left (by assumption)]; done), rfl⟩
    · refine r_iconst (v := 1) (pc := 90) dX3_value_90 (by decide) ?_
      refine r_goto 95 (pc := 91) dX3_value_91 (by decide) ?_
      exact r_ireturn (S := []) (pc := 95) dX3_value_95 rfl rfl ⟨by first | (rw [show K_val C k 4 = K_mk (C (42 + 4 * k + 3)) 2 from rfl, (by assumption : K_mk (C (42 + 4 * k + 3)) 2 = 0)]; done) | (rw [show K_val C k 4 = K_mk (C (42 + 4 * k + 3)) 2 from rfl, (mk01 _ _).resolve_left (by assumption)]; done), rfl⟩
  · show Runs om l M_X3_value B 0 [some (.ref (b + 8)), some (.int x), some (.int (nI 5))] [] _ _
    refine r_aload_n (pc := 0) dX3_value_0 rfl rfl ?_
    refine r_iload_n (pc := 1) dX3_value_1 rfl rfl ?_
    refine q_callV (ci := 2) (T := TX3) (N := 5) (vs := [.int _]) (pc := 2) dX3_value_2 rfl l_RX3_32 rfl ⟨by decide, by decide⟩ rfl (Nat.le_of_ble_eq_true rfl) hl (sH_at (i := 8) (by decide)) rfl (Nat.le_of_ble_eq_true rfl) (s_X3_has _ k K hx hK hk h15) sH_22 ?_
    refine r_if_ne 10 (pc := 5) dX3_value_5 (by decide) (fun c5 => ?_) (fun c5 => absurd c5 (c_eqf rfl rfl (a := 1) (b := 0) (by omega) (by omega) (by omega)))
    refine r_iload_n (pc := 10) dX3_value_10 rfl rfl ?_
    refine r_tableIn 96 (pc := 11) dX3_value_11 (by decide) (by decide) rfl (by decide) ?_
    refine r_aload_n (pc := 96) dX3_value_96 rfl rfl ?_
    refine r_iload_n (pc := 97) dX3_value_97 rfl rfl ?_
    refine r_iconst (v := 4) (pc := 98) dX3_value_98 (by decide) ?_
    refine q_callV (ci := 2) (T := TX3) (N := 5) (vs := [.int _, .int _]) (pc := 99) dX3_value_99 rfl l_RX3_63 rfl ⟨by decide, by decide⟩ rfl (Nat.le_of_ble_eq_true rfl) hl (sH_at (i := 8) (by decide)) rfl (Nat.le_of_ble_eq_true rfl) (s_X3_isMarked hl _ k K hx hK hk h15 _) sH_22 ?_
    refine r_if_eq 109 (pc := 102) dX3_value_102 (by decide) (fun c102 => ?_) (fun c102 => ?_)
    · refine r_iconst (v := 0) (pc := 109) dX3_value_109 (by decide) ?_
      exact r_ireturn (S := []) (pc := 110) dX3_value_110 rfl rfl ⟨by first | (rw [show K_val C k 5 = K_mk (C (42 + 4 * k + 3)) 4 from rfl, (by assumption : K_mk (C (42 + 4 * k + 3)) 4 = 0)]; done) | (rw [show K_val C k 5 = K_mk (C (42 + 4 * k + 3)) 4 from rfl, (mk01 _ _).resolve_left (by assumption)]; done), rfl⟩
    · refine r_iconst (v := 1) (pc := 105) dX3_value_105 (by decide) ?_
      refine r_goto 110 (pc := 106) dX3_value_106 (by decide) ?_
      exact r_ireturn (S := []) (pc := 110) dX3_value_110 rfl rfl ⟨by first | (rw [show K_val C k 5 = K_mk (C (42 + 4 * k + 3)) 4 from rfl, (by assumption : K_mk (C (42 + 4 * k + 3)) 4 = 0)]; done) | (rw [show K_val C k 5 = K_mk (C (42 + 4 * k + 3)) 4 from rfl, (mk01 _ _).resolve_left (by assumption)]; done), rfl⟩
def K_edb (C : Nat → Int32) (k : Nat) (x : Int64) : Int64 := R_mixN (K_val C k) 6 x
theorem lp_X3_dig1 {om : OM} {l : Launch} {B : Nat × Nat} {h0 : Hp} {b : Nat} {C : Nat → Int32} {W : Nat → Int64} {Post : Out → Hp → Prop} (hl : l.stackTraces = false) (x y : Int64) (kk K : Nat) (hK : C 41 = nI K) (hK15 : K ≤ 15) (hkk : kk < K) : ∀ (n9 k : Nat) (g : Int64), k + n9 = 6 → g = R_mixN (K_val C kk) k y → Runs om l M_X3_addToDigest B 46 [some (.ref (b + 8)), some (.long x), none, some (.long (R_mixN (K_val C kk) 6 y)), none, some (.int (nI kk)), some (.int (nI 6))] [] (sH h0 b C W) Post → Runs om l M_X3_addToDigest B 17 [some (.ref (b + 8)), some (.long x), none, some (.long g), none, some (.int (nI kk)), some (.int (nI k))] [] (sH h0 b C W) Post := by
  intro n9
  induction n9 with
  | zero =>
    intro k g hk e_g KK
    have e9 : k = 6 := by omega
    subst e9
    refine r_iload (pc := 17) dX3_addToDigest_17 rfl ?_
    refine r_bipush (v := 6) (pc := 19) dX3_addToDigest_19 (by decide) ?_
    refine r_icmp_ge 46 (pc := 21) dX3_addToDigest_21 (by decide) (fun c21 => ?_) (fun c21 => absurd (c_get rfl rfl (a := 6) (b := 6) (by omega) (by omega) (by omega)) c21)
    subst e_g
    exact KK
  | succ n9 ih =>
    intro k g hk e_g KK
    refine r_iload (pc := 17) dX3_addToDigest_17 rfl ?_
    refine r_bipush (v := 6) (pc := 19) dX3_addToDigest_19 (by decide) ?_
    refine r_icmp_ge 46 (pc := 21) dX3_addToDigest_21 (by decide) (fun c21 => absurd c21 (c_gef rfl rfl (a := k) (b := 6) (by omega) (by omega) (by omega))) (fun c21 => ?_)
    refine r_ldc2 (pc := 24) dX3_addToDigest_24 rfl k_RX3_82 ?_
    refine r_lload_n (pc := 27) dX3_addToDigest_27 rfl rfl ?_
    refine r_lmul (pc := 28) dX3_addToDigest_28 ?_
    refine r_aload_n (pc := 29) dX3_addToDigest_29 rfl rfl ?_
    refine r_iload (pc := 30) dX3_addToDigest_30 rfl ?_
    refine r_iload (pc := 32) dX3_addToDigest_32 rfl ?_
    refine q_callV (ci := 2) (T := TX3) (N := 5) (vs := [.int _, .int _]) (pc := 34) dX3_addToDigest_34 rfl l_RX3_84 rfl ⟨by decide, by decide⟩ rfl (Nat.le_of_ble_eq_true rfl) hl (sH_at (i := 8) (by decide)) rfl (Nat.le_of_ble_eq_true rfl) (s_X3_value hl _ kk K rfl hK hkk hK15 _ k rfl (by omega)) sH_22 ?_
    refine r_i2l (pc := 37) dX3_addToDigest_37 ?_
    refine r_ladd (pc := 38) dX3_addToDigest_38 ?_
    refine q_lstore_n [_, _, _, _, _, _, _] (pc := 39) dX3_addToDigest_39 rfl (by decide) rfl ?_
    refine q_iinc (nI (k + 1)) [_, _, _, _, _, _, _] (pc := 40) dX3_addToDigest_40 rfl (by decide) (ninc 1 rfl) rfl ?_
    refine r_goto 17 (pc := 43) dX3_addToDigest_43 (by decide) ?_
    exact ih (k + 1) _ (by omega) (by rw [e_g]; rfl) KK
theorem lp_X3_dig2 {om : OM} {l : Launch} {B : Nat × Nat} {h0 : Hp} {b : Nat} {C : Nat → Int32} {W : Nat → Int64} {Post : Out → Hp → Prop} (hl : l.stackTraces = false) (x : Int64) (K : Nat) (hK : C 41 = nI K) (hK15 : K ≤ 15) : ∀ (n9 k : Nat) (g : Int64), k + n9 = K → g = itN (K_edb C) k x → Runs om l M_X3_addToDigest B 52 [some (.ref (b + 8)), some (.long x), none, some (.long (itN (K_edb C) K x)), none, some (.int (nI K)), none] [] (sH h0 b C W) Post → Runs om l M_X3_addToDigest B 5 [some (.ref (b + 8)), some (.long x), none, some (.long g), none, some (.int (nI k)), none] [] (sH h0 b C W) Post := by
  intro n9
  induction n9 with
  | zero =>
    intro k g hk e_g KK
    have e9 : k = K := by omega
    refine r_iload (pc := 5) dX3_addToDigest_5 rfl ?_
    refine r_aload_n (pc := 7) dX3_addToDigest_7 rfl rfl ?_
    refine cs_get (i := 8) (pc := 8) dX3_addToDigest_8 rfl f_RX3_9 (by decide) rfl rfl ?_
    refine r_icmp_ge 52 (pc := 11) dX3_addToDigest_11 (by decide) (fun c11 => ?_) (fun c11 => absurd (c_get rfl hK (a := k) (b := K) (by omega) (by omega) (by omega)) c11)
    subst e9
    subst e_g
    exact KK
  | succ n9 ih =>
    intro k g hk e_g KK
    refine r_iload (pc := 5) dX3_addToDigest_5 rfl ?_
    refine r_aload_n (pc := 7) dX3_addToDigest_7 rfl rfl ?_
    refine cs_get (i := 8) (pc := 8) dX3_addToDigest_8 rfl f_RX3_9 (by decide) rfl rfl ?_
    refine r_icmp_ge 52 (pc := 11) dX3_addToDigest_11 (by decide) (fun c11 => absurd c11 (c_gef rfl hK (a := k) (b := K) (by omega) (by omega) (by omega))) (fun c11 => ?_)
    refine r_iconst (v := 0) (pc := 14) dX3_addToDigest_14 (by decide) ?_
    refine q_istore [_, _, _, _, _, _, _] (pc := 15) dX3_addToDigest_15 (by decide) rfl ?_
    refine lp_X3_dig1 hl x _ k K hK hK15 (by omega) 6 0 _ (by omega) rfl ?_
    refine q_iinc (nI (k + 1)) [_, _, _, _, _, _, _] (pc := 46) dX3_addToDigest_46 rfl (by decide) (ninc 1 rfl) rfl ?_
    refine r_goto 5 (pc := 49) dX3_addToDigest_49 (by decide) ?_
    refine r_wk [some _, some _, none, some _, none, some _, none] ⟨rfl, ⟨rfl, ⟨rfl, ⟨rfl, trivial⟩⟩⟩⟩ ?_
    exact ih (k + 1) _ (by omega) (by rw [itN_s, ← e_g, K_edb]) KK
theorem s_X3_addToDigest {om : OM} {l : Launch} {B : Nat × Nat} {h0 : Hp} {b : Nat} {C : Nat → Int32} {W : Nat → Int64} (hl : l.stackTraces = false) (x : Int64) (K : Nat) (hK : C 41 = nI K) (hK15 : K ≤ 15) : Runs om l M_X3_addToDigest B 0 (entL 7 [.ref (b + 8), .long x]) [] (sH h0 b C W) (Det (some (.long (itN (K_edb C) K x))) (sH h0 b C W)) := by
  show Runs om l M_X3_addToDigest B 0 [some (.ref (b + 8)), some (.long x), none, none, none, none, none] [] _ _
  refine r_lload_n (pc := 0) dX3_addToDigest_0 rfl rfl ?_
  refine q_lstore_n [_, _, _, _, _, _, _] (pc := 1) dX3_addToDigest_1 rfl (by decide) rfl ?_
  refine r_iconst (v := 0) (pc := 2) dX3_addToDigest_2 (by decide) ?_
  refine q_istore [_, _, _, _, _, _, _] (pc := 3) dX3_addToDigest_3 (by decide) rfl ?_
  refine lp_X3_dig2 hl x K hK hK15 K 0 _ (by omega) rfl ?_
  refine r_lload_n (pc := 52) dX3_addToDigest_52 rfl rfl ?_
  exact r_lreturn (S := []) (pc := 53) dX3_addToDigest_53 rfl ⟨rfl, rfl⟩
