/-! the class: the history -/
def K_pb (C : Nat → Int32) (d : Int32) : Nat → Int32
  | 0 => 0
  | k + 1 => if C (32 + k) = -1 then K_pb C d k else if d ≤ C (32 + k) then K_pb C d k else K_pb C d k + 1
def K_por (C : Nat → Int32) (K : Nat) (r : Int32) : Nat → Nat → Int32
  | 0, _ => -1
  | m + 1, k => if C (32 + k) = -1 then K_por C K r m (k + 1) else if r < K_pb C (C (32 + k)) K then K_por C K r m (k + 1) else if K_pb C (C (32 + k) + 1) K ≤ r then K_por C K r m (k + 1) else C (32 + k)
def K_med (C : Nat → Int32) (K : Nat) (x : Int32) : Int32 := if 2 * R_kp C K < x then -1 else K_por C K ((R_kp C K - 1) / 2) K 0
def K_tl (C : Nat → Int32) (D : Int32) : Int32 := if C 26 = -1 then -1 else D - C 26
def K_sh (C : Nat → Int32) (n k : Nat) : Nat → Int32 := fun j => if 32 + k < j ∧ j < 32 + n then C (j - 1) else C j
theorem K_sh_0 {C : Nat → Int32} {n k : Nat} (h : n ≤ k + 1) : K_sh C n k = C := funext fun j => if_neg (by omega)
theorem K_sh_s {C : Nat → Int32} {n k : Nat} (h : k + 1 < n) : upd (K_sh C n (k + 1)) (32 + (k + 1)) (K_sh C n (k + 1) (32 + k)) = K_sh C n k := by
  funext j
  unfold upd K_sh
  by_cases hj : j = 32 + (k + 1)
  · subst hj; rw [if_pos rfl, if_neg (by omega), if_pos (by omega)]; congr 1
  · rw [if_neg hj]
    by_cases h2 : 32 + (k + 1) < j ∧ j < 32 + n
    · rw [if_pos h2, if_pos (by omega)]
    · rw [if_neg h2, if_neg (by omega)]
def K_push (C : Nat → Int32) (p : Int32) (n : Nat) : Nat → Int32 := upd (K_sh (upd C 31 (nI n)) n 0) 32 p
def K_flw (C : Nat → Int32) (m f : Int32) : Int32 := if C 26 = -1 then m else if (m - C 26) / f = 0 then m else C 26 + (m - C 26) / f
def K_miss (C : Nat → Int32) (x : Int32) : Nat → Int32 := if R_miss C 27 = x then R_wipe (upd (R_miss C) 26 (-1)) 9 else R_miss C
def K_al2 (C : Nat → Int32) (lv : Int32) : Nat → Int32 := if C 28 = 2 then (if C 22 - C 23 ≤ lv then C else upd C 28 0) else C
def K_al (C : Nat → Int32) (lv : Int32) : Nat → Int32 := if lv = -1 then upd C 28 0 else if C 21 < lv then (if lv < C 22 then (if C 28 = 1 then (if C 21 + C 23 < lv then upd C 28 0 else K_al2 C lv) else K_al2 C lv) else upd C 28 2) else upd C 28 1
def K_alarms (C : Nat → Int32) (lv : Int32) : Nat → Int32 := if K_al C lv 28 = 0 then K_al C lv else if K_al C lv 28 = C 28 then K_al C lv else upd (K_al C lv) 30 (K_al C lv 30 + 1)
def K_cnt (C : Nat → Int32) (p : Int32) : Nat → Int32 := if p = -1 then upd C 24 (C 24 + 1) else upd (upd C 24 (C 24 + 1)) 25 (upd C 24 (C 24 + 1) 25 + 1)
def K_tells (C : Nat → Int32) (K : Nat) : Nat → Int32 := if K_med C K (C 18) = -1 then K_miss C (C 20) else upd (upd C 26 (K_flw C (K_med C K (C 18)) (C 19))) 27 0
def K_enter (C : Nat → Int32) (p D : Int32) (n : Nat) : Nat → Int32 := K_alarms (K_tells (K_push (K_cnt C p) p n) n) (K_tl (K_tells (K_push (K_cnt C p) p n) n) D)
theorem push_31 {C : Nat → Int32} {p : Int32} {n : Nat} (h : n ≤ 9) : K_push C p n 31 = nI n := by
  unfold K_push K_sh
  rw [upd_n (by omega), if_neg (by omega), upd_s]
theorem push_n {C : Nat → Int32} {p : Int32} {n j : Nat} (h : n ≤ 9) (hj : j < 31 ∨ 41 ≤ j) : K_push C p n j = C j := by
  unfold K_push K_sh
  rw [upd_n (by omega), if_neg (by omega), upd_n (by omega)]
theorem kcnt_n {C : Nat → Int32} {p : Int32} {j : Nat} (hj : j ≠ 24 ∧ j ≠ 25) : K_cnt C p j = C j := by
  unfold K_cnt
  split
  · rw [upd_n hj.1]
  · rw [upd_n hj.2, upd_n hj.1]
theorem ktells_n {C : Nat → Int32} {K j : Nat} (hj : j < 26 ∨ (27 < j ∧ j < 32) ∨ 41 ≤ j) : K_tells C K j = C j := by
  unfold K_tells
  split
  · unfold K_miss
    split
    · unfold R_wipe R_miss
      rw [if_neg (by omega), upd_n (by omega), upd_n (by omega)]
    · unfold R_miss
      rw [upd_n (by omega)]
  · rw [upd_n (by omega), upd_n (by omega)]
theorem s_X4_reset {om : OM} {l : Launch} {B : Nat × Nat} {h0 : Hp} {b : Nat} {C : Nat → Int32} {W : Nat → Int64}  : Runs om l M_X4_reset B 0 (entL 1 [.ref (b + 13)]) [] (sH h0 b C W) (Det (none) (sH h0 b (upd (upd (upd (upd (upd (upd (upd (upd C 31 0) 26 (-1)) 27 0) 28 0) 24 0) 25 0) 29 0) 30 0) W)) := by
  show Runs om l M_X4_reset B 0 [some (.ref (b + 13))] [] _ _
  refine r_aload_n (pc := 0) dX4_reset_0 rfl rfl ?_
  refine r_iconst (v := 0) (pc := 1) dX4_reset_1 (by decide) ?_
  refine cs_put (i := 13) 31 (pc := 2) dX4_reset_2 rfl f_RX4_18 (by decide) rfl (Nat.le_of_ble_eq_true rfl) rfl rfl ?_
  refine r_aload_n (pc := 5) dX4_reset_5 rfl rfl ?_
  refine r_iconst (v := (-1)) (pc := 6) dX4_reset_6 (by decide) ?_
  refine cs_put (i := 13) 26 (pc := 7) dX4_reset_7 rfl f_RX4_22 (by decide) rfl (Nat.le_of_ble_eq_true rfl) rfl rfl ?_
  refine r_aload_n (pc := 10) dX4_reset_10 rfl rfl ?_
  refine r_iconst (v := 0) (pc := 11) dX4_reset_11 (by decide) ?_
  refine cs_put (i := 13) 27 (pc := 12) dX4_reset_12 rfl f_RX4_25 (by decide) rfl (Nat.le_of_ble_eq_true rfl) rfl rfl ?_
  refine r_aload_n (pc := 15) dX4_reset_15 rfl rfl ?_
  refine r_iconst (v := 0) (pc := 16) dX4_reset_16 (by decide) ?_
  refine cs_put (i := 13) 28 (pc := 17) dX4_reset_17 rfl f_RX4_28 (by decide) rfl (Nat.le_of_ble_eq_true rfl) rfl rfl ?_
  refine r_aload_n (pc := 20) dX4_reset_20 rfl rfl ?_
  refine r_iconst (v := 0) (pc := 21) dX4_reset_21 (by decide) ?_
  refine cs_put (i := 13) 24 (pc := 22) dX4_reset_22 rfl f_RX4_31 (by decide) rfl (Nat.le_of_ble_eq_true rfl) rfl rfl ?_
  refine r_aload_n (pc := 25) dX4_reset_25 rfl rfl ?_
  refine r_iconst (v := 0) (pc := 26) dX4_reset_26 (by decide) ?_
  refine cs_put (i := 13) 25 (pc := 27) dX4_reset_27 rfl f_RX4_34 (by decide) rfl (Nat.le_of_ble_eq_true rfl) rfl rfl ?_
  refine r_aload_n (pc := 30) dX4_reset_30 rfl rfl ?_
  refine r_iconst (v := 0) (pc := 31) dX4_reset_31 (by decide) ?_
  refine cs_put (i := 13) 29 (pc := 32) dX4_reset_32 rfl f_RX4_37 (by decide) rfl (Nat.le_of_ble_eq_true rfl) rfl rfl ?_
  refine r_aload_n (pc := 35) dX4_reset_35 rfl rfl ?_
  refine r_iconst (v := 0) (pc := 36) dX4_reset_36 (by decide) ?_
  refine cs_put (i := 13) 30 (pc := 37) dX4_reset_37 rfl f_RX4_40 (by decide) rfl (Nat.le_of_ble_eq_true rfl) rfl rfl ?_
  exact r_return (S := []) (pc := 40) dX4_reset_40 rfl ⟨rfl, rfl⟩
theorem cp_X4_copyFrom {b : Nat} {C C2 : Nat → Int32} {W : Nat → Int64} (m : Nat) : sc b (blk 14 C2 (blk 13 C2 C)) W m = sc b (upd (upd (upd (upd (upd (upd (upd (upd (blk 14 C2 C) 31 (C2 31)) 26 (C2 26)) 27 (C2 27)) 28 (C2 28)) 24 (C2 24)) 25 (C2 25)) 29 (C2 29)) 30 (C2 30)) W m := by
  by_cases hm : m = 13
  · subst hm; rfl
  · refine sc_congr m fun j hj => ?_
    have hx : j < 24 ∨ 31 < j := by
      apply Classical.byContradiction; intro hc
      exact hm (hj.symm.trans (own_13 (by omega)))
    have e24 : ¬ j = 24 := by omega
    have e25 : ¬ j = 25 := by omega
    have e26 : ¬ j = 26 := by omega
    have e27 : ¬ j = 27 := by omega
    have e28 : ¬ j = 28 := by omega
    have e29 : ¬ j = 29 := by omega
    have e30 : ¬ j = 30 := by omega
    have e31 : ¬ j = 31 := by omega
    simp only [upd, blk, e24, e25, e26, e27, e28, e29, e30, e31, if_false, show ¬ m = 13 from hm, hj]
theorem s_X4_copyFrom {om : OM} {l : Launch} {B : Nat × Nat} {h0 : Hp} {b b2 : Nat} {C C2 : Nat → Int32} {W W2 : Nat → Int64} (hl : l.stackTraces = false) (hd : b + 19 ≤ b2 ∨ b2 + 19 ≤ b) : Runs om l M_X4_copyFrom B 0 (entL 2 [.ref (b + 13), .ref (b2 + 13)]) [] (sH ((sH h0 b2 C2 W2)) b C W) (Det (none) (sH ((sH h0 b2 C2 W2)) b (blk 14 C2 (blk 13 C2 C)) W)) := by
  show Runs om l M_X4_copyFrom B 0 [some (.ref (b + 13)), some (.ref (b2 + 13))] [] _ _
  refine r_aload_n (pc := 0) dX4_copyFrom_0 rfl rfl ?_
  refine r_getfield (pc := 1) dX4_copyFrom_1 rfl f_RX4_9 (sH_far (i := 13) hd (by decide)) rfl ?_
  refine r_aload_n (pc := 4) dX4_copyFrom_4 rfl rfl ?_
  refine cs_get (i := 13) (pc := 5) dX4_copyFrom_5 rfl f_RX4_9 (by decide) rfl rfl ?_
  refine q_callSN (vs := [.ref _, .ref _]) (pc := 8) dX4_copyFrom_8 rfl l_RX4_43 rfl ⟨by decide, by decide⟩ rfl (Nat.le_of_ble_eq_true rfl) hl (Nat.le_of_ble_eq_true rfl) (s_copyRowB 14 (n := 9) hd (by decide) (by decide) rfl rfl rfl) sH_22 ?_
  refine r_aload_n (pc := 11) dX4_copyFrom_11 rfl rfl ?_
  refine r_aload_n (pc := 12) dX4_copyFrom_12 rfl rfl ?_
  refine r_getfield (pc := 13) dX4_copyFrom_13 rfl f_RX4_18 (sH_far (i := 13) hd (by decide)) rfl ?_
  refine cs_put (i := 13) 31 (pc := 16) dX4_copyFrom_16 rfl f_RX4_18 (by decide) rfl (Nat.le_of_ble_eq_true rfl) rfl rfl ?_
  refine r_aload_n (pc := 19) dX4_copyFrom_19 rfl rfl ?_
  refine r_aload_n (pc := 20) dX4_copyFrom_20 rfl rfl ?_
  refine r_getfield (pc := 21) dX4_copyFrom_21 rfl f_RX4_22 (sH_far (i := 13) hd (by decide)) rfl ?_
  refine cs_put (i := 13) 26 (pc := 24) dX4_copyFrom_24 rfl f_RX4_22 (by decide) rfl (Nat.le_of_ble_eq_true rfl) rfl rfl ?_
  refine r_aload_n (pc := 27) dX4_copyFrom_27 rfl rfl ?_
  refine r_aload_n (pc := 28) dX4_copyFrom_28 rfl rfl ?_
  refine r_getfield (pc := 29) dX4_copyFrom_29 rfl f_RX4_25 (sH_far (i := 13) hd (by decide)) rfl ?_
  refine cs_put (i := 13) 27 (pc := 32) dX4_copyFrom_32 rfl f_RX4_25 (by decide) rfl (Nat.le_of_ble_eq_true rfl) rfl rfl ?_
  refine r_aload_n (pc := 35) dX4_copyFrom_35 rfl rfl ?_
  refine r_aload_n (pc := 36) dX4_copyFrom_36 rfl rfl ?_
  refine r_getfield (pc := 37) dX4_copyFrom_37 rfl f_RX4_28 (sH_far (i := 13) hd (by decide)) rfl ?_
  refine cs_put (i := 13) 28 (pc := 40) dX4_copyFrom_40 rfl f_RX4_28 (by decide) rfl (Nat.le_of_ble_eq_true rfl) rfl rfl ?_
  refine r_aload_n (pc := 43) dX4_copyFrom_43 rfl rfl ?_
  refine r_aload_n (pc := 44) dX4_copyFrom_44 rfl rfl ?_
  refine r_getfield (pc := 45) dX4_copyFrom_45 rfl f_RX4_31 (sH_far (i := 13) hd (by decide)) rfl ?_
  refine cs_put (i := 13) 24 (pc := 48) dX4_copyFrom_48 rfl f_RX4_31 (by decide) rfl (Nat.le_of_ble_eq_true rfl) rfl rfl ?_
  refine r_aload_n (pc := 51) dX4_copyFrom_51 rfl rfl ?_
  refine r_aload_n (pc := 52) dX4_copyFrom_52 rfl rfl ?_
  refine r_getfield (pc := 53) dX4_copyFrom_53 rfl f_RX4_34 (sH_far (i := 13) hd (by decide)) rfl ?_
  refine cs_put (i := 13) 25 (pc := 56) dX4_copyFrom_56 rfl f_RX4_34 (by decide) rfl (Nat.le_of_ble_eq_true rfl) rfl rfl ?_
  refine r_aload_n (pc := 59) dX4_copyFrom_59 rfl rfl ?_
  refine r_aload_n (pc := 60) dX4_copyFrom_60 rfl rfl ?_
  refine r_getfield (pc := 61) dX4_copyFrom_61 rfl f_RX4_37 (sH_far (i := 13) hd (by decide)) rfl ?_
  refine cs_put (i := 13) 29 (pc := 64) dX4_copyFrom_64 rfl f_RX4_37 (by decide) rfl (Nat.le_of_ble_eq_true rfl) rfl rfl ?_
  refine r_aload_n (pc := 67) dX4_copyFrom_67 rfl rfl ?_
  refine r_aload_n (pc := 68) dX4_copyFrom_68 rfl rfl ?_
  refine r_getfield (pc := 69) dX4_copyFrom_69 rfl f_RX4_40 (sH_far (i := 13) hd (by decide)) rfl ?_
  refine cs_put (i := 13) 30 (pc := 72) dX4_copyFrom_72 rfl f_RX4_40 (by decide) rfl (Nat.le_of_ble_eq_true rfl) rfl rfl ?_
  exact r_return (S := []) (pc := 75) dX4_copyFrom_75 rfl ⟨rfl, sH_eq fun m hm => (cp_X4_copyFrom m).symm⟩
theorem s_X4_shorten {om : OM} {l : Launch} {B : Nat × Nat} {h0 : Hp} {b : Nat} {C : Nat → Int32} {W : Nat → Int64} (K : Nat) (hK : C 31 = nI K) (hK9 : K ≤ 9) (L : Nat) (x : Int32) (hx : x = nI L) (hL : L ≤ 9) : Runs om l M_X4_shorten B 0 (entL 2 [.ref (b + 13), .int x]) [] (sH h0 b C W) (Det (none) (sH h0 b (upd C 31 (nI (min K L))) W)) := by
  show Runs om l M_X4_shorten B 0 [some (.ref (b + 13)), some (.int x)] [] _ _
  refine r_aload_n (pc := 0) dX4_shorten_0 rfl rfl ?_
  refine r_aload_n (pc := 1) dX4_shorten_1 rfl rfl ?_
  refine cs_get (i := 13) (pc := 2) dX4_shorten_2 rfl f_RX4_18 (by decide) rfl rfl ?_
  refine r_iload_n (pc := 5) dX4_shorten_5 rfl rfl ?_
  refine r_min (pc := 6) dX4_shorten_6 rfl l_RX4_47 (by decide) (Nat.le_of_ble_eq_true rfl) ?_
  rw [min_n hK hx (by omega) (by omega)]
  refine cs_put (i := 13) 31 (pc := 9) dX4_shorten_9 rfl f_RX4_18 (by decide) rfl (Nat.le_of_ble_eq_true rfl) rfl rfl ?_
  exact r_return (S := []) (pc := 12) dX4_shorten_12 rfl ⟨rfl, rfl⟩
theorem s_X4_pickAt {om : OM} {l : Launch} {B : Nat × Nat} {h0 : Hp} {b : Nat} {C : Nat → Int32} {W : Nat → Int64} (K : Nat) (hK : C 31 = nI K) (hK9 : K ≤ 9) (k : Nat) (x : Int32) (hx : x = nI k) (hk : k < K) : Runs om l M_X4_pickAt B 0 (entL 2 [.ref (b + 13), .int x]) [] (sH h0 b C W) (Det (some (.int (C (32 + k)))) (sH h0 b C W)) := by
  show Runs om l M_X4_pickAt B 0 [some (.ref (b + 13)), some (.int x)] [] _ _
  refine r_iload_n (pc := 0) dX4_pickAt_0 rfl rfl ?_
  refine r_if_lt 30 (pc := 1) dX4_pickAt_1 (by decide) (fun c1 => absurd c1 (c_ltf hx rfl (a := k) (b := 0) (by omega) (by omega) (by omega))) (fun c1 => ?_)
  refine r_iload_n (pc := 4) dX4_pickAt_4 rfl rfl ?_
  refine r_aload_n (pc := 5) dX4_pickAt_5 rfl rfl ?_
  refine cs_get (i := 13) (pc := 6) dX4_pickAt_6 rfl f_RX4_18 (by decide) rfl rfl ?_
  refine r_icmp_ge 30 (pc := 9) dX4_pickAt_9 (by decide) (fun c9 => absurd c9 (c_gef hx hK (a := k) (b := K) (by omega) (by omega) (by omega))) (fun c9 => ?_)
  refine r_iload_n (pc := 12) dX4_pickAt_12 rfl rfl ?_
  refine r_aload_n (pc := 13) dX4_pickAt_13 rfl rfl ?_
  refine cs_get (i := 13) (pc := 14) dX4_pickAt_14 rfl f_RX4_9 (by decide) rfl rfl ?_
  refine cs_len (i := 14) (n := 9) (pc := 17) dX4_pickAt_17 (by decide) rfl ?_
  refine r_icmp_ge 30 (pc := 18) dX4_pickAt_18 (by decide) (fun c18 => absurd c18 (c_gef hx rfl (a := k) (b := 9) (by omega) (by omega) (by omega))) (fun c18 => ?_)
  refine r_aload_n (pc := 21) dX4_pickAt_21 rfl rfl ?_
  refine cs_get (i := 13) (pc := 22) dX4_pickAt_22 rfl f_RX4_9 (by decide) rfl rfl ?_
  refine r_iload_n (pc := 25) dX4_pickAt_25 rfl rfl ?_
  refine cs_ld (i := 14) (n := 9) (k := k) (pc := 26) dX4_pickAt_26 (by decide) rfl hx (by omega) (by decide) ?_
  refine r_goto 31 (pc := 27) dX4_pickAt_27 (by decide) ?_
  exact r_ireturn (S := []) (pc := 31) dX4_pickAt_31 rfl rfl ⟨rfl, rfl⟩
theorem s_X4_pickAtO {om : OM} {l : Launch} {B : Nat × Nat} {h0 : Hp} {b : Nat} {C : Nat → Int32} {W : Nat → Int64} (K : Nat) (hK : C 31 = nI K) (hK9 : K ≤ 9) (k : Nat) (x : Int32) (hx : x = nI k) (hk : K ≤ k) (hk2 : k < 2 ^ 31) : Runs om l M_X4_pickAt B 0 (entL 2 [.ref (b + 13), .int x]) [] (sH h0 b C W) (Det (some (.int (-1))) (sH h0 b C W)) := by
  show Runs om l M_X4_pickAt B 0 [some (.ref (b + 13)), some (.int x)] [] _ _
  refine r_iload_n (pc := 0) dX4_pickAt_0 rfl rfl ?_
  refine r_if_lt 30 (pc := 1) dX4_pickAt_1 (by decide) (fun c1 => absurd c1 (c_ltf hx rfl (a := k) (b := 0) (by omega) (by omega) (by omega))) (fun c1 => ?_)
  refine r_iload_n (pc := 4) dX4_pickAt_4 rfl rfl ?_
  refine r_aload_n (pc := 5) dX4_pickAt_5 rfl rfl ?_
  refine cs_get (i := 13) (pc := 6) dX4_pickAt_6 rfl f_RX4_18 (by decide) rfl rfl ?_
  refine r_icmp_ge 30 (pc := 9) dX4_pickAt_9 (by decide) (fun c9 => ?_) (fun c9 => absurd (c_get hx hK (a := k) (b := K) (by omega) (by omega) (by omega)) c9)
  refine r_iconst (v := (-1)) (pc := 30) dX4_pickAt_30 (by decide) ?_
  exact r_ireturn (S := []) (pc := 31) dX4_pickAt_31 rfl rfl ⟨rfl, rfl⟩
theorem lp_X4_count {om : OM} {l : Launch} {B : Nat × Nat} {h0 : Hp} {b : Nat} {C : Nat → Int32} {W : Nat → Int64} {Post : Out → Hp → Prop} (hl : l.stackTraces = false) (K : Nat) (hK : C 31 = nI K) (hK9 : K ≤ 9) : ∀ (n9 k : Nat) (g : Int32), k + n9 = K → g = R_kp C k → Runs om l M_X4_pickCount B 30 [some (.ref (b + 13)), some (.int (R_kp C K)), some (.int (nI K))] [] (sH h0 b C W) Post → Runs om l M_X4_pickCount B 4 [some (.ref (b + 13)), some (.int g), some (.int (nI k))] [] (sH h0 b C W) Post := by
  intro n9
  induction n9 with
  | zero =>
    intro k g hk e_g KK
    have e9 : k = K := by omega
    refine r_iload_n (pc := 4) dX4_pickCount_4 rfl rfl ?_
    refine r_aload_n (pc := 5) dX4_pickCount_5 rfl rfl ?_
    refine cs_get (i := 13) (pc := 6) dX4_pickCount_6 rfl f_RX4_18 (by decide) rfl rfl ?_
    refine r_icmp_ge 30 (pc := 9) dX4_pickCount_9 (by decide) (fun c9 => ?_) (fun c9 => absurd (c_get rfl hK (a := k) (b := K) (by omega) (by omega) (by omega)) c9)
    subst e9
    subst e_g
    exact KK
  | succ n9 ih =>
    intro k g hk e_g KK
    refine r_iload_n (pc := 4) dX4_pickCount_4 rfl rfl ?_
    refine r_aload_n (pc := 5) dX4_pickCount_5 rfl rfl ?_
    refine cs_get (i := 13) (pc := 6) dX4_pickCount_6 rfl f_RX4_18 (by decide) rfl rfl ?_
    refine r_icmp_ge 30 (pc := 9) dX4_pickCount_9 (by decide) (fun c9 => absurd c9 (c_gef rfl hK (a := k) (b := K) (by omega) (by omega) (by omega))) (fun c9 => ?_)
    refine r_aload_n (pc := 12) dX4_pickCount_12 rfl rfl ?_
    refine r_iload_n (pc := 13) dX4_pickCount_13 rfl rfl ?_
    refine q_callV (ci := 3) (T := TX4) (N := 9) (vs := [.int _]) (pc := 14) dX4_pickCount_14 rfl l_RX4_53 rfl ⟨by decide, by decide⟩ rfl (Nat.le_of_ble_eq_true rfl) hl (sH_at (i := 13) (by decide)) rfl (Nat.le_of_ble_eq_true rfl) (s_X4_pickAt K hK hK9 k _ rfl (by omega)) sH_22 ?_
    refine r_iconst (v := (-1)) (pc := 17) dX4_pickCount_17 (by decide) ?_
    refine r_icmp_eq 24 (pc := 18) dX4_pickCount_18 (by decide) (fun c18 => ?_) (fun c18 => ?_)
    · refine q_iinc (nI (k + 1)) [_, _, _] (pc := 24) dX4_pickCount_24 rfl (by decide) (ninc 1 rfl) rfl ?_
      refine r_goto 4 (pc := 27) dX4_pickCount_27 (by decide) ?_
      exact ih (k + 1) _ (by omega) (by first | (rw [R_kp, if_pos c18, ← e_g, Int32.add_zero]; done) | (rw [R_kp, if_neg c18, ← e_g]; done) | (rw [R_kp, if_neg c18, ← e_g]; rfl)) KK
    · refine q_iinc _ [_, _, _] (pc := 21) dX4_pickCount_21 rfl (by decide) rfl rfl ?_
      refine q_iinc (nI (k + 1)) [_, _, _] (pc := 24) dX4_pickCount_24 rfl (by decide) (ninc 1 rfl) rfl ?_
      refine r_goto 4 (pc := 27) dX4_pickCount_27 (by decide) ?_
      exact ih (k + 1) _ (by omega) (by first | (rw [R_kp, if_pos c18, ← e_g, Int32.add_zero]; done) | (rw [R_kp, if_neg c18, ← e_g]; done) | (rw [R_kp, if_neg c18, ← e_g]; rfl)) KK
theorem s_X4_pickCount {om : OM} {l : Launch} {B : Nat × Nat} {h0 : Hp} {b : Nat} {C : Nat → Int32} {W : Nat → Int64} (hl : l.stackTraces = false) (K : Nat) (hK : C 31 = nI K) (hK9 : K ≤ 9) : Runs om l M_X4_pickCount B 0 (entL 3 [.ref (b + 13)]) [] (sH h0 b C W) (Det (some (.int (R_kp C K))) (sH h0 b C W)) := by
  show Runs om l M_X4_pickCount B 0 [some (.ref (b + 13)), none, none] [] _ _
  refine r_iconst (v := 0) (pc := 0) dX4_pickCount_0 (by decide) ?_
  refine q_istore_n [_, _, _] (pc := 1) dX4_pickCount_1 rfl (by decide) rfl ?_
  refine r_iconst (v := 0) (pc := 2) dX4_pickCount_2 (by decide) ?_
  refine q_istore_n [_, _, _] (pc := 3) dX4_pickCount_3 rfl (by decide) rfl ?_
  refine lp_X4_count hl K hK hK9 K 0 _ (by omega) rfl ?_
  refine r_iload_n (pc := 30) dX4_pickCount_30 rfl rfl ?_
  exact r_ireturn (S := []) (pc := 31) dX4_pickCount_31 rfl rfl ⟨rfl, rfl⟩
theorem lp_X4_below {om : OM} {l : Launch} {B : Nat × Nat} {h0 : Hp} {b : Nat} {C : Nat → Int32} {W : Nat → Int64} {Post : Out → Hp → Prop} (d : Int32) (K : Nat) (hK : C 31 = nI K) (hK9 : K ≤ 9) : ∀ (n9 k : Nat) (g : Int32), k + n9 = K → g = K_pb C d k → Runs om l M_X4_picksBelow B 50 [some (.ref (b + 13)), some (.int d), some (.int (K_pb C d K)), some (.int (nI K))] [] (sH h0 b C W) Post → Runs om l M_X4_picksBelow B 4 [some (.ref (b + 13)), some (.int d), some (.int g), some (.int (nI k))] [] (sH h0 b C W) Post := by
  intro n9
  induction n9 with
  | zero =>
    intro k g hk e_g KK
    have e9 : k = K := by omega
    refine r_iload_n (pc := 4) dX4_picksBelow_4 rfl rfl ?_
    refine r_aload_n (pc := 5) dX4_picksBelow_5 rfl rfl ?_
    refine cs_get (i := 13) (pc := 6) dX4_picksBelow_6 rfl f_RX4_18 (by decide) rfl rfl ?_
    refine r_icmp_ge 50 (pc := 9) dX4_picksBelow_9 (by decide) (fun c9 => ?_) (fun c9 => absurd (c_get rfl hK (a := k) (b := K) (by omega) (by omega) (by omega)) c9)
    subst e9
    subst e_g
    exact KK
  | succ n9 ih =>
    intro k g hk e_g KK
    refine r_iload_n (pc := 4) dX4_picksBelow_4 rfl rfl ?_
    refine r_aload_n (pc := 5) dX4_picksBelow_5 rfl rfl ?_
    refine cs_get (i := 13) (pc := 6) dX4_picksBelow_6 rfl f_RX4_18 (by decide) rfl rfl ?_
    refine r_icmp_ge 50 (pc := 9) dX4_picksBelow_9 (by decide) (fun c9 => absurd c9 (c_gef rfl hK (a := k) (b := K) (by omega) (by omega) (by omega))) (fun c9 => ?_)
    refine r_iload_n (pc := 12) dX4_picksBelow_12 rfl rfl ?_
    refine r_aload_n (pc := 13) dX4_picksBelow_13 rfl rfl ?_
    refine cs_get (i := 13) (pc := 14) dX4_picksBelow_14 rfl f_RX4_9 (by decide) rfl rfl ?_
    refine cs_len (i := 14) (n := 9) (pc := 17) dX4_picksBelow_17 (by decide) rfl ?_
    refine r_icmp_ge 50 (pc := 18) dX4_picksBelow_18 (by decide) (fun c18 => absurd c18 (c_gef rfl rfl (a := k) (b := 9) (by omega) (by omega) (by omega))) (fun c18 => ?_)
    refine r_aload_n (pc := 21) dX4_picksBelow_21 rfl rfl ?_
    refine cs_get (i := 13) (pc := 22) dX4_picksBelow_22 rfl f_RX4_9 (by decide) rfl rfl ?_
    refine r_iload_n (pc := 25) dX4_picksBelow_25 rfl rfl ?_
    refine cs_ld (i := 14) (n := 9) (k := k) (pc := 26) dX4_picksBelow_26 (by decide) rfl rfl (by omega) (by decide) ?_
    refine r_iconst (v := (-1)) (pc := 27) dX4_picksBelow_27 (by decide) ?_
    refine r_icmp_eq 44 (pc := 28) dX4_picksBelow_28 (by decide) (fun c28 => ?_) (fun c28 => ?_)
    · refine q_iinc (nI (k + 1)) [_, _, _, _] (pc := 44) dX4_picksBelow_44 rfl (by decide) (ninc 1 rfl) rfl ?_
      refine r_goto 4 (pc := 47) dX4_picksBelow_47 (by decide) ?_
      exact ih (k + 1) _ (by omega) (by first | (rw [K_pb, if_pos c28, ← e_g]; done) | (rw [K_pb, if_neg c28, if_pos c38, ← e_g]; done) | (rw [K_pb, if_neg c28, if_neg c38, ← e_g]; done) | (rw [K_pb, if_neg c28, if_neg c38, ← e_g]; rfl)) KK
    · refine r_aload_n (pc := 31) dX4_picksBelow_31 rfl rfl ?_
      refine cs_get (i := 13) (pc := 32) dX4_picksBelow_32 rfl f_RX4_9 (by decide) rfl rfl ?_
      refine r_iload_n (pc := 35) dX4_picksBelow_35 rfl rfl ?_
      refine cs_ld (i := 14) (n := 9) (k := k) (pc := 36) dX4_picksBelow_36 (by decide) rfl rfl (by omega) (by decide) ?_
      refine r_iload_n (pc := 37) dX4_picksBelow_37 rfl rfl ?_
      refine r_icmp_ge 44 (pc := 38) dX4_picksBelow_38 (by decide) (fun c38 => ?_) (fun c38 => ?_)
      · refine q_iinc (nI (k + 1)) [_, _, _, _] (pc := 44) dX4_picksBelow_44 rfl (by decide) (ninc 1 rfl) rfl ?_
        refine r_goto 4 (pc := 47) dX4_picksBelow_47 (by decide) ?_
        exact ih (k + 1) _ (by omega) (by first | (rw [K_pb, if_pos c28, ← e_g]; done) | (rw [K_pb, if_neg c28, if_pos c38, ← e_g]; done) | (rw [K_pb, if_neg c28, if_neg c38, ← e_g]; done) | (rw [K_pb, if_neg c28, if_neg c38, ← e_g]; rfl)) KK
      · refine q_iinc _ [_, _, _, _] (pc := 41) dX4_picksBelow_41 rfl (by decide) rfl rfl ?_
        refine q_iinc (nI (k + 1)) [_, _, _, _] (pc := 44) dX4_picksBelow_44 rfl (by decide) (ninc 1 rfl) rfl ?_
        refine r_goto 4 (pc := 47) dX4_picksBelow_47 (by decide) ?_
        exact ih (k + 1) _ (by omega) (by first | (rw [K_pb, if_pos c28, ← e_g]; done) | (rw [K_pb, if_neg c28, if_pos c38, ← e_g]; done) | (rw [K_pb, if_neg c28, if_neg c38, ← e_g]; done) | (rw [K_pb, if_neg c28, if_neg c38, ← e_g]; rfl)) KK
theorem s_X4_picksBelow {om : OM} {l : Launch} {B : Nat × Nat} {h0 : Hp} {b : Nat} {C : Nat → Int32} {W : Nat → Int64} (d : Int32) (K : Nat) (hK : C 31 = nI K) (hK9 : K ≤ 9) : Runs om l M_X4_picksBelow B 0 (entL 4 [.ref (b + 13), .int d]) [] (sH h0 b C W) (Det (some (.int (K_pb C d K))) (sH h0 b C W)) := by
  show Runs om l M_X4_picksBelow B 0 [some (.ref (b + 13)), some (.int d), none, none] [] _ _
  refine r_iconst (v := 0) (pc := 0) dX4_picksBelow_0 (by decide) ?_
  refine q_istore_n [_, _, _, _] (pc := 1) dX4_picksBelow_1 rfl (by decide) rfl ?_
  refine r_iconst (v := 0) (pc := 2) dX4_picksBelow_2 (by decide) ?_
  refine q_istore_n [_, _, _, _] (pc := 3) dX4_picksBelow_3 rfl (by decide) rfl ?_
  refine lp_X4_below d K hK hK9 K 0 _ (by omega) rfl ?_
  refine r_iload_n (pc := 50) dX4_picksBelow_50 rfl rfl ?_
  exact r_ireturn (S := []) (pc := 51) dX4_picksBelow_51 rfl rfl ⟨rfl, rfl⟩
theorem lp_X4_rank {om : OM} {l : Launch} {B : Nat × Nat} {h0 : Hp} {b : Nat} {C : Nat → Int32} {W : Nat → Int64} (hl : l.stackTraces = false) (r : Int32) (K : Nat) (hK : C 31 = nI K) (hK9 : K ≤ 9) : ∀ (n9 k : Nat) (q9 : Option Value), k + n9 = K → Runs om l M_X4_pickOfRank B 2 [some (.ref (b + 13)), some (.int r), some (.int (nI k)), q9] [] (sH h0 b C W) (Det (some (.int (K_por C K r n9 k))) (sH h0 b C W)) := by
  intro n9
  induction n9 with
  | zero =>
    intro k q9 hk
    refine r_iload_n (pc := 2) dX4_pickOfRank_2 rfl rfl ?_
    refine r_aload_n (pc := 3) dX4_pickOfRank_3 rfl rfl ?_
    refine cs_get (i := 13) (pc := 4) dX4_pickOfRank_4 rfl f_RX4_18 (by decide) rfl rfl ?_
    refine r_icmp_ge 49 (pc := 7) dX4_pickOfRank_7 (by decide) (fun c7 => ?_) (fun c7 => absurd (c_get rfl hK (a := k) (b := K) (by omega) (by omega) (by omega)) c7)
    refine r_iconst (v := (-1)) (pc := 49) dX4_pickOfRank_49 (by decide) ?_
    exact r_ireturn (S := []) (pc := 50) dX4_pickOfRank_50 rfl rfl ⟨rfl, rfl⟩
  | succ n9 ih =>
    intro k q9 hk
    refine r_iload_n (pc := 2) dX4_pickOfRank_2 rfl rfl ?_
    refine r_aload_n (pc := 3) dX4_pickOfRank_3 rfl rfl ?_
    refine cs_get (i := 13) (pc := 4) dX4_pickOfRank_4 rfl f_RX4_18 (by decide) rfl rfl ?_
    refine r_icmp_ge 49 (pc := 7) dX4_pickOfRank_7 (by decide) (fun c7 => absurd c7 (c_gef rfl hK (a := k) (b := K) (by omega) (by omega) (by omega))) (fun c7 => ?_)
    refine r_aload_n (pc := 10) dX4_pickOfRank_10 rfl rfl ?_
    refine r_iload_n (pc := 11) dX4_pickOfRank_11 rfl rfl ?_
    refine q_callV (ci := 3) (T := TX4) (N := 9) (vs := [.int _]) (pc := 12) dX4_pickOfRank_12 rfl l_RX4_53 rfl ⟨by decide, by decide⟩ rfl (Nat.le_of_ble_eq_true rfl) hl (sH_at (i := 13) (by decide)) rfl (Nat.le_of_ble_eq_true rfl) (s_X4_pickAt K hK hK9 k _ rfl (by omega)) sH_22 ?_
    refine q_istore_n [_, _, _, _] (pc := 15) dX4_pickOfRank_15 rfl (by decide) rfl ?_
    refine r_iload_n (pc := 16) dX4_pickOfRank_16 rfl rfl ?_
    refine r_iconst (v := (-1)) (pc := 17) dX4_pickOfRank_17 (by decide) ?_
    refine r_icmp_eq 43 (pc := 18) dX4_pickOfRank_18 (by decide) (fun c18 => ?_) (fun c18 => ?_)
    · refine q_iinc (nI (k + 1)) [_, _, _, _] (pc := 43) dX4_pickOfRank_43 rfl (by decide) (ninc 1 rfl) rfl ?_
      refine r_goto 2 (pc := 46) dX4_pickOfRank_46 (by decide) ?_
      rw [show K_por C K r (n9 + 1) k = K_por C K r n9 (k + 1) by rw [K_por]; (repeat (first | rw [if_pos (by assumption)] | rw [if_neg (by assumption)]))]
      exact ih (k + 1) _ (by omega)
    · refine r_aload_n (pc := 21) dX4_pickOfRank_21 rfl rfl ?_
      refine r_iload_n (pc := 22) dX4_pickOfRank_22 rfl rfl ?_
      refine q_callV (ci := 3) (T := TX4) (N := 9) (vs := [.int _]) (pc := 23) dX4_pickOfRank_23 rfl l_RX4_64 rfl ⟨by decide, by decide⟩ rfl (Nat.le_of_ble_eq_true rfl) hl (sH_at (i := 13) (by decide)) rfl (Nat.le_of_ble_eq_true rfl) (s_X4_picksBelow _ K hK hK9) sH_22 ?_
      refine r_iload_n (pc := 26) dX4_pickOfRank_26 rfl rfl ?_
      refine r_icmp_gt 43 (pc := 27) dX4_pickOfRank_27 (by decide) (fun c27 => ?_) (fun c27 => ?_)
      · refine q_iinc (nI (k + 1)) [_, _, _, _] (pc := 43) dX4_pickOfRank_43 rfl (by decide) (ninc 1 rfl) rfl ?_
        refine r_goto 2 (pc := 46) dX4_pickOfRank_46 (by decide) ?_
        rw [show K_por C K r (n9 + 1) k = K_por C K r n9 (k + 1) by rw [K_por]; (repeat (first | rw [if_pos (by assumption)] | rw [if_neg (by assumption)]))]
        exact ih (k + 1) _ (by omega)
      · refine r_iload_n (pc := 30) dX4_pickOfRank_30 rfl rfl ?_
        refine r_aload_n (pc := 31) dX4_pickOfRank_31 rfl rfl ?_
        refine r_iload_n (pc := 32) dX4_pickOfRank_32 rfl rfl ?_
        refine r_iconst (v := 1) (pc := 33) dX4_pickOfRank_33 (by decide) ?_
        refine r_iadd (pc := 34) dX4_pickOfRank_34 ?_
        refine q_callV (ci := 3) (T := TX4) (N := 9) (vs := [.int _]) (pc := 35) dX4_pickOfRank_35 rfl l_RX4_64 rfl ⟨by decide, by decide⟩ rfl (Nat.le_of_ble_eq_true rfl) hl (sH_at (i := 13) (by decide)) rfl (Nat.le_of_ble_eq_true rfl) (s_X4_picksBelow _ K hK hK9) sH_22 ?_
        refine r_icmp_ge 43 (pc := 38) dX4_pickOfRank_38 (by decide) (fun c38 => ?_) (fun c38 => ?_)
        · refine q_iinc (nI (k + 1)) [_, _, _, _] (pc := 43) dX4_pickOfRank_43 rfl (by decide) (ninc 1 rfl) rfl ?_
          refine r_goto 2 (pc := 46) dX4_pickOfRank_46 (by decide) ?_
          rw [show K_por C K r (n9 + 1) k = K_por C K r n9 (k + 1) by rw [K_por]; (repeat (first | rw [if_pos (by assumption)] | rw [if_neg (by assumption)]))]
          exact ih (k + 1) _ (by omega)
        · refine r_iload_n (pc := 41) dX4_pickOfRank_41 rfl rfl ?_
          exact r_ireturn (S := []) (pc := 42) dX4_pickOfRank_42 rfl rfl ⟨by rw [K_por]; (repeat (first | rw [if_pos (by assumption)] | rw [if_neg (by assumption)])), rfl⟩
theorem s_X4_pickOfRank {om : OM} {l : Launch} {B : Nat × Nat} {h0 : Hp} {b : Nat} {C : Nat → Int32} {W : Nat → Int64} (hl : l.stackTraces = false) (r : Int32) (K : Nat) (hK : C 31 = nI K) (hK9 : K ≤ 9) : Runs om l M_X4_pickOfRank B 0 (entL 4 [.ref (b + 13), .int r]) [] (sH h0 b C W) (Det (some (.int (K_por C K r K 0))) (sH h0 b C W)) := by
  show Runs om l M_X4_pickOfRank B 0 [some (.ref (b + 13)), some (.int r), none, none] [] _ _
  refine r_iconst (v := 0) (pc := 0) dX4_pickOfRank_0 (by decide) ?_
  refine q_istore_n [_, _, _, _] (pc := 1) dX4_pickOfRank_1 rfl (by decide) rfl ?_
  exact lp_X4_rank hl r K hK hK9 K 0 _ (by omega)
theorem s_X4_median {om : OM} {l : Launch} {B : Nat × Nat} {h0 : Hp} {b : Nat} {C : Nat → Int32} {W : Nat → Int64} (hl : l.stackTraces = false) (x : Int32) (K : Nat) (hK : C 31 = nI K) (hK9 : K ≤ 9) : Runs om l M_X4_median B 0 (entL 3 [.ref (b + 13), .int x]) [] (sH h0 b C W) (Det (some (.int (K_med C K x))) (sH h0 b C W)) := by
  show Runs om l M_X4_median B 0 [some (.ref (b + 13)), some (.int x), none] [] _ _
  refine r_aload_n (pc := 0) dX4_median_0 rfl rfl ?_
  refine q_callV (ci := 3) (T := TX4) (N := 9) (vs := []) (pc := 1) dX4_median_1 rfl l_RX4_57 rfl ⟨by decide, by decide⟩ rfl (Nat.le_of_ble_eq_true rfl) hl (sH_at (i := 13) (by decide)) rfl (Nat.le_of_ble_eq_true rfl) (s_X4_pickCount hl K hK hK9) sH_22 ?_
  refine q_istore_n [_, _, _] (pc := 4) dX4_median_4 rfl (by decide) rfl ?_
  refine r_iconst (v := 2) (pc := 5) dX4_median_5 (by decide) ?_
  refine r_iload_n (pc := 6) dX4_median_6 rfl rfl ?_
  refine r_imul (pc := 7) dX4_median_7 ?_
  refine r_iload_n (pc := 8) dX4_median_8 rfl rfl ?_
  refine r_icmp_lt 24 (pc := 9) dX4_median_9 (by decide) (fun c9 => ?_) (fun c9 => ?_)
  · refine r_iconst (v := (-1)) (pc := 24) dX4_median_24 (by decide) ?_
    exact r_ireturn (S := []) (pc := 25) dX4_median_25 rfl rfl ⟨by rw [K_med]; (repeat (first | rw [if_pos (by assumption)] | rw [if_neg (by assumption)])), rfl⟩
  · refine r_aload_n (pc := 12) dX4_median_12 rfl rfl ?_
    refine r_iload_n (pc := 13) dX4_median_13 rfl rfl ?_
    refine r_iconst (v := 1) (pc := 14) dX4_median_14 (by decide) ?_
    refine r_isub (pc := 15) dX4_median_15 ?_
    refine r_iconst (v := 2) (pc := 16) dX4_median_16 (by decide) ?_
    refine r_idiv (pc := 17) dX4_median_17 (by decide) ?_
    refine q_callV (ci := 3) (T := TX4) (N := 9) (vs := [.int _]) (pc := 18) dX4_median_18 rfl l_RX4_61 rfl ⟨by decide, by decide⟩ rfl (Nat.le_of_ble_eq_true rfl) hl (sH_at (i := 13) (by decide)) rfl (Nat.le_of_ble_eq_true rfl) (s_X4_pickOfRank hl _ K hK hK9) sH_22 ?_
    refine r_goto 25 (pc := 21) dX4_median_21 (by decide) ?_
    exact r_ireturn (S := []) (pc := 25) dX4_median_25 rfl rfl ⟨by rw [K_med]; (repeat (first | rw [if_pos (by assumption)] | rw [if_neg (by assumption)])), rfl⟩
theorem s_X4_toldLevel {om : OM} {l : Launch} {B : Nat × Nat} {h0 : Hp} {b : Nat} {C : Nat → Int32} {W : Nat → Int64} (x : Int32) : Runs om l M_X4_toldLevel B 0 (entL 2 [.ref (b + 13), .int x]) [] (sH h0 b C W) (Det (some (.int (K_tl C x))) (sH h0 b C W)) := by
  show Runs om l M_X4_toldLevel B 0 [some (.ref (b + 13)), some (.int x)] [] _ _
  refine r_aload_n (pc := 0) dX4_toldLevel_0 rfl rfl ?_
  refine cs_get (i := 13) (pc := 1) dX4_toldLevel_1 rfl f_RX4_22 (by decide) rfl rfl ?_
  refine r_iconst (v := (-1)) (pc := 4) dX4_toldLevel_4 (by decide) ?_
  refine r_icmp_eq 17 (pc := 5) dX4_toldLevel_5 (by decide) (fun c5 => ?_) (fun c5 => ?_)
  · refine r_iconst (v := (-1)) (pc := 17) dX4_toldLevel_17 (by decide) ?_
    exact r_ireturn (S := []) (pc := 18) dX4_toldLevel_18 rfl rfl ⟨by rw [K_tl]; (repeat (first | rw [if_pos (by assumption)] | rw [if_neg (by assumption)])), rfl⟩
  · refine r_iload_n (pc := 8) dX4_toldLevel_8 rfl rfl ?_
    refine r_aload_n (pc := 9) dX4_toldLevel_9 rfl rfl ?_
    refine cs_get (i := 13) (pc := 10) dX4_toldLevel_10 rfl f_RX4_22 (by decide) rfl rfl ?_
    refine r_isub (pc := 13) dX4_toldLevel_13 ?_
    refine r_goto 18 (pc := 14) dX4_toldLevel_14 (by decide) ?_
    exact r_ireturn (S := []) (pc := 18) dX4_toldLevel_18 rfl rfl ⟨by rw [K_tl]; (repeat (first | rw [if_pos (by assumption)] | rw [if_neg (by assumption)])), rfl⟩
theorem lp_X4_push {om : OM} {l : Launch} {B : Nat × Nat} {h0 : Hp} {b : Nat} {C : Nat → Int32} {W : Nat → Int64} {Post : Out → Hp → Prop} (p x : Int32) (n : Nat) (hn : n ≤ 9) : ∀ (k : Nat) (g : Nat → Int32), k < n → g = K_sh C n k → Runs om l M_X4_push B 53 [some (.ref (b + 13)), some (.int p), some (.int x), some (.int 0)] [] (sH h0 b (K_sh C n 0) W) Post → Runs om l M_X4_push B 29 [some (.ref (b + 13)), some (.int p), some (.int x), some (.int (nI k))] [] (sH h0 b g W) Post := by
  intro k
  induction k with
  | zero =>
    intro g hk e_g KK
    subst e_g
    refine r_iload_n (pc := 29) dX4_push_29 rfl rfl ?_
    refine r_if_le 53 (pc := 30) dX4_push_30 (by decide) (fun c30 => ?_) (fun c30 => absurd (c_let rfl rfl (a := 0) (b := 0) (by omega) (by omega) (by omega)) c30)
    exact KK
  | succ k ih =>
    intro g hk e_g KK
    subst e_g
    refine r_iload_n (pc := 29) dX4_push_29 rfl rfl ?_
    refine r_if_le 53 (pc := 30) dX4_push_30 (by decide) (fun c30 => absurd c30 (c_lef rfl rfl (a := k + 1) (b := 0) (by omega) (by omega) (by omega))) (fun c30 => ?_)
    refine r_aload_n (pc := 33) dX4_push_33 rfl rfl ?_
    refine cs_get (i := 13) (pc := 34) dX4_push_34 rfl f_RX4_9 (by decide) rfl rfl ?_
    refine r_iload_n (pc := 37) dX4_push_37 rfl rfl ?_
    refine r_aload_n (pc := 38) dX4_push_38 rfl rfl ?_
    refine cs_get (i := 13) (pc := 39) dX4_push_39 rfl f_RX4_9 (by decide) rfl rfl ?_
    refine r_iload_n (pc := 42) dX4_push_42 rfl rfl ?_
    refine r_iconst (v := 1) (pc := 43) dX4_push_43 (by decide) ?_
    refine r_isub (pc := 44) dX4_push_44 ?_
    refine cs_ld (i := 14) (n := 9) (k := (k + 1) - 1) (pc := 45) dX4_push_45 (by decide) rfl (nsub rfl rfl (by omega)) (by omega) (by decide) ?_
    refine cs_st (i := 14) (n := 9) (k := k + 1) (32 + (k + 1)) (pc := 46) dX4_push_46 (by decide) rfl rfl (by omega) (by decide) (ow_14 (by omega)) st_14 ?_
    refine q_iinc (nI (k)) [_, _, _, _] (pc := 47) dX4_push_47 rfl (by decide) (pk_m1 _) rfl ?_
    refine r_goto 29 (pc := 50) dX4_push_50 (by decide) ?_
    exact ih _ (by omega) (K_sh_s (by omega)) KK
theorem s_X4_push {om : OM} {l : Launch} {B : Nat × Nat} {h0 : Hp} {b : Nat} {C : Nat → Int32} {W : Nat → Int64} (p : Int32) (K : Nat) (hK : C 31 = nI K) (hK9 : K ≤ 9) (L : Nat) (x : Int32) (hx : x = nI L) (hL1 : 1 ≤ L) (hL : L ≤ 9) : Runs om l M_X4_push B 0 (entL 4 [.ref (b + 13), .int p, .int x]) [] (sH h0 b C W) (Det (none) (sH h0 b (K_push C p (min (K + 1) L)) W)) := by
  show Runs om l M_X4_push B 0 [some (.ref (b + 13)), some (.int p), some (.int x), none] [] _ _
  refine r_aload_n (pc := 0) dX4_push_0 rfl rfl ?_
  refine r_aload_n (pc := 1) dX4_push_1 rfl rfl ?_
  refine cs_get (i := 13) (pc := 2) dX4_push_2 rfl f_RX4_18 (by decide) rfl rfl ?_
  refine r_iconst (v := 1) (pc := 5) dX4_push_5 (by decide) ?_
  refine r_iadd (pc := 6) dX4_push_6 ?_
  refine r_iload_n (pc := 7) dX4_push_7 rfl rfl ?_
  refine r_aload_n (pc := 8) dX4_push_8 rfl rfl ?_
  refine cs_get (i := 13) (pc := 9) dX4_push_9 rfl f_RX4_9 (by decide) rfl rfl ?_
  refine cs_len (i := 14) (n := 9) (pc := 12) dX4_push_12 (by decide) rfl ?_
  refine r_min (pc := 13) dX4_push_13 rfl l_RX4_47 (by decide) (Nat.le_of_ble_eq_true rfl) ?_
  rw [min_n hx (rfl : nI 9 = nI 9) (by omega) (by omega), Nat.min_eq_left hL]
  refine r_min (pc := 16) dX4_push_16 rfl l_RX4_47 (by decide) (Nat.le_of_ble_eq_true rfl) ?_
  rw [min_n (nadd hK (show (1 : Int32) = nI 1 from rfl)) rfl (by omega) (by omega)]
  refine cs_put (i := 13) 31 (pc := 19) dX4_push_19 rfl f_RX4_18 (by decide) rfl (Nat.le_of_ble_eq_true rfl) rfl rfl ?_
  refine r_aload_n (pc := 22) dX4_push_22 rfl rfl ?_
  refine cs_get (i := 13) (pc := 23) dX4_push_23 rfl f_RX4_18 (by decide) rfl rfl ?_
  refine r_iconst (v := 1) (pc := 26) dX4_push_26 (by decide) ?_
  refine r_isub (pc := 27) dX4_push_27 ?_
  refine q_istore_n [_, _, _, _] (pc := 28) dX4_push_28 rfl (by decide) rfl ?_
  rw [show upd C 31 (nI (min (K + 1) L)) 31 - 1 = nI (min (K + 1) L - 1) from nsub upd_s rfl (by omega)]
  refine lp_X4_push p x (min (K + 1) L) (by omega) (min (K + 1) L - 1) _ (by omega) (K_sh_0 (by omega)).symm ?_
  refine r_aload_n (pc := 53) dX4_push_53 rfl rfl ?_
  refine cs_get (i := 13) (pc := 54) dX4_push_54 rfl f_RX4_9 (by decide) rfl rfl ?_
  refine r_iconst (v := 0) (pc := 57) dX4_push_57 (by decide) ?_
  refine r_iload_n (pc := 58) dX4_push_58 rfl rfl ?_
  refine cs_st (i := 14) (n := 9) (k := 0) (32 + 0) (pc := 59) dX4_push_59 (by decide) rfl rfl (by omega) (by decide) (ow_14 (by omega)) st_14 ?_
  exact r_return (S := []) (pc := 60) dX4_push_60 rfl ⟨rfl, rfl⟩
theorem s_X4_follow {om : OM} {l : Launch} {B : Nat × Nat} {h0 : Hp} {b : Nat} {C : Nat → Int32} {W : Nat → Int64} (m : Int32) (L : Nat) (x : Int32) (hx : x = nI L) (hL1 : 1 ≤ L) (hL : L ≤ 20) : Runs om l M_X4_follow B 0 (entL 4 [.ref (b + 13), .int m, .int x]) [] (sH h0 b C W) (Det (none) (sH h0 b (upd C 26 (K_flw C m x)) W)) := by
  show Runs om l M_X4_follow B 0 [some (.ref (b + 13)), some (.int m), some (.int x), none] [] _ _
  refine r_iload_n (pc := 0) dX4_follow_0 rfl rfl ?_
  refine r_if_le 15 (pc := 1) dX4_follow_1 (by decide) (fun c1 => absurd c1 (c_lef hx rfl (a := L) (b := 0) (by omega) (by omega) (by omega))) (fun c1 => ?_)
  refine r_iload_n (pc := 4) dX4_follow_4 rfl rfl ?_
  refine r_aload_n (pc := 5) dX4_follow_5 rfl rfl ?_
  refine cs_get (i := 13) (pc := 6) dX4_follow_6 rfl f_RX4_22 (by decide) rfl rfl ?_
  refine r_isub (pc := 9) dX4_follow_9 ?_
  refine r_iload_n (pc := 10) dX4_follow_10 rfl rfl ?_
  refine r_idiv (pc := 11) dX4_follow_11 (fun z => c_eqf (a := L) (b := 0) hx rfl (by omega) (by omega) (by omega) z) ?_
  refine r_goto 16 (pc := 12) dX4_follow_12 (by decide) ?_
  refine q_istore_n [_, _, _, _] (pc := 16) dX4_follow_16 rfl (by decide) rfl ?_
  refine r_aload_n (pc := 17) dX4_follow_17 rfl rfl ?_
  refine r_aload_n (pc := 18) dX4_follow_18 rfl rfl ?_
  refine cs_get (i := 13) (pc := 19) dX4_follow_19 rfl f_RX4_22 (by decide) rfl rfl ?_
  refine r_iconst (v := (-1)) (pc := 22) dX4_follow_22 (by decide) ?_
  refine r_icmp_eq 30 (pc := 23) dX4_follow_23 (by decide) (fun c23 => ?_) (fun c23 => ?_)
  · refine r_iload_n (pc := 30) dX4_follow_30 rfl rfl ?_
    refine r_goto 40 (pc := 31) dX4_follow_31 (by decide) ?_
    refine cs_put (i := 13) 26 (pc := 40) dX4_follow_40 rfl f_RX4_22 (by decide) rfl (Nat.le_of_ble_eq_true rfl) rfl rfl ?_
    exact r_return (S := []) (pc := 43) dX4_follow_43 rfl ⟨rfl, by rw [K_flw]; (repeat (first | rw [if_pos (by assumption)] | rw [if_neg (by assumption)])); try rfl⟩
  · refine r_iload_n (pc := 26) dX4_follow_26 rfl rfl ?_
    refine r_if_ne 34 (pc := 27) dX4_follow_27 (by decide) (fun c27 => ?_) (fun c27 => ?_)
    · refine r_aload_n (pc := 34) dX4_follow_34 rfl rfl ?_
      refine cs_get (i := 13) (pc := 35) dX4_follow_35 rfl f_RX4_22 (by decide) rfl rfl ?_
      refine r_iload_n (pc := 38) dX4_follow_38 rfl rfl ?_
      refine r_iadd (pc := 39) dX4_follow_39 ?_
      refine cs_put (i := 13) 26 (pc := 40) dX4_follow_40 rfl f_RX4_22 (by decide) rfl (Nat.le_of_ble_eq_true rfl) rfl rfl ?_
      exact r_return (S := []) (pc := 43) dX4_follow_43 rfl ⟨rfl, by rw [K_flw]; (repeat (first | rw [if_pos (by assumption)] | rw [if_neg (by assumption)])); try rfl⟩
    · refine r_iload_n (pc := 30) dX4_follow_30 rfl rfl ?_
      refine r_goto 40 (pc := 31) dX4_follow_31 (by decide) ?_
      refine cs_put (i := 13) 26 (pc := 40) dX4_follow_40 rfl f_RX4_22 (by decide) rfl (Nat.le_of_ble_eq_true rfl) rfl rfl ?_
      exact r_return (S := []) (pc := 43) dX4_follow_43 rfl ⟨rfl, by rw [K_flw]; (repeat (first | rw [if_pos (by assumption)] | rw [if_neg (by assumption)])); try rfl⟩
theorem lp_X4_wipe {om : OM} {l : Launch} {B : Nat × Nat} {h0 : Hp} {b : Nat} {C : Nat → Int32} {W : Nat → Int64} {Post : Out → Hp → Prop} (x : Int32) : ∀ (n9 k : Nat) (g : Nat → Int32), k + n9 = 9 → g = R_wipe C k → Runs om l M_X4_miss B 47 [some (.ref (b + 13)), some (.int x), some (.int (nI 9))] [] (sH h0 b ((R_wipe C 9)) W) Post → Runs om l M_X4_miss B 25 [some (.ref (b + 13)), some (.int x), some (.int (nI k))] [] (sH h0 b g W) Post := by
  intro n9
  induction n9 with
  | zero =>
    intro k g hk e_g KK
    subst e_g
    have e9 : k = 9 := by omega
    subst e9
    refine r_iload_n (pc := 25) dX4_miss_25 rfl rfl ?_
    refine r_aload_n (pc := 26) dX4_miss_26 rfl rfl ?_
    refine cs_get (i := 13) (pc := 27) dX4_miss_27 rfl f_RX4_9 (by decide) rfl rfl ?_
    refine cs_len (i := 14) (n := 9) (pc := 30) dX4_miss_30 (by decide) rfl ?_
    refine r_icmp_ge 47 (pc := 31) dX4_miss_31 (by decide) (fun c31 => ?_) (fun c31 => absurd (c_get rfl rfl (a := 9) (b := 9) (by omega) (by omega) (by omega)) c31)
    exact KK
  | succ n9 ih =>
    intro k g hk e_g KK
    subst e_g
    refine r_iload_n (pc := 25) dX4_miss_25 rfl rfl ?_
    refine r_aload_n (pc := 26) dX4_miss_26 rfl rfl ?_
    refine cs_get (i := 13) (pc := 27) dX4_miss_27 rfl f_RX4_9 (by decide) rfl rfl ?_
    refine cs_len (i := 14) (n := 9) (pc := 30) dX4_miss_30 (by decide) rfl ?_
    refine r_icmp_ge 47 (pc := 31) dX4_miss_31 (by decide) (fun c31 => absurd c31 (c_gef rfl rfl (a := k) (b := 9) (by omega) (by omega) (by omega))) (fun c31 => ?_)
    refine r_aload_n (pc := 34) dX4_miss_34 rfl rfl ?_
    refine cs_get (i := 13) (pc := 35) dX4_miss_35 rfl f_RX4_9 (by decide) rfl rfl ?_
    refine r_iload_n (pc := 38) dX4_miss_38 rfl rfl ?_
    refine r_iconst (v := (-1)) (pc := 39) dX4_miss_39 (by decide) ?_
    refine cs_st (i := 14) (n := 9) (k := k) (32 + k) (pc := 40) dX4_miss_40 (by decide) rfl rfl (by omega) (by decide) (ow_14 (by omega)) st_14 ?_
    refine q_iinc (nI (k + 1)) [_, _, _] (pc := 41) dX4_miss_41 rfl (by decide) (ninc 1 rfl) rfl ?_
    refine r_goto 25 (pc := 44) dX4_miss_44 (by decide) ?_
    exact ih (k + 1) _ (by omega) R_wipe_s KK
theorem s_X4_miss {om : OM} {l : Launch} {B : Nat × Nat} {h0 : Hp} {b : Nat} {C : Nat → Int32} {W : Nat → Int64} (x : Int32) : Runs om l M_X4_miss B 0 (entL 3 [.ref (b + 13), .int x]) [] (sH h0 b C W) (Det (none) (sH h0 b (K_miss C x) W)) := by
  show Runs om l M_X4_miss B 0 [some (.ref (b + 13)), some (.int x), none] [] _ _
  refine r_aload_n (pc := 0) dX4_miss_0 rfl rfl ?_
  refine r_dup (pc := 1) dX4_miss_1 rfl ?_
  refine cs_get (i := 13) (pc := 2) dX4_miss_2 rfl f_RX4_25 (by decide) rfl rfl ?_
  refine r_iconst (v := 1) (pc := 5) dX4_miss_5 (by decide) ?_
  refine r_iadd (pc := 6) dX4_miss_6 ?_
  refine cs_put (i := 13) 27 (pc := 7) dX4_miss_7 rfl f_RX4_25 (by decide) rfl (Nat.le_of_ble_eq_true rfl) rfl rfl ?_
  refine r_aload_n (pc := 10) dX4_miss_10 rfl rfl ?_
  refine cs_get (i := 13) (pc := 11) dX4_miss_11 rfl f_RX4_25 (by decide) rfl rfl ?_
  refine r_iload_n (pc := 14) dX4_miss_14 rfl rfl ?_
  refine r_icmp_ne 47 (pc := 15) dX4_miss_15 (by decide) (fun c15 => ?_) (fun c15 => ?_)
  · exact r_return (S := []) (pc := 47) dX4_miss_47 rfl ⟨rfl, by rw [K_miss]; (repeat (first | rw [if_pos (by assumption)] | rw [if_neg (by assumption)])); try rfl⟩
  · refine r_aload_n (pc := 18) dX4_miss_18 rfl rfl ?_
    refine r_iconst (v := (-1)) (pc := 19) dX4_miss_19 (by decide) ?_
    refine cs_put (i := 13) 26 (pc := 20) dX4_miss_20 rfl f_RX4_22 (by decide) rfl (Nat.le_of_ble_eq_true rfl) rfl rfl ?_
    refine r_iconst (v := 0) (pc := 23) dX4_miss_23 (by decide) ?_
    refine q_istore_n [_, _, _] (pc := 24) dX4_miss_24 rfl (by decide) rfl ?_
    refine lp_X4_wipe _ 9 0 _ (by omega) R_wipe_0.symm ?_
    exact r_return (S := []) (pc := 47) dX4_miss_47 rfl ⟨rfl, by rw [K_miss]; (repeat (first | rw [if_pos (by assumption)] | rw [if_neg (by assumption)])); try rfl⟩
theorem s_X4_judgeAlarm {om : OM} {l : Launch} {B : Nat × Nat} {h0 : Hp} {b : Nat} {C : Nat → Int32} {W : Nat → Int64} (hl : l.stackTraces = false) (lv : Int32) : Runs om l M_X4_judgeAlarm B 0 (entL 4 [.ref (b + 13), .int lv, .ref (b + 4)]) [] (sH h0 b C W) (Det (none) (sH h0 b (K_alarms C lv) W)) := by
  show Runs om l M_X4_judgeAlarm B 0 [some (.ref (b + 13)), some (.int lv), some (.ref (b + 4)), none] [] _ _
  refine r_aload_n (pc := 0) dX4_judgeAlarm_0 rfl rfl ?_
  refine cs_get (i := 13) (pc := 1) dX4_judgeAlarm_1 rfl f_RX4_28 (by decide) rfl rfl ?_
  refine q_istore_n [_, _, _, _] (pc := 4) dX4_judgeAlarm_4 rfl (by decide) rfl ?_
  refine r_joinH 103 [some (.ref (b + 13)), some (.int lv), some (.ref (b + 4)), some (.int (C 28))] (sH h0 b (K_al C lv) W) (?_) (fun J5 => ?_)
  · refine r_aload_n (pc := 103) dX4_judgeAlarm_103 rfl rfl ?_
    refine cs_get (i := 13) (pc := 104) dX4_judgeAlarm_104 rfl f_RX4_28 (by decide) rfl rfl ?_
    refine r_if_eq 128 (pc := 107) dX4_judgeAlarm_107 (by decide) (fun c107 => ?_) (fun c107 => ?_)
    · exact r_return (S := []) (pc := 128) dX4_judgeAlarm_128 rfl ⟨rfl, by rw [K_alarms]; (repeat (first | rw [if_pos (by assumption)] | rw [if_neg (by assumption)])); try rfl⟩
    · refine r_aload_n (pc := 110) dX4_judgeAlarm_110 rfl rfl ?_
      refine cs_get (i := 13) (pc := 111) dX4_judgeAlarm_111 rfl f_RX4_28 (by decide) rfl rfl ?_
      refine r_iload_n (pc := 114) dX4_judgeAlarm_114 rfl rfl ?_
      refine r_icmp_eq 128 (pc := 115) dX4_judgeAlarm_115 (by decide) (fun c115 => ?_) (fun c115 => ?_)
      · exact r_return (S := []) (pc := 128) dX4_judgeAlarm_128 rfl ⟨rfl, by rw [K_alarms]; (repeat (first | rw [if_pos (by assumption)] | rw [if_neg (by assumption)])); try rfl⟩
      · refine r_aload_n (pc := 118) dX4_judgeAlarm_118 rfl rfl ?_
        refine r_dup (pc := 119) dX4_judgeAlarm_119 rfl ?_
        refine cs_get (i := 13) (pc := 120) dX4_judgeAlarm_120 rfl f_RX4_40 (by decide) rfl rfl ?_
        refine r_iconst (v := 1) (pc := 123) dX4_judgeAlarm_123 (by decide) ?_
        refine r_iadd (pc := 124) dX4_judgeAlarm_124 ?_
        refine cs_put (i := 13) 30 (pc := 125) dX4_judgeAlarm_125 rfl f_RX4_40 (by decide) rfl (Nat.le_of_ble_eq_true rfl) rfl rfl ?_
        exact r_return (S := []) (pc := 128) dX4_judgeAlarm_128 rfl ⟨rfl, by rw [K_alarms]; (repeat (first | rw [if_pos (by assumption)] | rw [if_neg (by assumption)])); try rfl⟩
  · refine r_iload_n (pc := 5) dX4_judgeAlarm_5 rfl rfl ?_
    refine r_iconst (v := (-1)) (pc := 6) dX4_judgeAlarm_6 (by decide) ?_
    refine r_icmp_ne 18 (pc := 7) dX4_judgeAlarm_7 (by decide) (fun c7 => ?_) (fun c7 => ?_)
    · refine r_iload_n (pc := 18) dX4_judgeAlarm_18 rfl rfl ?_
      refine r_aload_n (pc := 19) dX4_judgeAlarm_19 rfl rfl ?_
      refine r_bipush (v := 9) (pc := 20) dX4_judgeAlarm_20 (by decide) ?_
      refine q_callV (ci := 5) (T := TX6) (N := 1) (vs := [.int _]) (pc := 22) dX4_judgeAlarm_22 rfl l_RX4_67 rfl ⟨by decide, by decide⟩ rfl (Nat.le_of_ble_eq_true rfl) hl (sH_at (i := 4) (by decide)) rfl (Nat.le_of_ble_eq_true rfl) (s_X6_value hl _ 9 rfl (by decide)) sH_22 ?_
      refine r_icmp_gt 36 (pc := 25) dX4_judgeAlarm_25 (by decide) (fun c25 => ?_) (fun c25 => ?_)
      · refine r_iload_n (pc := 36) dX4_judgeAlarm_36 rfl rfl ?_
        refine r_aload_n (pc := 37) dX4_judgeAlarm_37 rfl rfl ?_
        refine r_bipush (v := 10) (pc := 38) dX4_judgeAlarm_38 (by decide) ?_
        refine q_callV (ci := 5) (T := TX6) (N := 1) (vs := [.int _]) (pc := 40) dX4_judgeAlarm_40 rfl l_RX4_67 rfl ⟨by decide, by decide⟩ rfl (Nat.le_of_ble_eq_true rfl) hl (sH_at (i := 4) (by decide)) rfl (Nat.le_of_ble_eq_true rfl) (s_X6_value hl _ 10 rfl (by decide)) sH_22 ?_
        refine r_icmp_lt 54 (pc := 43) dX4_judgeAlarm_43 (by decide) (fun c43 => ?_) (fun c43 => ?_)
        · refine r_iload_n (pc := 54) dX4_judgeAlarm_54 rfl rfl ?_
          refine r_iconst (v := 1) (pc := 55) dX4_judgeAlarm_55 (by decide) ?_
          refine r_icmp_ne 76 (pc := 56) dX4_judgeAlarm_56 (by decide) (fun c56 => ?_) (fun c56 => ?_)
          · refine r_iload_n (pc := 76) dX4_judgeAlarm_76 rfl rfl ?_
            refine r_iconst (v := 2) (pc := 77) dX4_judgeAlarm_77 (by decide) ?_
            refine r_icmp_ne 103 (pc := 78) dX4_judgeAlarm_78 (by decide) (fun c78 => ?_) (fun c78 => ?_)
            · exact r_wkH J5 ⟨rfl, rfl, rfl, rfl, trivial⟩ (by rw [K_al]; (repeat (first | rw [if_pos (by assumption)] | rw [if_neg (by assumption)])); try (rw [K_al2]; (repeat (first | rw [if_pos (by assumption)] | rw [if_neg (by assumption)]))))
            · refine r_iload_n (pc := 81) dX4_judgeAlarm_81 rfl rfl ?_
              refine r_aload_n (pc := 82) dX4_judgeAlarm_82 rfl rfl ?_
              refine r_bipush (v := 10) (pc := 83) dX4_judgeAlarm_83 (by decide) ?_
              refine q_callV (ci := 5) (T := TX6) (N := 1) (vs := [.int _]) (pc := 85) dX4_judgeAlarm_85 rfl l_RX4_67 rfl ⟨by decide, by decide⟩ rfl (Nat.le_of_ble_eq_true rfl) hl (sH_at (i := 4) (by decide)) rfl (Nat.le_of_ble_eq_true rfl) (s_X6_value hl _ 10 rfl (by decide)) sH_22 ?_
              refine r_aload_n (pc := 88) dX4_judgeAlarm_88 rfl rfl ?_
              refine r_bipush (v := 11) (pc := 89) dX4_judgeAlarm_89 (by decide) ?_
              refine q_callV (ci := 5) (T := TX6) (N := 1) (vs := [.int _]) (pc := 91) dX4_judgeAlarm_91 rfl l_RX4_67 rfl ⟨by decide, by decide⟩ rfl (Nat.le_of_ble_eq_true rfl) hl (sH_at (i := 4) (by decide)) rfl (Nat.le_of_ble_eq_true rfl) (s_X6_value hl _ 11 rfl (by decide)) sH_22 ?_
              refine r_isub (pc := 94) dX4_judgeAlarm_94 ?_
              refine r_icmp_ge 103 (pc := 95) dX4_judgeAlarm_95 (by decide) (fun c95 => ?_) (fun c95 => ?_)
              · exact r_wkH J5 ⟨rfl, rfl, rfl, rfl, trivial⟩ (by rw [K_al]; (repeat (first | rw [if_pos (by assumption)] | rw [if_neg (by assumption)])); try (rw [K_al2]; (repeat (first | rw [if_pos (by assumption)] | rw [if_neg (by assumption)]))))
              · refine r_aload_n (pc := 98) dX4_judgeAlarm_98 rfl rfl ?_
                refine r_iconst (v := 0) (pc := 99) dX4_judgeAlarm_99 (by decide) ?_
                refine cs_put (i := 13) 28 (pc := 100) dX4_judgeAlarm_100 rfl f_RX4_28 (by decide) rfl (Nat.le_of_ble_eq_true rfl) rfl rfl ?_
                exact r_wkH J5 ⟨rfl, rfl, rfl, rfl, trivial⟩ (by rw [K_al]; (repeat (first | rw [if_pos (by assumption)] | rw [if_neg (by assumption)])); try (rw [K_al2]; (repeat (first | rw [if_pos (by assumption)] | rw [if_neg (by assumption)]))))
          · refine r_iload_n (pc := 59) dX4_judgeAlarm_59 rfl rfl ?_
            refine r_aload_n (pc := 60) dX4_judgeAlarm_60 rfl rfl ?_
            refine r_bipush (v := 9) (pc := 61) dX4_judgeAlarm_61 (by decide) ?_
            refine q_callV (ci := 5) (T := TX6) (N := 1) (vs := [.int _]) (pc := 63) dX4_judgeAlarm_63 rfl l_RX4_67 rfl ⟨by decide, by decide⟩ rfl (Nat.le_of_ble_eq_true rfl) hl (sH_at (i := 4) (by decide)) rfl (Nat.le_of_ble_eq_true rfl) (s_X6_value hl _ 9 rfl (by decide)) sH_22 ?_
            refine r_aload_n (pc := 66) dX4_judgeAlarm_66 rfl rfl ?_
            refine r_bipush (v := 11) (pc := 67) dX4_judgeAlarm_67 (by decide) ?_
            refine q_callV (ci := 5) (T := TX6) (N := 1) (vs := [.int _]) (pc := 69) dX4_judgeAlarm_69 rfl l_RX4_67 rfl ⟨by decide, by decide⟩ rfl (Nat.le_of_ble_eq_true rfl) hl (sH_at (i := 4) (by decide)) rfl (Nat.le_of_ble_eq_true rfl) (s_X6_value hl _ 11 rfl (by decide)) sH_22 ?_
            refine r_iadd (pc := 72) dX4_judgeAlarm_72 ?_
            refine r_icmp_gt 98 (pc := 73) dX4_judgeAlarm_73 (by decide) (fun c73 => ?_) (fun c73 => ?_)
            · refine r_aload_n (pc := 98) dX4_judgeAlarm_98 rfl rfl ?_
              refine r_iconst (v := 0) (pc := 99) dX4_judgeAlarm_99 (by decide) ?_
              refine cs_put (i := 13) 28 (pc := 100) dX4_judgeAlarm_100 rfl f_RX4_28 (by decide) rfl (Nat.le_of_ble_eq_true rfl) rfl rfl ?_
              exact r_wkH J5 ⟨rfl, rfl, rfl, rfl, trivial⟩ (by rw [K_al]; (repeat (first | rw [if_pos (by assumption)] | rw [if_neg (by assumption)])); try (rw [K_al2]; (repeat (first | rw [if_pos (by assumption)] | rw [if_neg (by assumption)]))))
            · refine r_iload_n (pc := 76) dX4_judgeAlarm_76 rfl rfl ?_
              refine r_iconst (v := 2) (pc := 77) dX4_judgeAlarm_77 (by decide) ?_
              refine r_icmp_ne 103 (pc := 78) dX4_judgeAlarm_78 (by decide) (fun c78 => ?_) (fun c78 => ?_)
              · exact r_wkH J5 ⟨rfl, rfl, rfl, rfl, trivial⟩ (by rw [K_al]; (repeat (first | rw [if_pos (by assumption)] | rw [if_neg (by assumption)])); try (rw [K_al2]; (repeat (first | rw [if_pos (by assumption)] | rw [if_neg (by assumption)]))))
              · refine r_iload_n (pc := 81) dX4_judgeAlarm_81 rfl rfl ?_
                refine r_aload_n (pc := 82) dX4_judgeAlarm_82 rfl rfl ?_
                refine r_bipush (v := 10) (pc := 83) dX4_judgeAlarm_83 (by decide) ?_
                refine q_callV (ci := 5) (T := TX6) (N := 1) (vs := [.int _]) (pc := 85) dX4_judgeAlarm_85 rfl l_RX4_67 rfl ⟨by decide, by decide⟩ rfl (Nat.le_of_ble_eq_true rfl) hl (sH_at (i := 4) (by decide)) rfl (Nat.le_of_ble_eq_true rfl) (s_X6_value hl _ 10 rfl (by decide)) sH_22 ?_
                refine r_aload_n (pc := 88) dX4_judgeAlarm_88 rfl rfl ?_
                refine r_bipush (v := 11) (pc := 89) dX4_judgeAlarm_89 (by decide) ?_
                refine q_callV (ci := 5) (T := TX6) (N := 1) (vs := [.int _]) (pc := 91) dX4_judgeAlarm_91 rfl l_RX4_67 rfl ⟨by decide, by decide⟩ rfl (Nat.le_of_ble_eq_true rfl) hl (sH_at (i := 4) (by decide)) rfl (Nat.le_of_ble_eq_true rfl) (s_X6_value hl _ 11 rfl (by decide)) sH_22 ?_
                refine r_isub (pc := 94) dX4_judgeAlarm_94 ?_
                refine r_icmp_ge 103 (pc := 95) dX4_judgeAlarm_95 (by decide) (fun c95 => ?_) (fun c95 => ?_)
                · exact r_wkH J5 ⟨rfl, rfl, rfl, rfl, trivial⟩ (by rw [K_al]; (repeat (first | rw [if_pos (by assumption)] | rw [if_neg (by assumption)])); try (rw [K_al2]; (repeat (first | rw [if_pos (by assumption)] | rw [if_neg (by assumption)]))))
                · refine r_aload_n (pc := 98) dX4_judgeAlarm_98 rfl rfl ?_
                  refine r_iconst (v := 0) (pc := 99) dX4_judgeAlarm_99 (by decide) ?_
                  refine cs_put (i := 13) 28 (pc := 100) dX4_judgeAlarm_100 rfl f_RX4_28 (by decide) rfl (Nat.le_of_ble_eq_true rfl) rfl rfl ?_
                  exact r_wkH J5 ⟨rfl, rfl, rfl, rfl, trivial⟩ (by rw [K_al]; (repeat (first | rw [if_pos (by assumption)] | rw [if_neg (by assumption)])); try (rw [K_al2]; (repeat (first | rw [if_pos (by assumption)] | rw [if_neg (by assumption)]))))
        · refine r_aload_n (pc := 46) dX4_judgeAlarm_46 rfl rfl ?_
          refine r_iconst (v := 2) (pc := 47) dX4_judgeAlarm_47 (by decide) ?_
          refine cs_put (i := 13) 28 (pc := 48) dX4_judgeAlarm_48 rfl f_RX4_28 (by decide) rfl (Nat.le_of_ble_eq_true rfl) rfl rfl ?_
          refine r_goto 103 (pc := 51) dX4_judgeAlarm_51 (by decide) ?_
          exact r_wkH J5 ⟨rfl, rfl, rfl, rfl, trivial⟩ (by rw [K_al]; (repeat (first | rw [if_pos (by assumption)] | rw [if_neg (by assumption)])); try (rw [K_al2]; (repeat (first | rw [if_pos (by assumption)] | rw [if_neg (by assumption)]))))
      · refine r_aload_n (pc := 28) dX4_judgeAlarm_28 rfl rfl ?_
        refine r_iconst (v := 1) (pc := 29) dX4_judgeAlarm_29 (by decide) ?_
        refine cs_put (i := 13) 28 (pc := 30) dX4_judgeAlarm_30 rfl f_RX4_28 (by decide) rfl (Nat.le_of_ble_eq_true rfl) rfl rfl ?_
        refine r_goto 103 (pc := 33) dX4_judgeAlarm_33 (by decide) ?_
        exact r_wkH J5 ⟨rfl, rfl, rfl, rfl, trivial⟩ (by rw [K_al]; (repeat (first | rw [if_pos (by assumption)] | rw [if_neg (by assumption)])); try (rw [K_al2]; (repeat (first | rw [if_pos (by assumption)] | rw [if_neg (by assumption)]))))
    · refine r_aload_n (pc := 10) dX4_judgeAlarm_10 rfl rfl ?_
      refine r_iconst (v := 0) (pc := 11) dX4_judgeAlarm_11 (by decide) ?_
      refine cs_put (i := 13) 28 (pc := 12) dX4_judgeAlarm_12 rfl f_RX4_28 (by decide) rfl (Nat.le_of_ble_eq_true rfl) rfl rfl ?_
      refine r_goto 103 (pc := 15) dX4_judgeAlarm_15 (by decide) ?_
      exact r_wkH J5 ⟨rfl, rfl, rfl, rfl, trivial⟩ (by rw [K_al]; (repeat (first | rw [if_pos (by assumption)] | rw [if_neg (by assumption)])); try (rw [K_al2]; (repeat (first | rw [if_pos (by assumption)] | rw [if_neg (by assumption)]))))
theorem s_X4_enter {om : OM} {l : Launch} {B : Nat × Nat} {h0 : Hp} {b : Nat} {C : Nat → Int32} {W : Nat → Int64} (hl : l.stackTraces = false) (p D : Int32) (K : Nat) (hK : C 31 = nI K) (hK9 : K ≤ 9) (L f : Nat) (h18 : C 18 = nI L) (hL1 : 1 ≤ L) (hL : L ≤ 9) (h19 : C 19 = nI f) (hf1 : 1 ≤ f) (hf : f ≤ 20) : Runs om l M_X4_enter B 0 (entL 5 [.ref (b + 13), .int p, .ref (b + 4), .int D]) [] (sH h0 b C W) (Det (none) (sH h0 b (K_enter C p D (min (K + 1) L)) W)) := by
  show Runs om l M_X4_enter B 0 [some (.ref (b + 13)), some (.int p), some (.ref (b + 4)), some (.int D), none] [] _ _
  refine r_aload_n (pc := 0) dX4_enter_0 rfl rfl ?_
  refine r_dup (pc := 1) dX4_enter_1 rfl ?_
  refine cs_get (i := 13) (pc := 2) dX4_enter_2 rfl f_RX4_31 (by decide) rfl rfl ?_
  refine r_iconst (v := 1) (pc := 5) dX4_enter_5 (by decide) ?_
  refine r_iadd (pc := 6) dX4_enter_6 ?_
  refine cs_put (i := 13) 24 (pc := 7) dX4_enter_7 rfl f_RX4_31 (by decide) rfl (Nat.le_of_ble_eq_true rfl) rfl rfl ?_
  refine r_joinH 25 [some (.ref (b + 13)), some (.int p), some (.ref (b + 4)), some (.int D), none] (sH h0 b (K_cnt C p) W) (?_) (fun J10 => ?_)
  · have hKa : K_cnt C p 31 = nI K := (kcnt_n (by omega)).trans hK
    have h18a : K_cnt C p (12 + 6) = nI L := (kcnt_n (by omega)).trans h18
    refine r_aload_n (pc := 25) dX4_enter_25 rfl rfl ?_
    refine r_iload_n (pc := 26) dX4_enter_26 rfl rfl ?_
    refine r_aload_n (pc := 27) dX4_enter_27 rfl rfl ?_
    refine r_bipush (v := 6) (pc := 28) dX4_enter_28 (by decide) ?_
    refine q_callV (ci := 5) (T := TX6) (N := 1) (vs := [.int _]) (pc := 30) dX4_enter_30 rfl l_RX4_67 rfl ⟨by decide, by decide⟩ rfl (Nat.le_of_ble_eq_true rfl) hl (sH_at (i := 4) (by decide)) rfl (Nat.le_of_ble_eq_true rfl) (s_X6_value hl _ 6 rfl (by decide)) sH_22 ?_
    refine q_callV (ci := 3) (T := TX4) (N := 9) (vs := [.int _, .int _]) (pc := 33) dX4_enter_33 rfl l_RX4_72 rfl ⟨by decide, by decide⟩ rfl (Nat.le_of_ble_eq_true rfl) hl (sH_at (i := 13) (by decide)) rfl (Nat.le_of_ble_eq_true rfl) (s_X4_push _ K hKa hK9 L _ h18a hL1 hL) sH_22 ?_
    have hKb : K_push (K_cnt C p) p (min (K + 1) L) 31 = nI (min (K + 1) L) := push_31 (by omega)
    have h19b : K_push (K_cnt C p) p (min (K + 1) L) (12 + 7) = nI f := (push_n (by omega) (by omega)).trans ((kcnt_n (by omega)).trans h19)
    refine r_aload_n (pc := 36) dX4_enter_36 rfl rfl ?_
    refine r_aload_n (pc := 37) dX4_enter_37 rfl rfl ?_
    refine r_bipush (v := 6) (pc := 38) dX4_enter_38 (by decide) ?_
    refine q_callV (ci := 5) (T := TX6) (N := 1) (vs := [.int _]) (pc := 40) dX4_enter_40 rfl l_RX4_67 rfl ⟨by decide, by decide⟩ rfl (Nat.le_of_ble_eq_true rfl) hl (sH_at (i := 4) (by decide)) rfl (Nat.le_of_ble_eq_true rfl) (s_X6_value hl _ 6 rfl (by decide)) sH_22 ?_
    refine q_callV (ci := 3) (T := TX4) (N := 9) (vs := [.int _]) (pc := 43) dX4_enter_43 rfl l_RX4_76 rfl ⟨by decide, by decide⟩ rfl (Nat.le_of_ble_eq_true rfl) hl (sH_at (i := 13) (by decide)) rfl (Nat.le_of_ble_eq_true rfl) (s_X4_median hl _ (min (K + 1) L) hKb (by omega)) sH_22 ?_
    refine q_istore [_, _, _, _, _] (pc := 46) dX4_enter_46 (by decide) rfl ?_
    refine r_joinH 84 [some (.ref (b + 13)), some (.int p), some (.ref (b + 4)), some (.int D), none] (sH h0 b (K_tells (K_push (K_cnt C p) p (min (K + 1) L)) (min (K + 1) L)) W) (?_) (fun J48 => ?_)
    · refine r_aload_n (pc := 84) dX4_enter_84 rfl rfl ?_
      refine r_aload_n (pc := 85) dX4_enter_85 rfl rfl ?_
      refine r_iload_n (pc := 86) dX4_enter_86 rfl rfl ?_
      refine q_callV (ci := 3) (T := TX4) (N := 9) (vs := [.int _]) (pc := 87) dX4_enter_87 rfl l_RX4_86 rfl ⟨by decide, by decide⟩ rfl (Nat.le_of_ble_eq_true rfl) hl (sH_at (i := 13) (by decide)) rfl (Nat.le_of_ble_eq_true rfl) (s_X4_toldLevel _) sH_22 ?_
      refine r_aload_n (pc := 90) dX4_enter_90 rfl rfl ?_
      refine q_callV (ci := 3) (T := TX4) (N := 9) (vs := [.int _, .ref _]) (pc := 91) dX4_enter_91 rfl l_RX4_89 rfl ⟨by decide, by decide⟩ rfl (Nat.le_of_ble_eq_true rfl) hl (sH_at (i := 13) (by decide)) rfl (Nat.le_of_ble_eq_true rfl) (s_X4_judgeAlarm hl _) sH_22 ?_
      exact r_return (S := []) (pc := 94) dX4_enter_94 rfl ⟨rfl, rfl⟩
    · refine r_iload (pc := 48) dX4_enter_48 rfl ?_
      refine r_iconst (v := (-1)) (pc := 50) dX4_enter_50 (by decide) ?_
      refine r_icmp_eq 74 (pc := 51) dX4_enter_51 (by decide) (fun c51 => ?_) (fun c51 => ?_)
      · refine r_aload_n (pc := 74) dX4_enter_74 rfl rfl ?_
        refine r_aload_n (pc := 75) dX4_enter_75 rfl rfl ?_
        refine r_bipush (v := 8) (pc := 76) dX4_enter_76 (by decide) ?_
        refine q_callV (ci := 5) (T := TX6) (N := 1) (vs := [.int _]) (pc := 78) dX4_enter_78 rfl l_RX4_67 rfl ⟨by decide, by decide⟩ rfl (Nat.le_of_ble_eq_true rfl) hl (sH_at (i := 4) (by decide)) rfl (Nat.le_of_ble_eq_true rfl) (s_X6_value hl _ 8 rfl (by decide)) sH_22 ?_
        refine q_callV (ci := 3) (T := TX4) (N := 9) (vs := [.int _]) (pc := 81) dX4_enter_81 rfl l_RX4_82 rfl ⟨by decide, by decide⟩ rfl (Nat.le_of_ble_eq_true rfl) hl (sH_at (i := 13) (by decide)) rfl (Nat.le_of_ble_eq_true rfl) (s_X4_miss _) sH_22 ?_
        exact r_wkH J48 ⟨rfl, rfl, rfl, rfl, trivial⟩ (by first | (rw [show K_tells (K_push (K_cnt C p) p (min (K + 1) L)) (min (K + 1) L) = K_miss (K_push (K_cnt C p) p (min (K + 1) L)) ((K_push (K_cnt C p) p (min (K + 1) L)) 20) from if_pos c51]; done) | (rw [show K_tells (K_push (K_cnt C p) p (min (K + 1) L)) (min (K + 1) L) = upd (upd (K_push (K_cnt C p) p (min (K + 1) L)) 26 (K_flw (K_push (K_cnt C p) p (min (K + 1) L)) (K_med (K_push (K_cnt C p) p (min (K + 1) L)) (min (K + 1) L) ((K_push (K_cnt C p) p (min (K + 1) L)) 18)) ((K_push (K_cnt C p) p (min (K + 1) L)) 19))) 27 0 from if_neg c51]; done))
      · refine r_aload_n (pc := 54) dX4_enter_54 rfl rfl ?_
        refine r_iload (pc := 55) dX4_enter_55 rfl ?_
        refine r_aload_n (pc := 57) dX4_enter_57 rfl rfl ?_
        refine r_bipush (v := 7) (pc := 58) dX4_enter_58 (by decide) ?_
        refine q_callV (ci := 5) (T := TX6) (N := 1) (vs := [.int _]) (pc := 60) dX4_enter_60 rfl l_RX4_67 rfl ⟨by decide, by decide⟩ rfl (Nat.le_of_ble_eq_true rfl) hl (sH_at (i := 4) (by decide)) rfl (Nat.le_of_ble_eq_true rfl) (s_X6_value hl _ 7 rfl (by decide)) sH_22 ?_
        refine q_callV (ci := 3) (T := TX4) (N := 9) (vs := [.int _, .int _]) (pc := 63) dX4_enter_63 rfl l_RX4_79 rfl ⟨by decide, by decide⟩ rfl (Nat.le_of_ble_eq_true rfl) hl (sH_at (i := 13) (by decide)) rfl (Nat.le_of_ble_eq_true rfl) (s_X4_follow _ f _ h19b hf1 hf) sH_22 ?_
        refine r_aload_n (pc := 66) dX4_enter_66 rfl rfl ?_
        refine r_iconst (v := 0) (pc := 67) dX4_enter_67 (by decide) ?_
        refine cs_put (i := 13) 27 (pc := 68) dX4_enter_68 rfl f_RX4_25 (by decide) rfl (Nat.le_of_ble_eq_true rfl) rfl rfl ?_
        refine r_goto 84 (pc := 71) dX4_enter_71 (by decide) ?_
        exact r_wkH J48 ⟨rfl, rfl, rfl, rfl, trivial⟩ (by first | (rw [show K_tells (K_push (K_cnt C p) p (min (K + 1) L)) (min (K + 1) L) = K_miss (K_push (K_cnt C p) p (min (K + 1) L)) ((K_push (K_cnt C p) p (min (K + 1) L)) 20) from if_pos c51]; done) | (rw [show K_tells (K_push (K_cnt C p) p (min (K + 1) L)) (min (K + 1) L) = upd (upd (K_push (K_cnt C p) p (min (K + 1) L)) 26 (K_flw (K_push (K_cnt C p) p (min (K + 1) L)) (K_med (K_push (K_cnt C p) p (min (K + 1) L)) (min (K + 1) L) ((K_push (K_cnt C p) p (min (K + 1) L)) 18)) ((K_push (K_cnt C p) p (min (K + 1) L)) 19))) 27 0 from if_neg c51]; done))
  · refine r_iload_n (pc := 10) dX4_enter_10 rfl rfl ?_
    refine r_iconst (v := (-1)) (pc := 11) dX4_enter_11 (by decide) ?_
    refine r_icmp_eq 25 (pc := 12) dX4_enter_12 (by decide) (fun c12 => ?_) (fun c12 => ?_)
    · exact r_wkH J10 ⟨rfl, rfl, rfl, rfl, trivial⟩ (by rw [K_cnt]; (repeat (first | rw [if_pos (by assumption)] | rw [if_neg (by assumption)])); try rfl)
    · refine r_aload_n (pc := 15) dX4_enter_15 rfl rfl ?_
      refine r_dup (pc := 16) dX4_enter_16 rfl ?_
      refine cs_get (i := 13) (pc := 17) dX4_enter_17 rfl f_RX4_34 (by decide) rfl rfl ?_
      refine r_iconst (v := 1) (pc := 20) dX4_enter_20 (by decide) ?_
      refine r_iadd (pc := 21) dX4_enter_21 ?_
      refine cs_put (i := 13) 25 (pc := 22) dX4_enter_22 rfl f_RX4_34 (by decide) rfl (Nat.le_of_ble_eq_true rfl) rfl rfl ?_
      exact r_wkH J10 ⟨rfl, rfl, rfl, rfl, trivial⟩ (by rw [K_cnt]; (repeat (first | rw [if_pos (by assumption)] | rw [if_neg (by assumption)])); try rfl)
