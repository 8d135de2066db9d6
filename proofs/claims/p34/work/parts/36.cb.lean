/-! the class: masks, echoes -/
def K_bitv (n : Nat) : Int64 := (1 : Int64) <<< ((nI n - nI n / 64 * 64).toInt64 &&& 63)
def K_bin (W : Nat → Int64) (n : Nat) : Int32 := if lg_cmp (W (n / 64) &&& K_bitv n) 0 = 0 then 0 else 1
def K_zero (W : Nat → Int64) (k : Nat) : Nat → Int64 := fun j => if j < k then 0 else W j
theorem K_zero_0 {W : Nat → Int64} : K_zero W 0 = W := funext fun j => if_neg (Nat.not_lt_zero j)
theorem K_zero_s {W : Nat → Int64} {k : Nat} : vp_updL (K_zero W k) k 0 = K_zero W (k + 1) := by
  funext j
  unfold vp_updL K_zero
  by_cases h : j = k
  · subst h; rw [if_pos rfl, if_pos (by omega)]
  · rw [if_neg h]
    by_cases h2 : j < k
    · rw [if_pos h2, if_pos (by omega)]
    · rw [if_neg h2, if_neg (by omega)]
theorem bin01 (W : Nat → Int64) (n : Nat) : K_bin W n = 0 ∨ K_bin W n = 1 := by
  unfold K_bin
  split
  · exact Or.inl rfl
  · exact Or.inr rfl
def K_mputC (C : Nat → Int32) (W : Nat → Int64) (n : Nat) (m : Int32) : Nat → Int32 := if K_bin W n = m then C else upd C 647 (C 647 + (if m = 0 then -1 else 1))
def K_mputW (W : Nat → Int64) (n : Nat) (m : Int32) : Nat → Int64 := if K_bin W n = m then W else vp_updL W (n / 64) (W (n / 64) ^^^ K_bitv n)
def K_put (C : Nat → Int32) (e : Nat) (k d s : Int32) : Nat → Int32 := upd (upd (upd C (42 + 4 * e) k) (42 + 4 * e + 1) d) (42 + 4 * e + 2) s
def K_cb (C : Nat → Int32) (k d s : Int32) (p : Nat) : Int32 := if d = C (42 + 4 * p + 1) then (if s = C (42 + 4 * p + 2) then (if C (42 + 4 * p) ≤ k then 0 else 1) else (if s ≤ C (42 + 4 * p + 2) then 0 else 1)) else (if C (42 + 4 * p + 1) ≤ d then 0 else 1)
def K_insl (k d s : Int32) : Nat → (Nat → Int32) → (Nat → Int32)
  | 0, C => K_put C 0 k d s
  | p + 1, C => if K_cb C k d s p = 0 then K_put C (p + 1) k d s else K_insl k d s p (K_put C (p + 1) (C (42 + 4 * p)) (C (42 + 4 * p + 1)) (C (42 + 4 * p + 2)))
def K_ins (C : Nat → Int32) (c : Nat) (k d s : Int32) : Nat → Int32 := upd (K_insl k d s c C) 41 (K_insl k d s c C 41 + 1)
theorem put_out {C : Nat → Int32} {e j : Nat} {k d s : Int32} (h : j ≠ 42 + 4 * e ∧ j ≠ 42 + 4 * e + 1 ∧ j ≠ 42 + 4 * e + 2) : K_put C e k d s j = C j := by
  unfold K_put
  rw [upd_n h.2.2, upd_n h.2.1, upd_n h.1]
theorem insl_out {k d s : Int32} {j : Nat} : ∀ (p : Nat) (C : Nat → Int32), (j < 42 ∨ 42 + 4 * p + 3 ≤ j ∨ (42 ≤ j ∧ (j - 42) % 4 = 3)) → K_insl k d s p C j = C j
  | 0, C, h => put_out (by omega)
  | p + 1, C, h => by
    rw [K_insl]
    split
    · exact put_out (by omega)
    · rw [insl_out p _ (by omega)]
      exact put_out (by omega)
def K_mk (x m : Int32) : Int32 := if x &&& m = 0 then 0 else 1
def K_lost (x : Int32) (X : Nat → Int32) : Int32 := if x ≤ R_d2 X 100 then 0 else 1
def K_mv (X : Nat → Int32) (j : Int32) (i : Nat) : (Nat → Int32) × Int32 := if j ≤ 0 then (X, X (42 + 4 * i + 1)) else (R_d1 X, X (42 + 4 * i + 1) + R_d2 X (2 * j + 1) - j)
def K_chb (x j : Int32) (i : Nat) (X : Nat → Int32) : Nat → Int32 := if K_lost x X = 0 then K_ins (K_mv (R_d1 X) j i).1 (cl (X 41)) ((K_mv (R_d1 X) j i).1 (42 + 4 * i)) (R_greater 0 (K_mv (R_d1 X) j i).2) ((K_mv (R_d1 X) j i).1 (42 + 4 * i + 2)) else R_d1 X
def K_chance (C : Nat → Int32) (x j : Int32) : Nat → Int32 := itN (K_chb x j) (cl (C 41)) (upd C 41 0)
theorem kmv_n {X : Nat → Int32} {jt : Int32} {i j : Nat} (h : j ≠ 11) : (K_mv X jt i).1 j = X j := by
  unfold K_mv
  split
  · rfl
  · exact d1_n h
theorem K_chb_41 {x jt : Int32} {X : Nat → Int32} {i c : Nat} (h : X 41 = nI c) (hc : c ≤ i) (hi : i < 15) : ∃ c', K_chb x jt i X 41 = nI c' ∧ c' ≤ i + 1 := by
  unfold K_chb
  split
  · refine ⟨c + 1, ?_, by omega⟩
    unfold K_ins
    rw [upd_s, insl_out _ _ (by omega), kmv_n (by omega), d1_n (by omega), h]
    exact (nI_succ c).symm
  · exact ⟨c, (d1_n (by omega)).trans h, by omega⟩
theorem K_ch_41 {x jt : Int32} {C : Nat → Int32} (k : Nat) : k ≤ 15 → ∃ c, itN (K_chb x jt) k (upd C 41 0) 41 = nI c ∧ c ≤ k := by
  induction k with
  | zero => exact fun _ => ⟨0, upd_s, Nat.le_refl _⟩
  | succ k ih =>
    intro hk
    obtain ⟨c, h1, h2⟩ := ih (by omega)
    rw [itN_s]
    exact K_chb_41 h1 h2 (by omega)
theorem K_chb_n {x jt : Int32} {X : Nat → Int32} {i j : Nat} (h2 : cl (X 41) ≤ i) (h : (j < 11 ∨ (11 < j ∧ j < 41) ∨ 42 + 4 * i + 3 ≤ j)) : K_chb x jt i X j = X j := by
  unfold K_chb
  split
  · unfold K_ins
    rw [upd_n (by omega), insl_out _ _ (by omega), kmv_n (by omega), d1_n (by omega)]
  · exact d1_n (by omega)
theorem K_ch_n {x jt : Int32} {C : Nat → Int32} {j : Nat} (k : Nat) : k ≤ 15 → (j < 11 ∨ (11 < j ∧ j < 41) ∨ 42 + 4 * k ≤ j) → itN (K_chb x jt) k (upd C 41 0) j = C j := by
  induction k with
  | zero => exact fun _ h => upd_n (by omega)
  | succ k ih =>
    intro hk h
    obtain ⟨c, h1, h2⟩ := K_ch_41 (x := x) (jt := jt) (C := C) k (by omega)
    rw [itN_s, K_chb_n (by rw [cl_nI h1 (by omega)]; exact h2) (by omega)]
    exact ih (by omega) (by omega)
theorem min_n {x y : Int32} {a c : Nat} (hx : x = nI a) (hy : y = nI c) (ha : a < 2 ^ 31) (hc : c < 2 ^ 31) : (if y < x then y else x) = nI (min a c) := by
  by_cases h : c < a
  · rw [if_pos (c_ltt hy hx hc ha h), hy]; congr 1; omega
  · rw [if_neg (c_ltf hy hx hc ha (by omega)), hx]; congr 1; omega
theorem s_X5_bit {om : OM} {l : Launch} {B : Nat × Nat} {h : Hp} (k : Nat) (y : Int32) (hy : y = nI k) : Runs om l M_X5_bit B 0 (entL 1 [.int y]) [] h (Det (some (.long (K_bitv k))) h) := by
  show Runs om l M_X5_bit B 0 [some (.int y)] [] _ _
  subst hy
  refine r_lconst (v := 1) (pc := 0) dX5_bit_0 rfl ?_
  refine r_iload_n (pc := 1) dX5_bit_1 rfl rfl ?_
  refine r_bipush (v := 64) (pc := 2) dX5_bit_2 (by decide) ?_
  refine r_irem (pc := 4) dX5_bit_4 (by decide) ?_
  refine r_lshl (pc := 5) dX5_bit_5 ?_
  exact r_lreturn (S := []) (pc := 6) dX5_bit_6 rfl ⟨rfl, rfl⟩
theorem s_X5_hasBin {om : OM} {l : Launch} {B : Nat × Nat} {h0 : Hp} {b : Nat} {C : Nat → Int32} {W : Nat → Int64} (hl : l.stackTraces = false) (k : Nat) (y : Int32) (hy : y = nI k) (hk : k ≤ 500) : Runs om l M_X5_hasBin B 0 (entL 3 [.ref (b + 6), .int y]) [] (sH h0 b C W) (Det (some (.int (K_bin W k))) (sH h0 b C W)) := by
  show Runs om l M_X5_hasBin B 0 [some (.ref (b + 6)), some (.int y), none] [] _ _
  subst hy
  have hdv : k / 64 < 8 := by omega
  refine r_iload_n (pc := 0) dX5_hasBin_0 rfl rfl ?_
  refine r_bipush (v := 64) (pc := 1) dX5_hasBin_1 (by decide) ?_
  refine r_idiv (pc := 3) dX5_hasBin_3 (by decide) ?_
  refine q_istore_n [_, _, _] (pc := 4) dX5_hasBin_4 rfl (by decide) rfl ?_
  refine r_iload_n (pc := 5) dX5_hasBin_5 rfl rfl ?_
  refine r_if_lt 38 (pc := 6) dX5_hasBin_6 (by decide) (fun c6 => absurd c6 (c_ltf rfl rfl (a := k) (b := 0) (by omega) (by omega) (by omega))) (fun c6 => ?_)
  refine r_iload_n (pc := 9) dX5_hasBin_9 rfl rfl ?_
  refine r_aload_n (pc := 10) dX5_hasBin_10 rfl rfl ?_
  refine cs_get (i := 6) (pc := 11) dX5_hasBin_11 rfl f_RX5_11 (by decide) rfl rfl ?_
  refine cs_lenL (pc := 14) dX5_hasBin_14 ?_
  refine r_icmp_ge 38 (pc := 15) dX5_hasBin_15 (by decide) (fun c15 => absurd c15 (c_gef (ndiv rfl rfl (by omega) (by omega) (by omega)) rfl (a := k / 64) (b := 8) (by omega) (by omega) (by omega))) (fun c15 => ?_)
  refine r_aload_n (pc := 18) dX5_hasBin_18 rfl rfl ?_
  refine cs_get (i := 6) (pc := 19) dX5_hasBin_19 rfl f_RX5_11 (by decide) rfl rfl ?_
  refine r_iload_n (pc := 22) dX5_hasBin_22 rfl rfl ?_
  refine cs_ldL (k := k / 64) (pc := 23) dX5_hasBin_23 (ndiv rfl rfl (by omega) (by omega) (by omega)) (by omega) ?_
  refine r_iload_n (pc := 24) dX5_hasBin_24 rfl rfl ?_
  refine q_callS (vs := [.int _]) (pc := 25) dX5_hasBin_25 rfl l_RX5_35 rfl ⟨by decide, by decide⟩ rfl (Nat.le_of_ble_eq_true rfl) hl (Nat.le_of_ble_eq_true rfl) (s_X5_bit k _ rfl) sH_22 ?_
  refine r_land (pc := 28) dX5_hasBin_28 ?_
  refine r_lconst (v := 0) (pc := 29) dX5_hasBin_29 rfl ?_
  refine r_lcmp (pc := 30) dX5_hasBin_30 ?_
  refine r_if_eq 38 (pc := 31) dX5_hasBin_31 (by decide) (fun c31 => ?_) (fun c31 => ?_)
  · refine r_iconst (v := 0) (pc := 38) dX5_hasBin_38 (by decide) ?_
    exact r_ireturn (S := []) (pc := 39) dX5_hasBin_39 rfl rfl ⟨by rw [K_bin]; (repeat (first | rw [if_pos (by assumption)] | rw [if_neg (by assumption)])), rfl⟩
  · refine r_iconst (v := 1) (pc := 34) dX5_hasBin_34 (by decide) ?_
    refine r_goto 39 (pc := 35) dX5_hasBin_35 (by decide) ?_
    exact r_ireturn (S := []) (pc := 39) dX5_hasBin_39 rfl rfl ⟨by rw [K_bin]; (repeat (first | rw [if_pos (by assumption)] | rw [if_neg (by assumption)])), rfl⟩
theorem s_X5_covers {om : OM} {l : Launch} {B : Nat × Nat} {h0 : Hp} {b : Nat} {C : Nat → Int32} {W : Nat → Int64} (hl : l.stackTraces = false) (x : Nat) (d : Int32) (hd : d = nI x) (hx : x ≤ 10019) : Runs om l M_X5_covers B 0 (entL 2 [.ref (b + 6), .int d]) [] (sH h0 b C W) (Det (some (.int (K_bin W (x / 20)))) (sH h0 b C W)) := by
  show Runs om l M_X5_covers B 0 [some (.ref (b + 6)), some (.int d)] [] _ _
  refine r_aload_n (pc := 0) dX5_covers_0 rfl rfl ?_
  refine r_iload_n (pc := 1) dX5_covers_1 rfl rfl ?_
  refine r_bipush (v := 20) (pc := 2) dX5_covers_2 (by decide) ?_
  refine r_idiv (pc := 4) dX5_covers_4 (by decide) ?_
  refine q_callV (ci := 4) (T := TX5) (N := 2) (vs := [.int _]) (pc := 5) dX5_covers_5 rfl l_RX5_31 rfl ⟨by decide, by decide⟩ rfl (Nat.le_of_ble_eq_true rfl) hl (sH_at (i := 6) (by decide)) rfl (Nat.le_of_ble_eq_true rfl) (s_X5_hasBin hl (x / 20) _ (ndiv hd rfl (by omega) (by omega) (by omega)) (by omega)) sH_22 ?_
  exact r_ireturn (S := []) (pc := 8) dX5_covers_8 rfl (nar_b (bin01 _ _)) ⟨rfl, rfl⟩
theorem s_X5_put {om : OM} {l : Launch} {B : Nat × Nat} {h0 : Hp} {b : Nat} {C : Nat → Int32} {W : Nat → Int64} (hl : l.stackTraces = false) (x : Nat) (d m : Int32) (hd : d = nI x) (hx : x ≤ 10019) : Runs om l M_X5_put B 0 (entL 5 [.ref (b + 6), .int d, .int m]) [] (sH h0 b C W) (Det (none) (sH h0 b (K_mputC C W (x / 20) m) (K_mputW W (x / 20) m))) := by
  show Runs om l M_X5_put B 0 [some (.ref (b + 6)), some (.int d), some (.int m), none, none] [] _ _
  refine r_iload_n (pc := 0) dX5_put_0 rfl rfl ?_
  refine r_bipush (v := 20) (pc := 1) dX5_put_1 (by decide) ?_
  refine r_idiv (pc := 3) dX5_put_3 (by decide) ?_
  refine q_istore_n [_, _, _, _, _] (pc := 4) dX5_put_4 rfl (by decide) rfl ?_
  have hdv : x / 20 / 64 < 8 := by omega
  refine r_iload_n (pc := 5) dX5_put_5 rfl rfl ?_
  refine r_bipush (v := 64) (pc := 6) dX5_put_6 (by decide) ?_
  refine r_idiv (pc := 8) dX5_put_8 (by decide) ?_
  refine q_istore [_, _, _, _, _] (pc := 9) dX5_put_9 (by decide) rfl ?_
  refine r_iload_n (pc := 11) dX5_put_11 rfl rfl ?_
  refine r_if_lt 34 (pc := 12) dX5_put_12 (by decide) (fun c12 => absurd c12 (c_ltf (ndiv hd rfl (by omega) (by omega) (by omega)) rfl (a := x / 20) (b := 0) (by omega) (by omega) (by omega))) (fun c12 => ?_)
  refine r_iload (pc := 15) dX5_put_15 rfl ?_
  refine r_aload_n (pc := 17) dX5_put_17 rfl rfl ?_
  refine cs_get (i := 6) (pc := 18) dX5_put_18 rfl f_RX5_11 (by decide) rfl rfl ?_
  refine cs_lenL (pc := 21) dX5_put_21 ?_
  refine r_icmp_ge 34 (pc := 22) dX5_put_22 (by decide) (fun c22 => absurd c22 (c_gef (ndiv (ndiv hd rfl (by omega) (by omega) (by omega)) rfl (by omega) (by omega) (by omega)) rfl (a := (x / 20) / 64) (b := 8) (by omega) (by omega) (by omega))) (fun c22 => ?_)
  refine r_aload_n (pc := 25) dX5_put_25 rfl rfl ?_
  refine r_iload_n (pc := 26) dX5_put_26 rfl rfl ?_
  refine q_callV (ci := 4) (T := TX5) (N := 2) (vs := [.int _]) (pc := 27) dX5_put_27 rfl l_RX5_31 rfl ⟨by decide, by decide⟩ rfl (Nat.le_of_ble_eq_true rfl) hl (sH_at (i := 6) (by decide)) rfl (Nat.le_of_ble_eq_true rfl) (s_X5_hasBin hl (x / 20) _ (ndiv hd rfl (by omega) (by omega) (by omega)) (by omega)) sH_22 ?_
  refine r_iload_n (pc := 30) dX5_put_30 rfl rfl ?_
  refine r_icmp_ne 35 (pc := 31) dX5_put_31 (by decide) (fun c31 => ?_) (fun c31 => ?_)
  · refine r_aload_n (pc := 35) dX5_put_35 rfl rfl ?_
    refine cs_get (i := 6) (pc := 36) dX5_put_36 rfl f_RX5_11 (by decide) rfl rfl ?_
    refine r_iload (pc := 39) dX5_put_39 rfl ?_
    refine r_dup2 (pc := 41) dX5_put_41 rfl rfl ?_
    refine cs_ldL (k := (x / 20) / 64) (pc := 42) dX5_put_42 (ndiv (ndiv hd rfl (by omega) (by omega) (by omega)) rfl (by omega) (by omega) (by omega)) (by omega) ?_
    refine r_iload_n (pc := 43) dX5_put_43 rfl rfl ?_
    refine q_callS (vs := [.int _]) (pc := 44) dX5_put_44 rfl l_RX5_35 rfl ⟨by decide, by decide⟩ rfl (Nat.le_of_ble_eq_true rfl) hl (Nat.le_of_ble_eq_true rfl) (s_X5_bit (x / 20) _ (ndiv hd rfl (by omega) (by omega) (by omega))) sH_22 ?_
    refine r_lxor (pc := 47) dX5_put_47 ?_
    refine cs_stL (k := (x / 20) / 64) (pc := 48) dX5_put_48 (ndiv (ndiv hd rfl (by omega) (by omega) (by omega)) rfl (by omega) (by omega) (by omega)) (by omega) ?_
    refine r_aload_n (pc := 49) dX5_put_49 rfl rfl ?_
    refine r_dup (pc := 50) dX5_put_50 rfl ?_
    refine cs_get (i := 6) (pc := 51) dX5_put_51 rfl f_RX5_15 (by decide) rfl rfl ?_
    refine r_iload_n (pc := 54) dX5_put_54 rfl rfl ?_
    refine r_if_eq 62 (pc := 55) dX5_put_55 (by decide) (fun c55 => ?_) (fun c55 => ?_)
    · refine r_iconst (v := (-1)) (pc := 62) dX5_put_62 (by decide) ?_
      refine r_iadd (pc := 63) dX5_put_63 ?_
      refine cs_put (i := 6) 647 (pc := 64) dX5_put_64 rfl f_RX5_15 (by decide) rfl (Nat.le_of_ble_eq_true rfl) rfl rfl ?_
      exact r_return (S := []) (pc := 67) dX5_put_67 rfl ⟨rfl, by rw [K_mputC, K_mputW]; (repeat (first | rw [if_pos (by assumption)] | rw [if_neg (by assumption)])); try rfl⟩
    · refine r_iconst (v := 1) (pc := 58) dX5_put_58 (by decide) ?_
      refine r_goto 63 (pc := 59) dX5_put_59 (by decide) ?_
      refine r_iadd (pc := 63) dX5_put_63 ?_
      refine cs_put (i := 6) 647 (pc := 64) dX5_put_64 rfl f_RX5_15 (by decide) rfl (Nat.le_of_ble_eq_true rfl) rfl rfl ?_
      exact r_return (S := []) (pc := 67) dX5_put_67 rfl ⟨rfl, by rw [K_mputC, K_mputW]; (repeat (first | rw [if_pos (by assumption)] | rw [if_neg (by assumption)])); try rfl⟩
  · exact r_return (S := []) (pc := 34) dX5_put_34 rfl ⟨rfl, by rw [K_mputC, K_mputW]; (repeat (first | rw [if_pos (by assumption)] | rw [if_neg (by assumption)])); try rfl⟩
theorem lp_X5_reset {om : OM} {l : Launch} {B : Nat × Nat} {h0 : Hp} {b : Nat} {C : Nat → Int32} {W : Nat → Int64} {Post : Out → Hp → Prop}  : ∀ (n9 k : Nat) (g : Nat → Int64), k + n9 = 8 → g = K_zero W k → Runs om l M_X5_reset B 24 [some (.ref (b + 6)), some (.int (nI 8))] [] (sH h0 b C ((K_zero W 8))) Post → Runs om l M_X5_reset B 2 [some (.ref (b + 6)), some (.int (nI k))] [] (sH h0 b C g) Post := by
  intro n9
  induction n9 with
  | zero =>
    intro k g hk e_g KK
    subst e_g
    have e9 : k = 8 := by omega
    subst e9
    refine r_iload_n (pc := 2) dX5_reset_2 rfl rfl ?_
    refine r_aload_n (pc := 3) dX5_reset_3 rfl rfl ?_
    refine cs_get (i := 6) (pc := 4) dX5_reset_4 rfl f_RX5_11 (by decide) rfl rfl ?_
    refine cs_lenL (pc := 7) dX5_reset_7 ?_
    refine r_icmp_ge 24 (pc := 8) dX5_reset_8 (by decide) (fun c8 => ?_) (fun c8 => absurd (c_get rfl rfl (a := 8) (b := 8) (by omega) (by omega) (by omega)) c8)
    exact KK
  | succ n9 ih =>
    intro k g hk e_g KK
    subst e_g
    refine r_iload_n (pc := 2) dX5_reset_2 rfl rfl ?_
    refine r_aload_n (pc := 3) dX5_reset_3 rfl rfl ?_
    refine cs_get (i := 6) (pc := 4) dX5_reset_4 rfl f_RX5_11 (by decide) rfl rfl ?_
    refine cs_lenL (pc := 7) dX5_reset_7 ?_
    refine r_icmp_ge 24 (pc := 8) dX5_reset_8 (by decide) (fun c8 => absurd c8 (c_gef rfl rfl (a := k) (b := 8) (by omega) (by omega) (by omega))) (fun c8 => ?_)
    refine r_aload_n (pc := 11) dX5_reset_11 rfl rfl ?_
    refine cs_get (i := 6) (pc := 12) dX5_reset_12 rfl f_RX5_11 (by decide) rfl rfl ?_
    refine r_iload_n (pc := 15) dX5_reset_15 rfl rfl ?_
    refine r_lconst (v := 0) (pc := 16) dX5_reset_16 rfl ?_
    refine cs_stL (k := k) (pc := 17) dX5_reset_17 rfl (by omega) ?_
    refine q_iinc (nI (k + 1)) [_, _] (pc := 18) dX5_reset_18 rfl (by decide) (ninc 1 rfl) rfl ?_
    refine r_goto 2 (pc := 21) dX5_reset_21 (by decide) ?_
    exact ih (k + 1) _ (by omega) K_zero_s KK
theorem s_X5_reset {om : OM} {l : Launch} {B : Nat × Nat} {h0 : Hp} {b : Nat} {C : Nat → Int32} {W : Nat → Int64}  : Runs om l M_X5_reset B 0 (entL 2 [.ref (b + 6)]) [] (sH h0 b C W) (Det (none) (sH h0 b (upd C 647 0) (K_zero W 8))) := by
  show Runs om l M_X5_reset B 0 [some (.ref (b + 6)), none] [] _ _
  refine r_iconst (v := 0) (pc := 0) dX5_reset_0 (by decide) ?_
  refine q_istore_n [_, _] (pc := 1) dX5_reset_1 rfl (by decide) rfl ?_
  refine lp_X5_reset 8 0 _ (by omega) K_zero_0.symm ?_
  refine r_aload_n (pc := 24) dX5_reset_24 rfl rfl ?_
  refine r_iconst (v := 0) (pc := 25) dX5_reset_25 (by decide) ?_
  refine cs_put (i := 6) 647 (pc := 26) dX5_reset_26 rfl f_RX5_15 (by decide) rfl (Nat.le_of_ble_eq_true rfl) rfl rfl ?_
  exact r_return (S := []) (pc := 29) dX5_reset_29 rfl ⟨rfl, rfl⟩
theorem s_X5_copyFrom {om : OM} {l : Launch} {B : Nat × Nat} {h0 : Hp} {b b2 : Nat} {C C2 : Nat → Int32} {W W2 : Nat → Int64} (hd : b + 19 ≤ b2 ∨ b2 + 19 ≤ b) : Runs om l M_X5_copyFrom B 0 (entL 2 [.ref (b + 6), .ref (b2 + 6)]) [] (sH ((sH h0 b2 C2 W2)) b C W) (Det (none) (sH ((sH h0 b2 C2 W2)) b (upd C 647 (C2 647)) W2)) := by
  show Runs om l M_X5_copyFrom B 0 [some (.ref (b + 6)), some (.ref (b2 + 6))] [] _ _
  refine r_aload_n (pc := 0) dX5_copyFrom_0 rfl rfl ?_
  refine r_getfield (pc := 1) dX5_copyFrom_1 rfl f_RX5_11 (sH_far (i := 6) hd (by decide)) rfl ?_
  refine r_iconst (v := 0) (pc := 4) dX5_copyFrom_4 (by decide) ?_
  refine r_aload_n (pc := 5) dX5_copyFrom_5 rfl rfl ?_
  refine cs_get (i := 6) (pc := 6) dX5_copyFrom_6 rfl f_RX5_11 (by decide) rfl rfl ?_
  refine r_iconst (v := 0) (pc := 9) dX5_copyFrom_9 (by decide) ?_
  refine r_aload_n (pc := 10) dX5_copyFrom_10 rfl rfl ?_
  refine r_getfield (pc := 11) dX5_copyFrom_11 rfl f_RX5_11 (sH_far (i := 6) hd (by decide)) rfl ?_
  refine r_alen (t := 2) (n := 8) (v := nI 8) (pc := 14) dX5_copyFrom_14 (sH_far (i := 7) hd (by decide)) (by decide) rfl ?_
  refine r_aload_n (pc := 15) dX5_copyFrom_15 rfl rfl ?_
  refine cs_get (i := 6) (pc := 16) dX5_copyFrom_16 rfl f_RX5_11 (by decide) rfl rfl ?_
  refine cs_lenL (pc := 19) dX5_copyFrom_19 ?_
  refine r_min (pc := 20) dX5_copyFrom_20 rfl l_RX5_19 (by decide) (Nat.le_of_ble_eq_true rfl) ?_
  rw [ite_self]
  refine r_copyL (f := trL 8 W2) (g := trL 8 W) (pc := 23) dX5_copyFrom_23 rfl l_RX5_25 (by decide) (Nat.le_of_ble_eq_true rfl) (sH_far (i := 7) hd (by decide)) (sH_at (i := 7) (by decide)) (by decide) (by decide) (by decide) (by decide) (by decide) ?_
  rw [show (nI 8).toNatClampNeg = 8 from rfl, show (0 : Int32).toNatClampNeg = 0 from rfl, trL_cpy, sH_W]
  refine r_aload_n (pc := 26) dX5_copyFrom_26 rfl rfl ?_
  refine r_aload_n (pc := 27) dX5_copyFrom_27 rfl rfl ?_
  refine r_getfield (pc := 28) dX5_copyFrom_28 rfl f_RX5_15 (sH_far (i := 6) hd (by decide)) rfl ?_
  refine cs_put (i := 6) 647 (pc := 31) dX5_copyFrom_31 rfl f_RX5_15 (by decide) rfl (Nat.le_of_ble_eq_true rfl) rfl rfl ?_
  exact r_return (S := []) (pc := 34) dX5_copyFrom_34 rfl ⟨rfl, rfl⟩
theorem s_X3_reset {om : OM} {l : Launch} {B : Nat × Nat} {h0 : Hp} {b : Nat} {C : Nat → Int32} {W : Nat → Int64}  : Runs om l M_X3_reset B 0 (entL 1 [.ref (b + 8)]) [] (sH h0 b C W) (Det (none) (sH h0 b (upd C 41 0) W)) := by
  show Runs om l M_X3_reset B 0 [some (.ref (b + 8))] [] _ _
  refine r_aload_n (pc := 0) dX3_reset_0 rfl rfl ?_
  refine r_iconst (v := 0) (pc := 1) dX3_reset_1 (by decide) ?_
  refine cs_put (i := 8) 41 (pc := 2) dX3_reset_2 rfl f_RX3_9 (by decide) rfl (Nat.le_of_ble_eq_true rfl) rfl rfl ?_
  exact r_return (S := []) (pc := 5) dX3_reset_5 rfl ⟨rfl, rfl⟩
theorem s_X3_has {om : OM} {l : Launch} {B : Nat × Nat} {h0 : Hp} {b : Nat} {C : Nat → Int32} {W : Nat → Int64} (x : Int32) (k K : Nat) (hx : x = nI k) (hK : C 41 = nI K) (hk : k < K) (h15 : K ≤ 15) : Runs om l M_X3_has B 0 (entL 2 [.ref (b + 8), .int x]) [] (sH h0 b C W) (Det (some (.int 1)) (sH h0 b C W)) := by
  show Runs om l M_X3_has B 0 [some (.ref (b + 8)), some (.int x)] [] _ _
  refine r_iload_n (pc := 0) dX3_has_0 rfl rfl ?_
  refine r_if_lt 22 (pc := 1) dX3_has_1 (by decide) (fun c1 => absurd c1 (c_ltf hx rfl (a := k) (b := 0) (by omega) (by omega) (by omega))) (fun c1 => ?_)
  refine r_iload_n (pc := 4) dX3_has_4 rfl rfl ?_
  refine r_aload_n (pc := 5) dX3_has_5 rfl rfl ?_
  refine cs_get (i := 8) (pc := 6) dX3_has_6 rfl f_RX3_9 (by decide) rfl rfl ?_
  refine r_icmp_ge 22 (pc := 9) dX3_has_9 (by decide) (fun c9 => absurd c9 (c_gef hx hK (a := k) (b := K) (by omega) (by omega) (by omega))) (fun c9 => ?_)
  refine r_iload_n (pc := 12) dX3_has_12 rfl rfl ?_
  refine r_bipush (v := 15) (pc := 13) dX3_has_13 (by decide) ?_
  refine r_icmp_ge 22 (pc := 15) dX3_has_15 (by decide) (fun c15 => absurd c15 (c_gef hx rfl (a := k) (b := 15) (by omega) (by omega) (by omega))) (fun c15 => ?_)
  refine r_iconst (v := 1) (pc := 18) dX3_has_18 (by decide) ?_
  refine r_goto 23 (pc := 19) dX3_has_19 (by decide) ?_
  exact r_ireturn (S := []) (pc := 23) dX3_has_23 rfl rfl ⟨rfl, rfl⟩
theorem s_X3_hasN {om : OM} {l : Launch} {B : Nat × Nat} {h0 : Hp} {b : Nat} {C : Nat → Int32} {W : Nat → Int64} (x : Int32) (hx : x < 0) : Runs om l M_X3_has B 0 (entL 2 [.ref (b + 8), .int x]) [] (sH h0 b C W) (Det (some (.int 0)) (sH h0 b C W)) := by
  show Runs om l M_X3_has B 0 [some (.ref (b + 8)), some (.int x)] [] _ _
  refine r_iload_n (pc := 0) dX3_has_0 rfl rfl ?_
  refine r_if_lt 22 (pc := 1) dX3_has_1 (by decide) (fun c1 => ?_) (fun c1 => absurd hx c1)
  refine r_iconst (v := 0) (pc := 22) dX3_has_22 (by decide) ?_
  exact r_ireturn (S := []) (pc := 23) dX3_has_23 rfl rfl ⟨rfl, rfl⟩
theorem s_X3_kind {om : OM} {l : Launch} {B : Nat × Nat} {h0 : Hp} {b : Nat} {C : Nat → Int32} {W : Nat → Int64} (hl : l.stackTraces = false) (x : Int32) (k K : Nat) (hx : x = nI k) (hK : C 41 = nI K) (hk : k < K) (h15 : K ≤ 15) : Runs om l M_X3_kind B 0 (entL 2 [.ref (b + 8), .int x]) [] (sH h0 b C W) (Det (some (.int (C (42 + 4 * k)))) (sH h0 b C W)) := by
  show Runs om l M_X3_kind B 0 [some (.ref (b + 8)), some (.int x)] [] _ _
  refine r_aload_n (pc := 0) dX3_kind_0 rfl rfl ?_
  refine r_iload_n (pc := 1) dX3_kind_1 rfl rfl ?_
  refine q_callV (ci := 2) (T := TX3) (N := 5) (vs := [.int _]) (pc := 2) dX3_kind_2 rfl l_RX3_32 rfl ⟨by decide, by decide⟩ rfl (Nat.le_of_ble_eq_true rfl) hl (sH_at (i := 8) (by decide)) rfl (Nat.le_of_ble_eq_true rfl) (s_X3_has _ k K hx hK hk h15) sH_22 ?_
  refine r_if_eq 17 (pc := 5) dX3_kind_5 (by decide) (fun c5 => absurd c5 (c_eqf rfl rfl (a := 1) (b := 0) (by omega) (by omega) (by omega))) (fun c5 => ?_)
  refine r_aload_n (pc := 8) dX3_kind_8 rfl rfl ?_
  refine cs_get (i := 8) (pc := 9) dX3_kind_9 rfl f_RX3_15 (by decide) rfl rfl ?_
  refine r_iload_n (pc := 12) dX3_kind_12 rfl rfl ?_
  refine cs_ld (i := 9) (n := 15) (k := k) (pc := 13) dX3_kind_13 (by decide) rfl hx (by omega) (by decide) ?_
  refine r_goto 18 (pc := 14) dX3_kind_14 (by decide) ?_
  exact r_ireturn (S := []) (pc := 18) dX3_kind_18 rfl rfl ⟨rfl, rfl⟩
theorem s_X3_distance {om : OM} {l : Launch} {B : Nat × Nat} {h0 : Hp} {b : Nat} {C : Nat → Int32} {W : Nat → Int64} (hl : l.stackTraces = false) (x : Int32) (k K : Nat) (hx : x = nI k) (hK : C 41 = nI K) (hk : k < K) (h15 : K ≤ 15) : Runs om l M_X3_distance B 0 (entL 2 [.ref (b + 8), .int x]) [] (sH h0 b C W) (Det (some (.int (C (42 + 4 * k + 1)))) (sH h0 b C W)) := by
  show Runs om l M_X3_distance B 0 [some (.ref (b + 8)), some (.int x)] [] _ _
  refine r_aload_n (pc := 0) dX3_distance_0 rfl rfl ?_
  refine r_iload_n (pc := 1) dX3_distance_1 rfl rfl ?_
  refine q_callV (ci := 2) (T := TX3) (N := 5) (vs := [.int _]) (pc := 2) dX3_distance_2 rfl l_RX3_32 rfl ⟨by decide, by decide⟩ rfl (Nat.le_of_ble_eq_true rfl) hl (sH_at (i := 8) (by decide)) rfl (Nat.le_of_ble_eq_true rfl) (s_X3_has _ k K hx hK hk h15) sH_22 ?_
  refine r_if_eq 17 (pc := 5) dX3_distance_5 (by decide) (fun c5 => absurd c5 (c_eqf rfl rfl (a := 1) (b := 0) (by omega) (by omega) (by omega))) (fun c5 => ?_)
  refine r_aload_n (pc := 8) dX3_distance_8 rfl rfl ?_
  refine cs_get (i := 8) (pc := 9) dX3_distance_9 rfl f_RX3_19 (by decide) rfl rfl ?_
  refine r_iload_n (pc := 12) dX3_distance_12 rfl rfl ?_
  refine cs_ld (i := 10) (n := 15) (k := k) (pc := 13) dX3_distance_13 (by decide) rfl hx (by omega) (by decide) ?_
  refine r_goto 18 (pc := 14) dX3_distance_14 (by decide) ?_
  exact r_ireturn (S := []) (pc := 18) dX3_distance_18 rfl rfl ⟨rfl, rfl⟩
theorem s_X3_strength {om : OM} {l : Launch} {B : Nat × Nat} {h0 : Hp} {b : Nat} {C : Nat → Int32} {W : Nat → Int64} (hl : l.stackTraces = false) (x : Int32) (k K : Nat) (hx : x = nI k) (hK : C 41 = nI K) (hk : k < K) (h15 : K ≤ 15) : Runs om l M_X3_strength B 0 (entL 2 [.ref (b + 8), .int x]) [] (sH h0 b C W) (Det (some (.int (C (42 + 4 * k + 2)))) (sH h0 b C W)) := by
  show Runs om l M_X3_strength B 0 [some (.ref (b + 8)), some (.int x)] [] _ _
  refine r_aload_n (pc := 0) dX3_strength_0 rfl rfl ?_
  refine r_iload_n (pc := 1) dX3_strength_1 rfl rfl ?_
  refine q_callV (ci := 2) (T := TX3) (N := 5) (vs := [.int _]) (pc := 2) dX3_strength_2 rfl l_RX3_32 rfl ⟨by decide, by decide⟩ rfl (Nat.le_of_ble_eq_true rfl) hl (sH_at (i := 8) (by decide)) rfl (Nat.le_of_ble_eq_true rfl) (s_X3_has _ k K hx hK hk h15) sH_22 ?_
  refine r_if_eq 17 (pc := 5) dX3_strength_5 (by decide) (fun c5 => absurd c5 (c_eqf rfl rfl (a := 1) (b := 0) (by omega) (by omega) (by omega))) (fun c5 => ?_)
  refine r_aload_n (pc := 8) dX3_strength_8 rfl rfl ?_
  refine cs_get (i := 8) (pc := 9) dX3_strength_9 rfl f_RX3_22 (by decide) rfl rfl ?_
  refine r_iload_n (pc := 12) dX3_strength_12 rfl rfl ?_
  refine cs_ld (i := 11) (n := 15) (k := k) (pc := 13) dX3_strength_13 (by decide) rfl hx (by omega) (by decide) ?_
  refine r_goto 18 (pc := 14) dX3_strength_14 (by decide) ?_
  exact r_ireturn (S := []) (pc := 18) dX3_strength_18 rfl rfl ⟨rfl, rfl⟩
theorem s_X3_distanceN {om : OM} {l : Launch} {B : Nat × Nat} {h0 : Hp} {b : Nat} {C : Nat → Int32} {W : Nat → Int64} (hl : l.stackTraces = false) (x : Int32) (hx : x < 0) : Runs om l M_X3_distance B 0 (entL 2 [.ref (b + 8), .int x]) [] (sH h0 b C W) (Det (some (.int (-1))) (sH h0 b C W)) := by
  show Runs om l M_X3_distance B 0 [some (.ref (b + 8)), some (.int x)] [] _ _
  refine r_aload_n (pc := 0) dX3_distance_0 rfl rfl ?_
  refine r_iload_n (pc := 1) dX3_distance_1 rfl rfl ?_
  refine q_callV (ci := 2) (T := TX3) (N := 5) (vs := [.int _]) (pc := 2) dX3_distance_2 rfl l_RX3_32 rfl ⟨by decide, by decide⟩ rfl (Nat.le_of_ble_eq_true rfl) hl (sH_at (i := 8) (by decide)) rfl (Nat.le_of_ble_eq_true rfl) (s_X3_hasN _ hx) sH_22 ?_
  refine r_if_eq 17 (pc := 5) dX3_distance_5 (by decide) (fun c5 => ?_) (fun c5 => absurd (c_eqt rfl rfl (a := 0) (b := 0) (by omega) (by omega) (by omega)) c5)
  refine r_iconst (v := (-1)) (pc := 17) dX3_distance_17 (by decide) ?_
  exact r_ireturn (S := []) (pc := 18) dX3_distance_18 rfl rfl ⟨rfl, rfl⟩
theorem s_X3_isMarked {om : OM} {l : Launch} {B : Nat × Nat} {h0 : Hp} {b : Nat} {C : Nat → Int32} {W : Nat → Int64} (hl : l.stackTraces = false) (x : Int32) (k K : Nat) (hx : x = nI k) (hK : C 41 = nI K) (hk : k < K) (h15 : K ≤ 15) (m : Int32) : Runs om l M_X3_isMarked B 0 (entL 3 [.ref (b + 8), .int x, .int m]) [] (sH h0 b C W) (Det (some (.int (K_mk (C (42 + 4 * k + 3)) m))) (sH h0 b C W)) := by
  show Runs om l M_X3_isMarked B 0 [some (.ref (b + 8)), some (.int x), some (.int m)] [] _ _
  refine r_aload_n (pc := 0) dX3_isMarked_0 rfl rfl ?_
  refine r_iload_n (pc := 1) dX3_isMarked_1 rfl rfl ?_
  refine q_callV (ci := 2) (T := TX3) (N := 5) (vs := [.int _]) (pc := 2) dX3_isMarked_2 rfl l_RX3_32 rfl ⟨by decide, by decide⟩ rfl (Nat.le_of_ble_eq_true rfl) hl (sH_at (i := 8) (by decide)) rfl (Nat.le_of_ble_eq_true rfl) (s_X3_has _ k K hx hK hk h15) sH_22 ?_
  refine r_if_eq 23 (pc := 5) dX3_isMarked_5 (by decide) (fun c5 => absurd c5 (c_eqf rfl rfl (a := 1) (b := 0) (by omega) (by omega) (by omega))) (fun c5 => ?_)
  refine r_aload_n (pc := 8) dX3_isMarked_8 rfl rfl ?_
  refine cs_get (i := 8) (pc := 9) dX3_isMarked_9 rfl f_RX3_25 (by decide) rfl rfl ?_
  refine r_iload_n (pc := 12) dX3_isMarked_12 rfl rfl ?_
  refine cs_ld (i := 12) (n := 15) (k := k) (pc := 13) dX3_isMarked_13 (by decide) rfl hx (by omega) (by decide) ?_
  refine r_iload_n (pc := 14) dX3_isMarked_14 rfl rfl ?_
  refine r_iand (pc := 15) dX3_isMarked_15 ?_
  refine r_if_eq 23 (pc := 16) dX3_isMarked_16 (by decide) (fun c16 => ?_) (fun c16 => ?_)
  · refine r_iconst (v := 0) (pc := 23) dX3_isMarked_23 (by decide) ?_
    exact r_ireturn (S := []) (pc := 24) dX3_isMarked_24 rfl rfl ⟨by rw [K_mk]; (repeat (first | rw [if_pos (by assumption)] | rw [if_neg (by assumption)])), rfl⟩
  · refine r_iconst (v := 1) (pc := 19) dX3_isMarked_19 (by decide) ?_
    refine r_goto 24 (pc := 20) dX3_isMarked_20 (by decide) ?_
    exact r_ireturn (S := []) (pc := 24) dX3_isMarked_24 rfl rfl ⟨by rw [K_mk]; (repeat (first | rw [if_pos (by assumption)] | rw [if_neg (by assumption)])), rfl⟩
theorem s_X3_mark {om : OM} {l : Launch} {B : Nat × Nat} {h0 : Hp} {b : Nat} {C : Nat → Int32} {W : Nat → Int64} (hl : l.stackTraces = false) (x : Int32) (k K : Nat) (hx : x = nI k) (hK : C 41 = nI K) (hk : k < K) (h15 : K ≤ 15) (m : Int32) : Runs om l M_X3_mark B 0 (entL 3 [.ref (b + 8), .int x, .int m]) [] (sH h0 b C W) (Det (none) (sH h0 b (upd C (42 + 4 * k + 3) (C (42 + 4 * k + 3) ||| m)) W)) := by
  show Runs om l M_X3_mark B 0 [some (.ref (b + 8)), some (.int x), some (.int m)] [] _ _
  refine r_aload_n (pc := 0) dX3_mark_0 rfl rfl ?_
  refine r_iload_n (pc := 1) dX3_mark_1 rfl rfl ?_
  refine q_callV (ci := 2) (T := TX3) (N := 5) (vs := [.int _]) (pc := 2) dX3_mark_2 rfl l_RX3_32 rfl ⟨by decide, by decide⟩ rfl (Nat.le_of_ble_eq_true rfl) hl (sH_at (i := 8) (by decide)) rfl (Nat.le_of_ble_eq_true rfl) (s_X3_has _ k K hx hK hk h15) sH_22 ?_
  refine r_if_eq 18 (pc := 5) dX3_mark_5 (by decide) (fun c5 => absurd c5 (c_eqf rfl rfl (a := 1) (b := 0) (by omega) (by omega) (by omega))) (fun c5 => ?_)
  refine r_aload_n (pc := 8) dX3_mark_8 rfl rfl ?_
  refine cs_get (i := 8) (pc := 9) dX3_mark_9 rfl f_RX3_25 (by decide) rfl rfl ?_
  refine r_iload_n (pc := 12) dX3_mark_12 rfl rfl ?_
  refine r_dup2 (pc := 13) dX3_mark_13 rfl rfl ?_
  refine cs_ld (i := 12) (n := 15) (k := k) (pc := 14) dX3_mark_14 (by decide) rfl hx (by omega) (by decide) ?_
  refine r_iload_n (pc := 15) dX3_mark_15 rfl rfl ?_
  refine r_ior (pc := 16) dX3_mark_16 ?_
  refine cs_st (i := 12) (n := 15) (k := k) (42 + 4 * k + 3) (pc := 17) dX3_mark_17 (by decide) rfl hx (by omega) (by decide) (ow_12 (by omega)) st_12 ?_
  exact r_return (S := []) (pc := 18) dX3_mark_18 rfl ⟨rfl, rfl⟩
theorem s_X3_markN {om : OM} {l : Launch} {B : Nat × Nat} {h0 : Hp} {b : Nat} {C : Nat → Int32} {W : Nat → Int64} (hl : l.stackTraces = false) (x m : Int32) (hx : x < 0) : Runs om l M_X3_mark B 0 (entL 3 [.ref (b + 8), .int x, .int m]) [] (sH h0 b C W) (Det (none) (sH h0 b C W)) := by
  show Runs om l M_X3_mark B 0 [some (.ref (b + 8)), some (.int x), some (.int m)] [] _ _
  refine r_aload_n (pc := 0) dX3_mark_0 rfl rfl ?_
  refine r_iload_n (pc := 1) dX3_mark_1 rfl rfl ?_
  refine q_callV (ci := 2) (T := TX3) (N := 5) (vs := [.int _]) (pc := 2) dX3_mark_2 rfl l_RX3_32 rfl ⟨by decide, by decide⟩ rfl (Nat.le_of_ble_eq_true rfl) hl (sH_at (i := 8) (by decide)) rfl (Nat.le_of_ble_eq_true rfl) (s_X3_hasN _ hx) sH_22 ?_
  refine r_if_eq 18 (pc := 5) dX3_mark_5 (by decide) (fun c5 => ?_) (fun c5 => absurd (c_eqt rfl rfl (a := 0) (b := 0) (by omega) (by omega) (by omega)) c5)
  exact r_return (S := []) (pc := 18) dX3_mark_18 rfl ⟨rfl, rfl⟩
theorem s_X3_put {om : OM} {l : Launch} {B : Nat × Nat} {h0 : Hp} {b : Nat} {C : Nat → Int32} {W : Nat → Int64} (e : Nat) (x : Int32) (hx : x = nI e) (he : e < 15) (k d s : Int32) : Runs om l M_X3_put B 0 (entL 5 [.ref (b + 8), .int x, .int k, .int d, .int s]) [] (sH h0 b C W) (Det (none) (sH h0 b (K_put C e k d s) W)) := by
  show Runs om l M_X3_put B 0 [some (.ref (b + 8)), some (.int x), some (.int k), some (.int d), some (.int s)] [] _ _
  refine r_iload_n (pc := 0) dX3_put_0 rfl rfl ?_
  refine r_if_lt 32 (pc := 1) dX3_put_1 (by decide) (fun c1 => absurd c1 (c_ltf hx rfl (a := e) (b := 0) (by omega) (by omega) (by omega))) (fun c1 => ?_)
  refine r_iload_n (pc := 4) dX3_put_4 rfl rfl ?_
  refine r_bipush (v := 15) (pc := 5) dX3_put_5 (by decide) ?_
  refine r_icmp_ge 32 (pc := 7) dX3_put_7 (by decide) (fun c7 => absurd c7 (c_gef hx rfl (a := e) (b := 15) (by omega) (by omega) (by omega))) (fun c7 => ?_)
  refine r_aload_n (pc := 10) dX3_put_10 rfl rfl ?_
  refine cs_get (i := 8) (pc := 11) dX3_put_11 rfl f_RX3_15 (by decide) rfl rfl ?_
  refine r_iload_n (pc := 14) dX3_put_14 rfl rfl ?_
  refine r_iload_n (pc := 15) dX3_put_15 rfl rfl ?_
  refine cs_st (i := 9) (n := 15) (k := e) (42 + 4 * e) (pc := 16) dX3_put_16 (by decide) rfl hx (by omega) (by decide) (ow_9 (by omega)) st_9 ?_
  refine r_aload_n (pc := 17) dX3_put_17 rfl rfl ?_
  refine cs_get (i := 8) (pc := 18) dX3_put_18 rfl f_RX3_19 (by decide) rfl rfl ?_
  refine r_iload_n (pc := 21) dX3_put_21 rfl rfl ?_
  refine r_iload_n (pc := 22) dX3_put_22 rfl rfl ?_
  refine cs_st (i := 10) (n := 15) (k := e) (42 + 4 * e + 1) (pc := 23) dX3_put_23 (by decide) rfl hx (by omega) (by decide) (ow_10 (by omega)) st_10 ?_
  refine r_aload_n (pc := 24) dX3_put_24 rfl rfl ?_
  refine cs_get (i := 8) (pc := 25) dX3_put_25 rfl f_RX3_22 (by decide) rfl rfl ?_
  refine r_iload_n (pc := 28) dX3_put_28 rfl rfl ?_
  refine r_iload (pc := 29) dX3_put_29 rfl ?_
  refine cs_st (i := 11) (n := 15) (k := e) (42 + 4 * e + 2) (pc := 31) dX3_put_31 (by decide) rfl hx (by omega) (by decide) (ow_11 (by omega)) st_11 ?_
  exact r_return (S := []) (pc := 32) dX3_put_32 rfl ⟨rfl, rfl⟩
theorem s_X3_append {om : OM} {l : Launch} {B : Nat × Nat} {h0 : Hp} {b : Nat} {C : Nat → Int32} {W : Nat → Int64} (hl : l.stackTraces = false) (e : Nat) (he : C 41 = nI e) (he15 : e < 15) (k d s : Int32) : Runs om l M_X3_append B 0 (entL 4 [.ref (b + 8), .int k, .int d, .int s]) [] (sH h0 b C W) (Det (none) (sH h0 b (R_makes C e k d s) W)) := by
  show Runs om l M_X3_append B 0 [some (.ref (b + 8)), some (.int k), some (.int d), some (.int s)] [] _ _
  refine r_aload_n (pc := 0) dX3_append_0 rfl rfl ?_
  refine cs_get (i := 8) (pc := 1) dX3_append_1 rfl f_RX3_9 (by decide) rfl rfl ?_
  refine r_if_lt 47 (pc := 4) dX3_append_4 (by decide) (fun c4 => absurd c4 (c_ltf he rfl (a := e) (b := 0) (by omega) (by omega) (by omega))) (fun c4 => ?_)
  refine r_aload_n (pc := 7) dX3_append_7 rfl rfl ?_
  refine cs_get (i := 8) (pc := 8) dX3_append_8 rfl f_RX3_9 (by decide) rfl rfl ?_
  refine r_bipush (v := 15) (pc := 11) dX3_append_11 (by decide) ?_
  refine r_icmp_ge 47 (pc := 13) dX3_append_13 (by decide) (fun c13 => absurd c13 (c_gef he rfl (a := e) (b := 15) (by omega) (by omega) (by omega))) (fun c13 => ?_)
  refine r_aload_n (pc := 16) dX3_append_16 rfl rfl ?_
  refine r_aload_n (pc := 17) dX3_append_17 rfl rfl ?_
  refine cs_get (i := 8) (pc := 18) dX3_append_18 rfl f_RX3_9 (by decide) rfl rfl ?_
  refine r_iload_n (pc := 21) dX3_append_21 rfl rfl ?_
  refine r_iload_n (pc := 22) dX3_append_22 rfl rfl ?_
  refine r_iload_n (pc := 23) dX3_append_23 rfl rfl ?_
  refine q_callV (ci := 2) (T := TX3) (N := 5) (vs := [.int _, .int _, .int _, .int _]) (pc := 24) dX3_append_24 rfl l_RX3_36 rfl ⟨by decide, by decide⟩ rfl (Nat.le_of_ble_eq_true rfl) hl (sH_at (i := 8) (by decide)) rfl (Nat.le_of_ble_eq_true rfl) (s_X3_put e _ he he15 _ _ _) sH_22 ?_
  refine r_aload_n (pc := 27) dX3_append_27 rfl rfl ?_
  refine cs_get (i := 8) (pc := 28) dX3_append_28 rfl f_RX3_25 (by decide) rfl rfl ?_
  refine r_aload_n (pc := 31) dX3_append_31 rfl rfl ?_
  refine cs_get (i := 8) (pc := 32) dX3_append_32 rfl f_RX3_9 (by decide) rfl rfl ?_
  refine r_iconst (v := 0) (pc := 35) dX3_append_35 (by decide) ?_
  refine cs_st (i := 12) (n := 15) (k := e) (42 + 4 * e + 3) (pc := 36) dX3_append_36 (by decide) rfl ((put_out (by omega)).trans he) (by omega) (by decide) (ow_12 (by omega)) st_12 ?_
  refine r_aload_n (pc := 37) dX3_append_37 rfl rfl ?_
  refine r_dup (pc := 38) dX3_append_38 rfl ?_
  refine cs_get (i := 8) (pc := 39) dX3_append_39 rfl f_RX3_9 (by decide) rfl rfl ?_
  refine r_iconst (v := 1) (pc := 42) dX3_append_42 (by decide) ?_
  refine r_iadd (pc := 43) dX3_append_43 ?_
  refine cs_put (i := 8) 41 (pc := 44) dX3_append_44 rfl f_RX3_9 (by decide) rfl (Nat.le_of_ble_eq_true rfl) rfl rfl ?_
  exact r_return (S := []) (pc := 47) dX3_append_47 rfl ⟨rfl, rfl⟩
theorem s_X3_comesBefore {om : OM} {l : Launch} {B : Nat × Nat} {h0 : Hp} {b : Nat} {C : Nat → Int32} {W : Nat → Int64} (p : Nat) (x : Int32) (hx : x = nI p) (hp : p < 15) (k d s : Int32) : Runs om l M_X3_comesBefore B 0 (entL 5 [.ref (b + 8), .int k, .int d, .int s, .int x]) [] (sH h0 b C W) (Det (some (.int (K_cb C k d s p))) (sH h0 b C W)) := by
  show Runs om l M_X3_comesBefore B 0 [some (.ref (b + 8)), some (.int k), some (.int d), some (.int s), some (.int x)] [] _ _
  refine r_iload (pc := 0) dX3_comesBefore_0 rfl ?_
  refine r_if_lt 12 (pc := 2) dX3_comesBefore_2 (by decide) (fun c2 => absurd c2 (c_ltf hx rfl (a := p) (b := 0) (by omega) (by omega) (by omega))) (fun c2 => ?_)
  refine r_iload (pc := 5) dX3_comesBefore_5 rfl ?_
  refine r_bipush (v := 15) (pc := 7) dX3_comesBefore_7 (by decide) ?_
  refine r_icmp_lt 14 (pc := 9) dX3_comesBefore_9 (by decide) (fun c9 => ?_) (fun c9 => absurd (c_ltt hx rfl (a := p) (b := 15) (by omega) (by omega) (by omega)) c9)
  refine r_iload_n (pc := 14) dX3_comesBefore_14 rfl rfl ?_
  refine r_aload_n (pc := 15) dX3_comesBefore_15 rfl rfl ?_
  refine cs_get (i := 8) (pc := 16) dX3_comesBefore_16 rfl f_RX3_19 (by decide) rfl rfl ?_
  refine r_iload (pc := 19) dX3_comesBefore_19 rfl ?_
  refine cs_ld (i := 10) (n := 15) (k := p) (pc := 21) dX3_comesBefore_21 (by decide) rfl hx (by omega) (by decide) ?_
  refine r_icmp_eq 42 (pc := 22) dX3_comesBefore_22 (by decide) (fun c22 => ?_) (fun c22 => ?_)
  · refine r_iload_n (pc := 42) dX3_comesBefore_42 rfl rfl ?_
    refine r_aload_n (pc := 43) dX3_comesBefore_43 rfl rfl ?_
    refine cs_get (i := 8) (pc := 44) dX3_comesBefore_44 rfl f_RX3_22 (by decide) rfl rfl ?_
    refine r_iload (pc := 47) dX3_comesBefore_47 rfl ?_
    refine cs_ld (i := 11) (n := 15) (k := p) (pc := 49) dX3_comesBefore_49 (by decide) rfl hx (by omega) (by decide) ?_
    refine r_icmp_eq 70 (pc := 50) dX3_comesBefore_50 (by decide) (fun c50 => ?_) (fun c50 => ?_)
    · refine r_iload_n (pc := 70) dX3_comesBefore_70 rfl rfl ?_
      refine r_aload_n (pc := 71) dX3_comesBefore_71 rfl rfl ?_
      refine cs_get (i := 8) (pc := 72) dX3_comesBefore_72 rfl f_RX3_15 (by decide) rfl rfl ?_
      refine r_iload (pc := 75) dX3_comesBefore_75 rfl ?_
      refine cs_ld (i := 9) (n := 15) (k := p) (pc := 77) dX3_comesBefore_77 (by decide) rfl hx (by omega) (by decide) ?_
      refine r_icmp_ge 85 (pc := 78) dX3_comesBefore_78 (by decide) (fun c78 => ?_) (fun c78 => ?_)
      · refine r_iconst (v := 0) (pc := 85) dX3_comesBefore_85 (by decide) ?_
        exact r_ireturn (S := []) (pc := 86) dX3_comesBefore_86 rfl rfl ⟨by rw [K_cb]; (repeat (first | rw [if_pos (by assumption)] | rw [if_neg (by assumption)])); try rfl, rfl⟩
      · refine r_iconst (v := 1) (pc := 81) dX3_comesBefore_81 (by decide) ?_
        refine r_goto 86 (pc := 82) dX3_comesBefore_82 (by decide) ?_
        exact r_ireturn (S := []) (pc := 86) dX3_comesBefore_86 rfl rfl ⟨by rw [K_cb]; (repeat (first | rw [if_pos (by assumption)] | rw [if_neg (by assumption)])); try rfl, rfl⟩
    · refine r_iload_n (pc := 53) dX3_comesBefore_53 rfl rfl ?_
      refine r_aload_n (pc := 54) dX3_comesBefore_54 rfl rfl ?_
      refine cs_get (i := 8) (pc := 55) dX3_comesBefore_55 rfl f_RX3_22 (by decide) rfl rfl ?_
      refine r_iload (pc := 58) dX3_comesBefore_58 rfl ?_
      refine cs_ld (i := 11) (n := 15) (k := p) (pc := 60) dX3_comesBefore_60 (by decide) rfl hx (by omega) (by decide) ?_
      refine r_icmp_le 68 (pc := 61) dX3_comesBefore_61 (by decide) (fun c61 => ?_) (fun c61 => ?_)
      · refine r_iconst (v := 0) (pc := 68) dX3_comesBefore_68 (by decide) ?_
        exact r_ireturn (S := []) (pc := 69) dX3_comesBefore_69 rfl rfl ⟨by rw [K_cb]; (repeat (first | rw [if_pos (by assumption)] | rw [if_neg (by assumption)])); try rfl, rfl⟩
      · refine r_iconst (v := 1) (pc := 64) dX3_comesBefore_64 (by decide) ?_
        refine r_goto 69 (pc := 65) dX3_comesBefore_65 (by decide) ?_
        exact r_ireturn (S := []) (pc := 69) dX3_comesBefore_69 rfl rfl ⟨by rw [K_cb]; (repeat (first | rw [if_pos (by assumption)] | rw [if_neg (by assumption)])); try rfl, rfl⟩
  · refine r_iload_n (pc := 25) dX3_comesBefore_25 rfl rfl ?_
    refine r_aload_n (pc := 26) dX3_comesBefore_26 rfl rfl ?_
    refine cs_get (i := 8) (pc := 27) dX3_comesBefore_27 rfl f_RX3_19 (by decide) rfl rfl ?_
    refine r_iload (pc := 30) dX3_comesBefore_30 rfl ?_
    refine cs_ld (i := 10) (n := 15) (k := p) (pc := 32) dX3_comesBefore_32 (by decide) rfl hx (by omega) (by decide) ?_
    refine r_icmp_ge 40 (pc := 33) dX3_comesBefore_33 (by decide) (fun c33 => ?_) (fun c33 => ?_)
    · refine r_iconst (v := 0) (pc := 40) dX3_comesBefore_40 (by decide) ?_
      exact r_ireturn (S := []) (pc := 41) dX3_comesBefore_41 rfl rfl ⟨by rw [K_cb]; (repeat (first | rw [if_pos (by assumption)] | rw [if_neg (by assumption)])); try rfl, rfl⟩
    · refine r_iconst (v := 1) (pc := 36) dX3_comesBefore_36 (by decide) ?_
      refine r_goto 41 (pc := 37) dX3_comesBefore_37 (by decide) ?_
      exact r_ireturn (S := []) (pc := 41) dX3_comesBefore_41 rfl rfl ⟨by rw [K_cb]; (repeat (first | rw [if_pos (by assumption)] | rw [if_neg (by assumption)])); try rfl, rfl⟩
theorem lp_X3_insert {om : OM} {l : Launch} {B : Nat × Nat} {h0 : Hp} {b : Nat} {C : Nat → Int32} {W : Nat → Int64} {Post : Out → Hp → Prop} (hl : l.stackTraces = false) (kd d s : Int32) : ∀ (p : Nat) (X : Nat → Int32) (q9 : Option Value), p < 15 → (∀ q9 : Option Value, Runs om l M_X3_insert B 90 [some (.ref (b + 8)), some (.int kd), some (.int d), some (.int s), q9] [] (sH h0 b (K_insl kd d s p X) W) Post) → Runs om l M_X3_insert B 23 [some (.ref (b + 8)), some (.int kd), some (.int d), some (.int s), some (.int (nI p))] [] (sH h0 b X W) Post := by
  intro p
  induction p with
  | zero =>
    intro X q9 hp KK
    refine r_iload (pc := 23) dX3_insert_23 rfl ?_
    refine r_if_le 81 (pc := 25) dX3_insert_25 (by decide) (fun c25 => ?_) (fun c25 => absurd (c_let rfl rfl (a := 0) (b := 0) (by omega) (by omega) (by omega)) c25)
    refine r_aload_n (pc := 81) dX3_insert_81 rfl rfl ?_
    refine r_iload (pc := 82) dX3_insert_82 rfl ?_
    refine r_iload_n (pc := 84) dX3_insert_84 rfl rfl ?_
    refine r_iload_n (pc := 85) dX3_insert_85 rfl rfl ?_
    refine r_iload_n (pc := 86) dX3_insert_86 rfl rfl ?_
    refine q_callV (ci := 2) (T := TX3) (N := 5) (vs := [.int _, .int _, .int _, .int _]) (pc := 87) dX3_insert_87 rfl l_RX3_36 rfl ⟨by decide, by decide⟩ rfl (Nat.le_of_ble_eq_true rfl) hl (sH_at (i := 8) (by decide)) rfl (Nat.le_of_ble_eq_true rfl) (s_X3_put 0 _ rfl (by decide) _ _ _) sH_22 ?_
    exact KK _
  | succ p ih =>
    intro X q9 hp KK
    refine r_iload (pc := 23) dX3_insert_23 rfl ?_
    refine r_if_le 81 (pc := 25) dX3_insert_25 (by decide) (fun c25 => absurd c25 (c_lef rfl rfl (a := p + 1) (b := 0) (by omega) (by omega) (by omega))) (fun c25 => ?_)
    refine r_aload_n (pc := 28) dX3_insert_28 rfl rfl ?_
    refine r_iload_n (pc := 29) dX3_insert_29 rfl rfl ?_
    refine r_iload_n (pc := 30) dX3_insert_30 rfl rfl ?_
    refine r_iload_n (pc := 31) dX3_insert_31 rfl rfl ?_
    refine r_iload (pc := 32) dX3_insert_32 rfl ?_
    refine r_iconst (v := 1) (pc := 34) dX3_insert_34 (by decide) ?_
    refine r_isub (pc := 35) dX3_insert_35 ?_
    refine q_callV (ci := 2) (T := TX3) (N := 5) (vs := [.int _, .int _, .int _, .int _]) (pc := 36) dX3_insert_36 rfl l_RX3_59 rfl ⟨by decide, by decide⟩ rfl (Nat.le_of_ble_eq_true rfl) hl (sH_at (i := 8) (by decide)) rfl (Nat.le_of_ble_eq_true rfl) (s_X3_comesBefore p _ (nsub (x := p + 1) (y := 1) rfl rfl (by omega)) (by omega) _ _ _) sH_22 ?_
    refine r_if_eq 81 (pc := 39) dX3_insert_39 (by decide) (fun c39 => ?_) (fun c39 => ?_)
    · refine r_aload_n (pc := 81) dX3_insert_81 rfl rfl ?_
      refine r_iload (pc := 82) dX3_insert_82 rfl ?_
      refine r_iload_n (pc := 84) dX3_insert_84 rfl rfl ?_
      refine r_iload_n (pc := 85) dX3_insert_85 rfl rfl ?_
      refine r_iload_n (pc := 86) dX3_insert_86 rfl rfl ?_
      refine q_callV (ci := 2) (T := TX3) (N := 5) (vs := [.int _, .int _, .int _, .int _]) (pc := 87) dX3_insert_87 rfl l_RX3_36 rfl ⟨by decide, by decide⟩ rfl (Nat.le_of_ble_eq_true rfl) hl (sH_at (i := 8) (by decide)) rfl (Nat.le_of_ble_eq_true rfl) (s_X3_put (p + 1) _ rfl (by omega) _ _ _) sH_22 ?_
      rw [show K_insl kd d s (p + 1) X = K_put X (p + 1) kd d s by rw [K_insl, if_pos c39]] at KK
      exact KK _
    · refine r_aload_n (pc := 42) dX3_insert_42 rfl rfl ?_
      refine r_iload (pc := 43) dX3_insert_43 rfl ?_
      refine r_aload_n (pc := 45) dX3_insert_45 rfl rfl ?_
      refine cs_get (i := 8) (pc := 46) dX3_insert_46 rfl f_RX3_15 (by decide) rfl rfl ?_
      refine r_iload (pc := 49) dX3_insert_49 rfl ?_
      refine r_iconst (v := 1) (pc := 51) dX3_insert_51 (by decide) ?_
      refine r_isub (pc := 52) dX3_insert_52 ?_
      refine cs_ld (i := 9) (n := 15) (k := (p + 1) - 1) (pc := 53) dX3_insert_53 (by decide) rfl (nsub rfl rfl (by omega)) (by omega) (by decide) ?_
      refine r_aload_n (pc := 54) dX3_insert_54 rfl rfl ?_
      refine cs_get (i := 8) (pc := 55) dX3_insert_55 rfl f_RX3_19 (by decide) rfl rfl ?_
      refine r_iload (pc := 58) dX3_insert_58 rfl ?_
      refine r_iconst (v := 1) (pc := 60) dX3_insert_60 (by decide) ?_
      refine r_isub (pc := 61) dX3_insert_61 ?_
      refine cs_ld (i := 10) (n := 15) (k := (p + 1) - 1) (pc := 62) dX3_insert_62 (by decide) rfl (nsub rfl rfl (by omega)) (by omega) (by decide) ?_
      refine r_aload_n (pc := 63) dX3_insert_63 rfl rfl ?_
      refine cs_get (i := 8) (pc := 64) dX3_insert_64 rfl f_RX3_22 (by decide) rfl rfl ?_
      refine r_iload (pc := 67) dX3_insert_67 rfl ?_
      refine r_iconst (v := 1) (pc := 69) dX3_insert_69 (by decide) ?_
      refine r_isub (pc := 70) dX3_insert_70 ?_
      refine cs_ld (i := 11) (n := 15) (k := (p + 1) - 1) (pc := 71) dX3_insert_71 (by decide) rfl (nsub rfl rfl (by omega)) (by omega) (by decide) ?_
      refine q_callV (ci := 2) (T := TX3) (N := 5) (vs := [.int _, .int _, .int _, .int _]) (pc := 72) dX3_insert_72 rfl l_RX3_36 rfl ⟨by decide, by decide⟩ rfl (Nat.le_of_ble_eq_true rfl) hl (sH_at (i := 8) (by decide)) rfl (Nat.le_of_ble_eq_true rfl) (s_X3_put (p + 1) _ rfl (by omega) _ _ _) sH_22 ?_
      refine q_iinc (nI (p)) [_, _, _, _, _] (pc := 75) dX3_insert_75 rfl (by decide) (pk_m1 _) rfl ?_
      refine r_goto 23 (pc := 78) dX3_insert_78 (by decide) ?_
      rw [show K_insl kd d s (p + 1) X = K_insl kd d s p (K_put X (p + 1) (X (42 + 4 * p)) (X (42 + 4 * p + 1)) (X (42 + 4 * p + 2))) by rw [K_insl, if_neg c39]] at KK
      exact ih _ none (by omega) KK
theorem s_X3_insert {om : OM} {l : Launch} {B : Nat × Nat} {h0 : Hp} {b : Nat} {C : Nat → Int32} {W : Nat → Int64} (hl : l.stackTraces = false) (c : Nat) (hc : C 41 = nI c) (hc15 : c < 15) (k d s : Int32) : Runs om l M_X3_insert B 0 (entL 5 [.ref (b + 8), .int k, .int d, .int s]) [] (sH h0 b C W) (Det (none) (sH h0 b (K_ins C c k d s) W)) := by
  show Runs om l M_X3_insert B 0 [some (.ref (b + 8)), some (.int k), some (.int d), some (.int s), none] [] _ _
  refine r_aload_n (pc := 0) dX3_insert_0 rfl rfl ?_
  refine cs_get (i := 8) (pc := 1) dX3_insert_1 rfl f_RX3_9 (by decide) rfl rfl ?_
  refine r_if_lt 16 (pc := 4) dX3_insert_4 (by decide) (fun c4 => absurd c4 (c_ltf hc rfl (a := c) (b := 0) (by omega) (by omega) (by omega))) (fun c4 => ?_)
  refine r_aload_n (pc := 7) dX3_insert_7 rfl rfl ?_
  refine cs_get (i := 8) (pc := 8) dX3_insert_8 rfl f_RX3_9 (by decide) rfl rfl ?_
  refine r_bipush (v := 15) (pc := 11) dX3_insert_11 (by decide) ?_
  refine r_icmp_lt 17 (pc := 13) dX3_insert_13 (by decide) (fun c13 => ?_) (fun c13 => absurd (c_ltt hc rfl (a := c) (b := 15) (by omega) (by omega) (by omega)) c13)
  refine r_aload_n (pc := 17) dX3_insert_17 rfl rfl ?_
  refine cs_get (i := 8) (pc := 18) dX3_insert_18 rfl f_RX3_9 (by decide) rfl rfl ?_
  refine q_istore [_, _, _, _, _] (pc := 21) dX3_insert_21 (by decide) rfl ?_
  rw [hc]
  refine lp_X3_insert (C := C) hl _ _ _ c _ none hc15 (fun q9 => ?_)
  refine r_aload_n (pc := 90) dX3_insert_90 rfl rfl ?_
  refine r_dup (pc := 91) dX3_insert_91 rfl ?_
  refine cs_get (i := 8) (pc := 92) dX3_insert_92 rfl f_RX3_9 (by decide) rfl rfl ?_
  refine r_iconst (v := 1) (pc := 95) dX3_insert_95 (by decide) ?_
  refine r_iadd (pc := 96) dX3_insert_96 ?_
  refine cs_put (i := 8) 41 (pc := 97) dX3_insert_97 rfl f_RX3_9 (by decide) rfl (Nat.le_of_ble_eq_true rfl) rfl rfl ?_
  exact r_return (S := []) (pc := 100) dX3_insert_100 rfl ⟨rfl, rfl⟩
