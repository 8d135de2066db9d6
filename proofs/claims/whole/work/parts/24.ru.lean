
/-! the reference's methods that ask -/
def R_eo (A : Nat → Int32) (e w : Nat) : Int32 := if w < 3 then A (42 + 4 * e + w) else (A (42 + 4 * e + 3) >>> ((if w = 3 then 0 else if w = 4 then 1 else 2) &&& 31)) &&& 1
def R_sft (x : Int32) : Int32 := if x = 3 then 0 else if x = 4 then 1 else 2
def R_echoOf (A : Nat → Int32) (e w : Nat) (x : Int32) : Int32 := if 3 ≤ x then (A (42 + 4 * e + 3) >>> (R_sft x &&& 31)) &&& 1 else A (42 + 4 * e + w)
def R_cEcho (e w : Int32) : Int32 := if e < 0 then 0 else if R_in w 0 5 = 0 then 0 else 1
def R_echo (A : Nat → Int32) (e w : Int32) : Int32 := if A 41 ≤ e then -1 else R_echoOf A (cl e) (cl w) w
def R_pick (A : Nat → Int32) (b : Int32) : Int32 := if A 31 ≤ b then -1 else A (32 + cl b)
def R_isM (A : Nat → Int32) (k : Nat) : Int32 := if A (146 + k / 20) = 1 then 1 else 0
def R_gl (A : Nat → Int32) : Int32 := if A 26 = -1 then -1 else A 0 - A 26
def R_gauge (A : Nat → Int32) (k : Nat) : Int32 := if k = 0 then A 24 else if k = 1 then A 25 else if k = 2 then A 26 else if k = 3 then R_gl A else if k = 4 then A 27 else if k = 5 then A 28 else if k = 6 then R_mkd A 501 else if k = 7 then A 41 else if k = 8 then A 31 else if k = 9 then R_kp A (cl (A 31)) else if k = 10 then R_median A else if k = 11 then A 29 else A 30
theorem s_X11_echoOf {om : OM} {l : Launch} {B : Nat × Nat} {h0 : Hp} {I : Nat → Int32} {J : Nat → Int64} {A a v t n : Nat → Int32} (e k : Nat) (x y : Int32) (hx : x = nI e) (he : e < 15) (hy : y = nI k) (hk : k ≤ 5) : Runs om l M_X11_echoOf B 0 (entL 4 [.ref 119, .int x, .int y]) [] (rH h0 I J A a v t n) (Det (some (.int (R_echoOf A e k y))) (rH h0 I J A a v t n)) := by
  show Runs om l M_X11_echoOf B 0 [some (.ref 119), some (.int x), some (.int y), none] [] _ _
  refine r_bipush (v := 42) (pc := 0) dX11_echoOf_0 (by decide) ?_
  refine r_iconst (v := 4) (pc := 2) dX11_echoOf_2 (by decide) ?_
  refine r_iload_n (pc := 3) dX11_echoOf_3 rfl rfl ?_
  refine r_imul (pc := 4) dX11_echoOf_4 ?_
  refine r_iadd (pc := 5) dX11_echoOf_5 ?_
  refine q_istore_n [_, _, _, _] (pc := 6) dX11_echoOf_6 rfl (by decide) rfl ?_
  refine r_iload_n (pc := 7) dX11_echoOf_7 rfl rfl ?_
  refine r_iconst (v := 3) (pc := 8) dX11_echoOf_8 (by decide) ?_
  refine r_icmp_ge 21 (pc := 9) dX11_echoOf_9 (by decide) (fun c9 => ?_) (fun c9 => ?_)
  · refine r_aload_n (pc := 21) dX11_echoOf_21 rfl rfl ?_
    refine rs_get (pc := 22) dX11_echoOf_22 rfl f_RX11_7 rfl ?_
    refine r_iload_n (pc := 25) dX11_echoOf_25 rfl rfl ?_
    refine r_iconst (v := 3) (pc := 26) dX11_echoOf_26 (by decide) ?_
    refine r_iadd (pc := 27) dX11_echoOf_27 ?_
    refine rs_ld ((42 + (4 * e)) + 3) (pc := 28) dX11_echoOf_28 (nadd (nadd rfl (nmul rfl hx)) rfl) (by omega) ?_
    refine r_join 48 (R_sft y) ?_ (fun J29 => ?_)
    · refine r_ishr (pc := 48) dX11_echoOf_48 ?_
      refine r_iconst (v := 1) (pc := 49) dX11_echoOf_49 (by decide) ?_
      refine r_iand (pc := 50) dX11_echoOf_50 ?_
      exact r_ireturn (S := []) (pc := 51) dX11_echoOf_51 rfl rfl ⟨by rw [R_echoOf]; (repeat (first | rw [if_pos (by assumption)] | rw [if_neg (by assumption)])), rfl⟩
    · refine r_iload_n (pc := 29) dX11_echoOf_29 rfl rfl ?_
      refine r_iconst (v := 3) (pc := 30) dX11_echoOf_30 (by decide) ?_
      refine r_icmp_ne 38 (pc := 31) dX11_echoOf_31 (by decide) (fun c31 => ?_) (fun c31 => ?_)
      · refine r_iload_n (pc := 38) dX11_echoOf_38 rfl rfl ?_
        refine r_iconst (v := 4) (pc := 39) dX11_echoOf_39 (by decide) ?_
        refine r_icmp_ne 47 (pc := 40) dX11_echoOf_40 (by decide) (fun c40 => ?_) (fun c40 => ?_)
        · refine r_iconst (v := 2) (pc := 47) dX11_echoOf_47 (by decide) ?_
          exact J29 _ (by rw [R_sft]; (repeat (first | rw [if_pos (by assumption)] | rw [if_neg (by assumption)])))
        · refine r_iconst (v := 1) (pc := 43) dX11_echoOf_43 (by decide) ?_
          refine r_goto 48 (pc := 44) dX11_echoOf_44 (by decide) ?_
          exact J29 _ (by rw [R_sft]; (repeat (first | rw [if_pos (by assumption)] | rw [if_neg (by assumption)])))
      · refine r_iconst (v := 0) (pc := 34) dX11_echoOf_34 (by decide) ?_
        refine r_goto 48 (pc := 35) dX11_echoOf_35 (by decide) ?_
        exact J29 _ (by rw [R_sft]; (repeat (first | rw [if_pos (by assumption)] | rw [if_neg (by assumption)])))
  · have hk3 : k < 3 := (nI_ltI (by omega) (by omega)).mp (by rw [← hy]; exact Int32.not_le.mp c9)
    refine r_aload_n (pc := 12) dX11_echoOf_12 rfl rfl ?_
    refine rs_get (pc := 13) dX11_echoOf_13 rfl f_RX11_7 rfl ?_
    refine r_iload_n (pc := 16) dX11_echoOf_16 rfl rfl ?_
    refine r_iload_n (pc := 17) dX11_echoOf_17 rfl rfl ?_
    refine r_iadd (pc := 18) dX11_echoOf_18 ?_
    refine rs_ld ((42 + (4 * e)) + k) (pc := 19) dX11_echoOf_19 (nadd (nadd rfl (nmul rfl hx)) hy) (by omega) ?_
    exact r_ireturn (S := []) (pc := 20) dX11_echoOf_20 rfl rfl ⟨by rw [R_echoOf]; (repeat (first | rw [if_pos (by assumption)] | rw [if_neg (by assumption)])), rfl⟩
theorem s_X11_echo_no {om : OM} {l : Launch} {B : Nat × Nat} {h0 : Hp} {I : Nat → Int32} {J : Nat → Int64} {A a v t n : Nat → Int32} (hl : l.stackTraces = false) (x y : Int32) (h : R_cEcho x y = 0) : Runs om l M_X11_echo B 0 (entL 3 [.ref 119, .int x, .int y]) [] (rH h0 I J A a v t n) (Det (some (.int 0)) (rH h0 (upd I 0 1) J A a v t n)) := by
  show Runs om l M_X11_echo B 0 [some (.ref 119), some (.int x), some (.int y)] [] _ _
  refine r_aload_n (pc := 0) dX11_echo_0 rfl rfl ?_
  refine r_join 19 (R_cEcho x y) ?_ (fun J1 => ?_)
  · refine r_iconst (v := 1) (pc := 19) dX11_echo_19 (by decide) ?_
    refine rs_call (vs := [.int _, .int _]) (pc := 20) dX11_echo_20 rfl l_RX11_37 rfl rfl ⟨by decide, by decide⟩ rfl (Nat.le_of_ble_eq_true rfl) hl (Nat.le_of_ble_eq_true rfl) (s_X11_holds0 h) rfl ?_
    refine r_if_ne 28 (pc := 23) dX11_echo_23 (by decide) (fun c23 => absurd (c_eqt rfl rfl (a := 0) (b := 0) (by omega) (by omega) (by omega)) c23) (fun c23 => ?_)
    refine r_iconst (v := 0) (pc := 26) dX11_echo_26 (by decide) ?_
    exact r_ireturn (S := []) (pc := 27) dX11_echo_27 rfl rfl ⟨rfl, rfl⟩
  · refine r_iload_n (pc := 1) dX11_echo_1 rfl rfl ?_
    refine r_if_lt 18 (pc := 2) dX11_echo_2 (by decide) (fun c2 => ?_) (fun c2 => ?_)
    · refine r_iconst (v := 0) (pc := 18) dX11_echo_18 (by decide) ?_
      exact J1 _ (by rw [R_cEcho]; (repeat (first | rw [if_pos (by assumption)] | rw [if_neg (by assumption)])))
    · refine r_iload_n (pc := 5) dX11_echo_5 rfl rfl ?_
      refine r_iconst (v := 0) (pc := 6) dX11_echo_6 (by decide) ?_
      refine r_iconst (v := 5) (pc := 7) dX11_echo_7 (by decide) ?_
      refine q_callS (vs := [.int _, .int _, .int _]) (pc := 8) dX11_echo_8 rfl l_RX11_89 rfl ⟨by decide, by decide⟩ rfl (Nat.le_of_ble_eq_true rfl) hl (Nat.le_of_ble_eq_true rfl) (s_X11_in _ _ _) rfl ?_
      refine r_if_eq 18 (pc := 11) dX11_echo_11 (by decide) (fun c11 => ?_) (fun c11 => ?_)
      · refine r_iconst (v := 0) (pc := 18) dX11_echo_18 (by decide) ?_
        exact J1 _ (by rw [R_cEcho]; (repeat (first | rw [if_pos (by assumption)] | rw [if_neg (by assumption)])))
      · refine r_iconst (v := 1) (pc := 14) dX11_echo_14 (by decide) ?_
        refine r_goto 19 (pc := 15) dX11_echo_15 (by decide) ?_
        exact J1 _ (by rw [R_cEcho]; (repeat (first | rw [if_pos (by assumption)] | rw [if_neg (by assumption)])))
theorem s_X11_echo_yes {om : OM} {l : Launch} {B : Nat × Nat} {h0 : Hp} {I : Nat → Int32} {J : Nat → Int64} {A a v t n : Nat → Int32} (hl : l.stackTraces = false) (x y : Int32) (h : R_cEcho x y = 1)  (e k K : Nat) (hx : x = nI e) (he31 : e < 2 ^ 31) (hy : y = nI k) (hk : k ≤ 5) (hK : A 41 = nI K) (hK15 : K ≤ 15) : Runs om l M_X11_echo B 0 (entL 3 [.ref 119, .int x, .int y]) [] (rH h0 I J A a v t n) (Det (some (.int (R_echo A x y))) (rH h0 (upd I 0 0) J A a v t n)) := by
  show Runs om l M_X11_echo B 0 [some (.ref 119), some (.int x), some (.int y)] [] _ _
  refine r_aload_n (pc := 0) dX11_echo_0 rfl rfl ?_
  refine r_join 19 (R_cEcho x y) ?_ (fun J1 => ?_)
  · refine r_iconst (v := 1) (pc := 19) dX11_echo_19 (by decide) ?_
    refine rs_call (vs := [.int _, .int _]) (pc := 20) dX11_echo_20 rfl l_RX11_37 rfl rfl ⟨by decide, by decide⟩ rfl (Nat.le_of_ble_eq_true rfl) hl (Nat.le_of_ble_eq_true rfl) (s_X11_holds1 h) rfl ?_
    refine r_if_ne 28 (pc := 23) dX11_echo_23 (by decide) (fun c23 => ?_) (fun c23 => absurd c23 (c_eqf rfl rfl (a := 1) (b := 0) (by omega) (by omega) (by omega)))
    refine r_iload_n (pc := 28) dX11_echo_28 rfl rfl ?_
    refine r_aload_n (pc := 29) dX11_echo_29 rfl rfl ?_
    refine rs_get (pc := 30) dX11_echo_30 rfl f_RX11_7 rfl ?_
    refine r_bipush (v := 41) (pc := 33) dX11_echo_33 (by decide) ?_
    refine rs_ld (41) (pc := 35) dX11_echo_35 rfl (by omega) ?_
    refine r_icmp_ge 48 (pc := 36) dX11_echo_36 (by decide) (fun c36 => ?_) (fun c36 => ?_)
    · refine r_iconst (v := (-1)) (pc := 48) dX11_echo_48 (by decide) ?_
      exact r_ireturn (S := []) (pc := 49) dX11_echo_49 rfl rfl ⟨by rw [R_echo, cl_nI hx he31, cl_nI hy (by omega)]; (repeat (first | rw [if_pos (by assumption)] | rw [if_neg (by assumption)])), rfl⟩
    · have he : e < 15 := by have h9 := Int32.not_le.mp c36; rw [hx, hK] at h9; have := (nI_ltI (by omega) (by omega)).mp h9; omega
      refine r_aload_n (pc := 39) dX11_echo_39 rfl rfl ?_
      refine r_iload_n (pc := 40) dX11_echo_40 rfl rfl ?_
      refine r_iload_n (pc := 41) dX11_echo_41 rfl rfl ?_
      refine rs_call (vs := [.int _, .int _]) (pc := 42) dX11_echo_42 rfl l_RX11_194 rfl rfl ⟨by decide, by decide⟩ rfl (Nat.le_of_ble_eq_true rfl) hl (Nat.le_of_ble_eq_true rfl) (s_X11_echoOf e k _ _ hx he hy hk) rfl ?_
      refine r_goto 49 (pc := 45) dX11_echo_45 (by decide) ?_
      exact r_ireturn (S := []) (pc := 49) dX11_echo_49 rfl rfl ⟨by rw [R_echo, cl_nI hx he31, cl_nI hy (by omega)]; (repeat (first | rw [if_pos (by assumption)] | rw [if_neg (by assumption)])), rfl⟩
  · refine r_iload_n (pc := 1) dX11_echo_1 rfl rfl ?_
    refine r_if_lt 18 (pc := 2) dX11_echo_2 (by decide) (fun c2 => ?_) (fun c2 => ?_)
    · refine r_iconst (v := 0) (pc := 18) dX11_echo_18 (by decide) ?_
      exact J1 _ (by rw [R_cEcho]; (repeat (first | rw [if_pos (by assumption)] | rw [if_neg (by assumption)])))
    · refine r_iload_n (pc := 5) dX11_echo_5 rfl rfl ?_
      refine r_iconst (v := 0) (pc := 6) dX11_echo_6 (by decide) ?_
      refine r_iconst (v := 5) (pc := 7) dX11_echo_7 (by decide) ?_
      refine q_callS (vs := [.int _, .int _, .int _]) (pc := 8) dX11_echo_8 rfl l_RX11_89 rfl ⟨by decide, by decide⟩ rfl (Nat.le_of_ble_eq_true rfl) hl (Nat.le_of_ble_eq_true rfl) (s_X11_in _ _ _) rfl ?_
      refine r_if_eq 18 (pc := 11) dX11_echo_11 (by decide) (fun c11 => ?_) (fun c11 => ?_)
      · refine r_iconst (v := 0) (pc := 18) dX11_echo_18 (by decide) ?_
        exact J1 _ (by rw [R_cEcho]; (repeat (first | rw [if_pos (by assumption)] | rw [if_neg (by assumption)])))
      · refine r_iconst (v := 1) (pc := 14) dX11_echo_14 (by decide) ?_
        refine r_goto 19 (pc := 15) dX11_echo_15 (by decide) ?_
        exact J1 _ (by rw [R_cEcho]; (repeat (first | rw [if_pos (by assumption)] | rw [if_neg (by assumption)])))
theorem s_X11_pick_no {om : OM} {l : Launch} {B : Nat × Nat} {h0 : Hp} {I : Nat → Int32} {J : Nat → Int64} {A a v t n : Nat → Int32} (hl : l.stackTraces = false) (x : Int32) (h : R_nn x = 0) : Runs om l M_X11_pick B 0 (entL 2 [.ref 119, .int x]) [] (rH h0 I J A a v t n) (Det (some (.int 0)) (rH h0 (upd I 0 1) J A a v t n)) := by
  show Runs om l M_X11_pick B 0 [some (.ref 119), some (.int x)] [] _ _
  refine r_aload_n (pc := 0) dX11_pick_0 rfl rfl ?_
  refine r_join 10 (R_nn x) ?_ (fun J1 => ?_)
  · refine r_iconst (v := 1) (pc := 10) dX11_pick_10 (by decide) ?_
    refine rs_call (vs := [.int _, .int _]) (pc := 11) dX11_pick_11 rfl l_RX11_37 rfl rfl ⟨by decide, by decide⟩ rfl (Nat.le_of_ble_eq_true rfl) hl (Nat.le_of_ble_eq_true rfl) (s_X11_holds0 h) rfl ?_
    refine r_if_ne 19 (pc := 14) dX11_pick_14 (by decide) (fun c14 => absurd (c_eqt rfl rfl (a := 0) (b := 0) (by omega) (by omega) (by omega)) c14) (fun c14 => ?_)
    refine r_iconst (v := 0) (pc := 17) dX11_pick_17 (by decide) ?_
    exact r_ireturn (S := []) (pc := 18) dX11_pick_18 rfl rfl ⟨rfl, rfl⟩
  · refine r_iload_n (pc := 1) dX11_pick_1 rfl rfl ?_
    refine r_if_lt 9 (pc := 2) dX11_pick_2 (by decide) (fun c2 => ?_) (fun c2 => ?_)
    · refine r_iconst (v := 0) (pc := 9) dX11_pick_9 (by decide) ?_
      exact J1 _ (by rw [R_nn]; (repeat (first | rw [if_pos (by assumption)] | rw [if_neg (by assumption)])))
    · refine r_iconst (v := 1) (pc := 5) dX11_pick_5 (by decide) ?_
      refine r_goto 10 (pc := 6) dX11_pick_6 (by decide) ?_
      exact J1 _ (by rw [R_nn]; (repeat (first | rw [if_pos (by assumption)] | rw [if_neg (by assumption)])))
theorem s_X11_pick_yes {om : OM} {l : Launch} {B : Nat × Nat} {h0 : Hp} {I : Nat → Int32} {J : Nat → Int64} {A a v t n : Nat → Int32} (hl : l.stackTraces = false) (x : Int32) (h : R_nn x = 1)  (e K : Nat) (hx : x = nI e) (he31 : e < 2 ^ 31) (hK : A 31 = nI K) (hK9 : K ≤ 9) : Runs om l M_X11_pick B 0 (entL 2 [.ref 119, .int x]) [] (rH h0 I J A a v t n) (Det (some (.int (R_pick A x))) (rH h0 (upd I 0 0) J A a v t n)) := by
  show Runs om l M_X11_pick B 0 [some (.ref 119), some (.int x)] [] _ _
  refine r_aload_n (pc := 0) dX11_pick_0 rfl rfl ?_
  refine r_join 10 (R_nn x) ?_ (fun J1 => ?_)
  · refine r_iconst (v := 1) (pc := 10) dX11_pick_10 (by decide) ?_
    refine rs_call (vs := [.int _, .int _]) (pc := 11) dX11_pick_11 rfl l_RX11_37 rfl rfl ⟨by decide, by decide⟩ rfl (Nat.le_of_ble_eq_true rfl) hl (Nat.le_of_ble_eq_true rfl) (s_X11_holds1 h) rfl ?_
    refine r_if_ne 19 (pc := 14) dX11_pick_14 (by decide) (fun c14 => ?_) (fun c14 => absurd c14 (c_eqf rfl rfl (a := 1) (b := 0) (by omega) (by omega) (by omega)))
    refine r_iload_n (pc := 19) dX11_pick_19 rfl rfl ?_
    refine r_aload_n (pc := 20) dX11_pick_20 rfl rfl ?_
    refine rs_get (pc := 21) dX11_pick_21 rfl f_RX11_7 rfl ?_
    refine r_bipush (v := 31) (pc := 24) dX11_pick_24 (by decide) ?_
    refine rs_ld (31) (pc := 26) dX11_pick_26 rfl (by omega) ?_
    refine r_icmp_ge 42 (pc := 27) dX11_pick_27 (by decide) (fun c27 => ?_) (fun c27 => ?_)
    · refine r_iconst (v := (-1)) (pc := 42) dX11_pick_42 (by decide) ?_
      exact r_ireturn (S := []) (pc := 43) dX11_pick_43 rfl rfl ⟨by rw [R_pick, cl_nI hx he31]; (repeat (first | rw [if_pos (by assumption)] | rw [if_neg (by assumption)])), rfl⟩
    · have he : e < 9 := by have h9 := Int32.not_le.mp c27; rw [hx, hK] at h9; have := (nI_ltI (by omega) (by omega)).mp h9; omega
      refine r_aload_n (pc := 30) dX11_pick_30 rfl rfl ?_
      refine rs_get (pc := 31) dX11_pick_31 rfl f_RX11_7 rfl ?_
      refine r_bipush (v := 32) (pc := 34) dX11_pick_34 (by decide) ?_
      refine r_iload_n (pc := 36) dX11_pick_36 rfl rfl ?_
      refine r_iadd (pc := 37) dX11_pick_37 ?_
      refine rs_ld (32 + e) (pc := 38) dX11_pick_38 (nadd rfl hx) (by omega) ?_
      refine r_goto 43 (pc := 39) dX11_pick_39 (by decide) ?_
      exact r_ireturn (S := []) (pc := 43) dX11_pick_43 rfl rfl ⟨by rw [R_pick, cl_nI hx he31]; (repeat (first | rw [if_pos (by assumption)] | rw [if_neg (by assumption)])), rfl⟩
  · refine r_iload_n (pc := 1) dX11_pick_1 rfl rfl ?_
    refine r_if_lt 9 (pc := 2) dX11_pick_2 (by decide) (fun c2 => ?_) (fun c2 => ?_)
    · refine r_iconst (v := 0) (pc := 9) dX11_pick_9 (by decide) ?_
      exact J1 _ (by rw [R_nn]; (repeat (first | rw [if_pos (by assumption)] | rw [if_neg (by assumption)])))
    · refine r_iconst (v := 1) (pc := 5) dX11_pick_5 (by decide) ?_
      refine r_goto 10 (pc := 6) dX11_pick_6 (by decide) ?_
      exact J1 _ (by rw [R_nn]; (repeat (first | rw [if_pos (by assumption)] | rw [if_neg (by assumption)])))
theorem isM01 (A : Nat → Int32) (k : Nat) : R_isM A k = 0 ∨ R_isM A k = 1 := by
  unfold R_isM
  split
  · exact Or.inr rfl
  · exact Or.inl rfl
theorem s_X11_isMasked_no {om : OM} {l : Launch} {B : Nat × Nat} {h0 : Hp} {I : Nat → Int32} {J : Nat → Int64} {A a v t n : Nat → Int32} (hl : l.stackTraces = false) (x : Int32) (h : R_in x 0 10000 = 0) : Runs om l M_X11_isMasked B 0 (entL 2 [.ref 119, .int x]) [] (rH h0 I J A a v t n) (Det (some (.int 0)) (rH h0 (upd I 0 1) J A a v t n)) := by
  show Runs om l M_X11_isMasked B 0 [some (.ref 119), some (.int x)] [] _ _
  refine r_aload_n (pc := 0) dX11_isMasked_0 rfl rfl ?_
  refine r_iload_n (pc := 1) dX11_isMasked_1 rfl rfl ?_
  refine r_iconst (v := 0) (pc := 2) dX11_isMasked_2 (by decide) ?_
  refine r_sipush (v := 10000) (pc := 3) dX11_isMasked_3 (by decide) ?_
  refine q_callS (vs := [.int _, .int _, .int _]) (pc := 6) dX11_isMasked_6 rfl l_RX11_89 rfl ⟨by decide, by decide⟩ rfl (Nat.le_of_ble_eq_true rfl) hl (Nat.le_of_ble_eq_true rfl) (s_X11_in _ _ _) rfl ?_
  refine r_iconst (v := 1) (pc := 9) dX11_isMasked_9 (by decide) ?_
  refine rs_call (vs := [.int _, .int _]) (pc := 10) dX11_isMasked_10 rfl l_RX11_37 rfl rfl ⟨by decide, by decide⟩ rfl (Nat.le_of_ble_eq_true rfl) hl (Nat.le_of_ble_eq_true rfl) (s_X11_holds0 h) rfl ?_
  refine r_if_eq 37 (pc := 13) dX11_isMasked_13 (by decide) (fun c13 => ?_) (fun c13 => absurd (c_eqt rfl rfl (a := 0) (b := 0) (by omega) (by omega) (by omega)) c13)
  refine r_iconst (v := 0) (pc := 37) dX11_isMasked_37 (by decide) ?_
  exact r_ireturn (S := []) (pc := 38) dX11_isMasked_38 rfl rfl ⟨rfl, rfl⟩
theorem s_X11_isMasked_yes {om : OM} {l : Launch} {B : Nat × Nat} {h0 : Hp} {I : Nat → Int32} {J : Nat → Int64} {A a v t n : Nat → Int32} (hl : l.stackTraces = false) (x : Int32) (h : R_in x 0 10000 = 1)  (k : Nat) (hx : x = nI k) (hk : k ≤ 10000) : Runs om l M_X11_isMasked B 0 (entL 2 [.ref 119, .int x]) [] (rH h0 I J A a v t n) (Det (some (.int (R_isM A k))) (rH h0 (upd I 0 0) J A a v t n)) := by
  show Runs om l M_X11_isMasked B 0 [some (.ref 119), some (.int x)] [] _ _
  refine r_aload_n (pc := 0) dX11_isMasked_0 rfl rfl ?_
  refine r_iload_n (pc := 1) dX11_isMasked_1 rfl rfl ?_
  refine r_iconst (v := 0) (pc := 2) dX11_isMasked_2 (by decide) ?_
  refine r_sipush (v := 10000) (pc := 3) dX11_isMasked_3 (by decide) ?_
  refine q_callS (vs := [.int _, .int _, .int _]) (pc := 6) dX11_isMasked_6 rfl l_RX11_89 rfl ⟨by decide, by decide⟩ rfl (Nat.le_of_ble_eq_true rfl) hl (Nat.le_of_ble_eq_true rfl) (s_X11_in _ _ _) rfl ?_
  refine r_iconst (v := 1) (pc := 9) dX11_isMasked_9 (by decide) ?_
  refine rs_call (vs := [.int _, .int _]) (pc := 10) dX11_isMasked_10 rfl l_RX11_37 rfl rfl ⟨by decide, by decide⟩ rfl (Nat.le_of_ble_eq_true rfl) hl (Nat.le_of_ble_eq_true rfl) (s_X11_holds1 h) rfl ?_
  refine r_if_eq 37 (pc := 13) dX11_isMasked_13 (by decide) (fun c13 => absurd c13 (c_eqf rfl rfl (a := 1) (b := 0) (by omega) (by omega) (by omega))) (fun c13 => ?_)
  refine r_join 38 (R_isM A k) ?_ (fun J16 => ?_)
  · exact r_ireturn (S := []) (pc := 38) dX11_isMasked_38 rfl (nar_b (isM01 _ _)) ⟨rfl, rfl⟩
  · refine r_aload_n (pc := 16) dX11_isMasked_16 rfl rfl ?_
    refine rs_get (pc := 17) dX11_isMasked_17 rfl f_RX11_7 rfl ?_
    refine r_sipush (v := 146) (pc := 20) dX11_isMasked_20 (by decide) ?_
    refine r_iload_n (pc := 23) dX11_isMasked_23 rfl rfl ?_
    refine r_bipush (v := 20) (pc := 24) dX11_isMasked_24 (by decide) ?_
    refine r_idiv (pc := 26) dX11_isMasked_26 (by decide) ?_
    refine r_iadd (pc := 27) dX11_isMasked_27 ?_
    refine rs_ld (146 + (k / 20)) (pc := 28) dX11_isMasked_28 (nadd rfl (ndiv hx rfl (by omega) (by omega) (by omega))) (by omega) ?_
    refine r_iconst (v := 1) (pc := 29) dX11_isMasked_29 (by decide) ?_
    refine r_icmp_ne 37 (pc := 30) dX11_isMasked_30 (by decide) (fun c30 => ?_) (fun c30 => ?_)
    · refine r_iconst (v := 0) (pc := 37) dX11_isMasked_37 (by decide) ?_
      exact J16 _ (by rw [R_isM]; (repeat (first | rw [if_pos (by assumption)] | rw [if_neg (by assumption)])))
    · refine r_iconst (v := 1) (pc := 33) dX11_isMasked_33 (by decide) ?_
      refine r_goto 38 (pc := 34) dX11_isMasked_34 (by decide) ?_
      exact J16 _ (by rw [R_isM]; (repeat (first | rw [if_pos (by assumption)] | rw [if_neg (by assumption)])))
theorem s_X11_need_no {om : OM} {l : Launch} {B : Nat × Nat} {h0 : Hp} {I : Nat → Int32} {J : Nat → Int64} {A a v t n : Nat → Int32} (hl : l.stackTraces = false) (x : Int32) (h : R_in x 0 10000 = 0) : Runs om l M_X11_need B 0 (entL 2 [.ref 119, .int x]) [] (rH h0 I J A a v t n) (Det (some (.int 0)) (rH h0 (upd I 0 1) J A a v t n)) := by
  show Runs om l M_X11_need B 0 [some (.ref 119), some (.int x)] [] _ _
  refine r_aload_n (pc := 0) dX11_need_0 rfl rfl ?_
  refine r_iload_n (pc := 1) dX11_need_1 rfl rfl ?_
  refine r_iconst (v := 0) (pc := 2) dX11_need_2 (by decide) ?_
  refine r_sipush (v := 10000) (pc := 3) dX11_need_3 (by decide) ?_
  refine q_callS (vs := [.int _, .int _, .int _]) (pc := 6) dX11_need_6 rfl l_RX11_89 rfl ⟨by decide, by decide⟩ rfl (Nat.le_of_ble_eq_true rfl) hl (Nat.le_of_ble_eq_true rfl) (s_X11_in _ _ _) rfl ?_
  refine r_iconst (v := 1) (pc := 9) dX11_need_9 (by decide) ?_
  refine rs_call (vs := [.int _, .int _]) (pc := 10) dX11_need_10 rfl l_RX11_37 rfl rfl ⟨by decide, by decide⟩ rfl (Nat.le_of_ble_eq_true rfl) hl (Nat.le_of_ble_eq_true rfl) (s_X11_holds0 h) rfl ?_
  refine r_if_eq 24 (pc := 13) dX11_need_13 (by decide) (fun c13 => ?_) (fun c13 => absurd (c_eqt rfl rfl (a := 0) (b := 0) (by omega) (by omega) (by omega)) c13)
  refine r_iconst (v := 0) (pc := 24) dX11_need_24 (by decide) ?_
  exact r_ireturn (S := []) (pc := 25) dX11_need_25 rfl rfl ⟨rfl, rfl⟩
theorem s_X11_need_yes {om : OM} {l : Launch} {B : Nat × Nat} {h0 : Hp} {I : Nat → Int32} {J : Nat → Int64} {A a v t n : Nat → Int32} (hl : l.stackTraces = false) (x : Int32) (h : R_in x 0 10000 = 1)   : Runs om l M_X11_need B 0 (entL 2 [.ref 119, .int x]) [] (rH h0 I J A a v t n) (Det (some (.int (R_need A x))) (rH h0 (upd I 0 0) J A a v t n)) := by
  show Runs om l M_X11_need B 0 [some (.ref 119), some (.int x)] [] _ _
  refine r_aload_n (pc := 0) dX11_need_0 rfl rfl ?_
  refine r_iload_n (pc := 1) dX11_need_1 rfl rfl ?_
  refine r_iconst (v := 0) (pc := 2) dX11_need_2 (by decide) ?_
  refine r_sipush (v := 10000) (pc := 3) dX11_need_3 (by decide) ?_
  refine q_callS (vs := [.int _, .int _, .int _]) (pc := 6) dX11_need_6 rfl l_RX11_89 rfl ⟨by decide, by decide⟩ rfl (Nat.le_of_ble_eq_true rfl) hl (Nat.le_of_ble_eq_true rfl) (s_X11_in _ _ _) rfl ?_
  refine r_iconst (v := 1) (pc := 9) dX11_need_9 (by decide) ?_
  refine rs_call (vs := [.int _, .int _]) (pc := 10) dX11_need_10 rfl l_RX11_37 rfl rfl ⟨by decide, by decide⟩ rfl (Nat.le_of_ble_eq_true rfl) hl (Nat.le_of_ble_eq_true rfl) (s_X11_holds1 h) rfl ?_
  refine r_if_eq 24 (pc := 13) dX11_need_13 (by decide) (fun c13 => absurd c13 (c_eqf rfl rfl (a := 1) (b := 0) (by omega) (by omega) (by omega))) (fun c13 => ?_)
  refine r_aload_n (pc := 16) dX11_need_16 rfl rfl ?_
  refine r_iload_n (pc := 17) dX11_need_17 rfl rfl ?_
  refine rs_call (vs := [.int _]) (pc := 18) dX11_need_18 rfl l_RX11_80 rfl rfl ⟨by decide, by decide⟩ rfl (Nat.le_of_ble_eq_true rfl) hl (Nat.le_of_ble_eq_true rfl) (s_X11_needOf hl _) rfl ?_
  refine r_goto 25 (pc := 21) dX11_need_21 (by decide) ?_
  exact r_ireturn (S := []) (pc := 25) dX11_need_25 rfl rfl ⟨rfl, rfl⟩
theorem s_X11_thing_no {om : OM} {l : Launch} {B : Nat × Nat} {h0 : Hp} {I : Nat → Int32} {J : Nat → Int64} {A a v t n : Nat → Int32} (hl : l.stackTraces = false) (x y : Int32) (h : R_in x 0 (A 4 - 1) = 0) : Runs om l M_X11_thing B 0 (entL 3 [.ref 119, .int x, .int y]) [] (rH h0 I J A a v t n) (Det (some (.int 0)) (rH h0 (upd I 0 1) J A a v t n)) := by
  show Runs om l M_X11_thing B 0 [some (.ref 119), some (.int x), some (.int y)] [] _ _
  refine r_aload_n (pc := 0) dX11_thing_0 rfl rfl ?_
  refine r_aload_n (pc := 1) dX11_thing_1 rfl rfl ?_
  refine r_iload_n (pc := 2) dX11_thing_2 rfl rfl ?_
  refine rs_call (vs := [.int _]) (pc := 3) dX11_thing_3 rfl l_RX11_152 rfl rfl ⟨by decide, by decide⟩ rfl (Nat.le_of_ble_eq_true rfl) hl (Nat.le_of_ble_eq_true rfl) (s_X11_isThing hl _) rfl ?_
  refine r_iconst (v := 1) (pc := 6) dX11_thing_6 (by decide) ?_
  refine rs_call (vs := [.int _, .int _]) (pc := 7) dX11_thing_7 rfl l_RX11_37 rfl rfl ⟨by decide, by decide⟩ rfl (Nat.le_of_ble_eq_true rfl) hl (Nat.le_of_ble_eq_true rfl) (s_X11_holds0 h) rfl ?_
  refine r_if_eq 44 (pc := 10) dX11_thing_10 (by decide) (fun c10 => ?_) (fun c10 => absurd (c_eqt rfl rfl (a := 0) (b := 0) (by omega) (by omega) (by omega)) c10)
  refine r_iconst (v := 0) (pc := 44) dX11_thing_44 (by decide) ?_
  exact r_ireturn (S := []) (pc := 45) dX11_thing_45 rfl rfl ⟨rfl, rfl⟩
theorem s_X11_thing_no2 {om : OM} {l : Launch} {B : Nat × Nat} {h0 : Hp} {I : Nat → Int32} {J : Nat → Int64} {A a v t n : Nat → Int32} (hl : l.stackTraces = false) (x y : Int32) (h : R_in x 0 (A 4 - 1) = 1) (h2 : R_in y 0 1 = 0) : Runs om l M_X11_thing B 0 (entL 3 [.ref 119, .int x, .int y]) [] (rH h0 I J A a v t n) (Det (some (.int 0)) (rH h0 (upd (upd I 0 0) 0 2) J A a v t n)) := by
  show Runs om l M_X11_thing B 0 [some (.ref 119), some (.int x), some (.int y)] [] _ _
  refine r_aload_n (pc := 0) dX11_thing_0 rfl rfl ?_
  refine r_aload_n (pc := 1) dX11_thing_1 rfl rfl ?_
  refine r_iload_n (pc := 2) dX11_thing_2 rfl rfl ?_
  refine rs_call (vs := [.int _]) (pc := 3) dX11_thing_3 rfl l_RX11_152 rfl rfl ⟨by decide, by decide⟩ rfl (Nat.le_of_ble_eq_true rfl) hl (Nat.le_of_ble_eq_true rfl) (s_X11_isThing hl _) rfl ?_
  refine r_iconst (v := 1) (pc := 6) dX11_thing_6 (by decide) ?_
  refine rs_call (vs := [.int _, .int _]) (pc := 7) dX11_thing_7 rfl l_RX11_37 rfl rfl ⟨by decide, by decide⟩ rfl (Nat.le_of_ble_eq_true rfl) hl (Nat.le_of_ble_eq_true rfl) (s_X11_holds1 h) rfl ?_
  refine r_if_eq 44 (pc := 10) dX11_thing_10 (by decide) (fun c10 => absurd c10 (c_eqf rfl rfl (a := 1) (b := 0) (by omega) (by omega) (by omega))) (fun c10 => ?_)
  refine r_aload_n (pc := 13) dX11_thing_13 rfl rfl ?_
  refine r_iload_n (pc := 14) dX11_thing_14 rfl rfl ?_
  refine r_iconst (v := 0) (pc := 15) dX11_thing_15 (by decide) ?_
  refine r_iconst (v := 1) (pc := 16) dX11_thing_16 (by decide) ?_
  refine q_callS (vs := [.int _, .int _, .int _]) (pc := 17) dX11_thing_17 rfl l_RX11_89 rfl ⟨by decide, by decide⟩ rfl (Nat.le_of_ble_eq_true rfl) hl (Nat.le_of_ble_eq_true rfl) (s_X11_in _ _ _) rfl ?_
  refine r_iconst (v := 2) (pc := 20) dX11_thing_20 (by decide) ?_
  refine rs_call (vs := [.int _, .int _]) (pc := 21) dX11_thing_21 rfl l_RX11_37 rfl rfl ⟨by decide, by decide⟩ rfl (Nat.le_of_ble_eq_true rfl) hl (Nat.le_of_ble_eq_true rfl) (s_X11_holds0 h2) rfl ?_
  refine r_if_eq 44 (pc := 24) dX11_thing_24 (by decide) (fun c24 => ?_) (fun c24 => absurd (c_eqt rfl rfl (a := 0) (b := 0) (by omega) (by omega) (by omega)) c24)
  refine r_iconst (v := 0) (pc := 44) dX11_thing_44 (by decide) ?_
  exact r_ireturn (S := []) (pc := 45) dX11_thing_45 rfl rfl ⟨rfl, rfl⟩
theorem s_X11_thing_yes {om : OM} {l : Launch} {B : Nat × Nat} {h0 : Hp} {I : Nat → Int32} {J : Nat → Int64} {A a v t n : Nat → Int32} (hl : l.stackTraces = false) (x y : Int32) (h : R_in x 0 (A 4 - 1) = 1) (h2 : R_in y 0 1 = 1) (p q : Nat) (hx : x = nI p) (hp : p < 6) (hy : y = nI q) (hq : q ≤ 1) : Runs om l M_X11_thing B 0 (entL 3 [.ref 119, .int x, .int y]) [] (rH h0 I J A a v t n) (Det (some (.int (A (134 + 2 * p + q)))) (rH h0 (upd (upd I 0 0) 0 0) J A a v t n)) := by
  show Runs om l M_X11_thing B 0 [some (.ref 119), some (.int x), some (.int y)] [] _ _
  refine r_aload_n (pc := 0) dX11_thing_0 rfl rfl ?_
  refine r_aload_n (pc := 1) dX11_thing_1 rfl rfl ?_
  refine r_iload_n (pc := 2) dX11_thing_2 rfl rfl ?_
  refine rs_call (vs := [.int _]) (pc := 3) dX11_thing_3 rfl l_RX11_152 rfl rfl ⟨by decide, by decide⟩ rfl (Nat.le_of_ble_eq_true rfl) hl (Nat.le_of_ble_eq_true rfl) (s_X11_isThing hl _) rfl ?_
  refine r_iconst (v := 1) (pc := 6) dX11_thing_6 (by decide) ?_
  refine rs_call (vs := [.int _, .int _]) (pc := 7) dX11_thing_7 rfl l_RX11_37 rfl rfl ⟨by decide, by decide⟩ rfl (Nat.le_of_ble_eq_true rfl) hl (Nat.le_of_ble_eq_true rfl) (s_X11_holds1 h) rfl ?_
  refine r_if_eq 44 (pc := 10) dX11_thing_10 (by decide) (fun c10 => absurd c10 (c_eqf rfl rfl (a := 1) (b := 0) (by omega) (by omega) (by omega))) (fun c10 => ?_)
  refine r_aload_n (pc := 13) dX11_thing_13 rfl rfl ?_
  refine r_iload_n (pc := 14) dX11_thing_14 rfl rfl ?_
  refine r_iconst (v := 0) (pc := 15) dX11_thing_15 (by decide) ?_
  refine r_iconst (v := 1) (pc := 16) dX11_thing_16 (by decide) ?_
  refine q_callS (vs := [.int _, .int _, .int _]) (pc := 17) dX11_thing_17 rfl l_RX11_89 rfl ⟨by decide, by decide⟩ rfl (Nat.le_of_ble_eq_true rfl) hl (Nat.le_of_ble_eq_true rfl) (s_X11_in _ _ _) rfl ?_
  refine r_iconst (v := 2) (pc := 20) dX11_thing_20 (by decide) ?_
  refine rs_call (vs := [.int _, .int _]) (pc := 21) dX11_thing_21 rfl l_RX11_37 rfl rfl ⟨by decide, by decide⟩ rfl (Nat.le_of_ble_eq_true rfl) hl (Nat.le_of_ble_eq_true rfl) (s_X11_holds1 h2) rfl ?_
  refine r_if_eq 44 (pc := 24) dX11_thing_24 (by decide) (fun c24 => absurd c24 (c_eqf rfl rfl (a := 1) (b := 0) (by omega) (by omega) (by omega))) (fun c24 => ?_)
  refine r_aload_n (pc := 27) dX11_thing_27 rfl rfl ?_
  refine rs_get (pc := 28) dX11_thing_28 rfl f_RX11_7 rfl ?_
  refine r_sipush (v := 134) (pc := 31) dX11_thing_31 (by decide) ?_
  refine r_iconst (v := 2) (pc := 34) dX11_thing_34 (by decide) ?_
  refine r_iload_n (pc := 35) dX11_thing_35 rfl rfl ?_
  refine r_imul (pc := 36) dX11_thing_36 ?_
  refine r_iadd (pc := 37) dX11_thing_37 ?_
  refine r_iload_n (pc := 38) dX11_thing_38 rfl rfl ?_
  refine r_iadd (pc := 39) dX11_thing_39 ?_
  refine rs_ld ((134 + (2 * p)) + q) (pc := 40) dX11_thing_40 (nadd (nadd rfl (nmul rfl hx)) hy) (by omega) ?_
  refine r_goto 45 (pc := 41) dX11_thing_41 (by decide) ?_
  exact r_ireturn (S := []) (pc := 45) dX11_thing_45 rfl rfl ⟨rfl, rfl⟩
theorem s_X11_angle_no {om : OM} {l : Launch} {B : Nat × Nat} {h0 : Hp} {I : Nat → Int32} {J : Nat → Int64} {A a v t n : Nat → Int32} (hl : l.stackTraces = false) (x : Int32) (h : R_in x 0 (A 5 - 1) = 0) : Runs om l M_X11_angle B 0 (entL 2 [.ref 119, .int x]) [] (rH h0 I J A a v t n) (Det (some (.int 0)) (rH h0 (upd I 0 1) J A a v t n)) := by
  show Runs om l M_X11_angle B 0 [some (.ref 119), some (.int x)] [] _ _
  refine r_aload_n (pc := 0) dX11_angle_0 rfl rfl ?_
  refine r_iload_n (pc := 1) dX11_angle_1 rfl rfl ?_
  refine r_iconst (v := 0) (pc := 2) dX11_angle_2 (by decide) ?_
  refine r_aload_n (pc := 3) dX11_angle_3 rfl rfl ?_
  refine rs_get (pc := 4) dX11_angle_4 rfl f_RX11_7 rfl ?_
  refine r_iconst (v := 5) (pc := 7) dX11_angle_7 (by decide) ?_
  refine rs_ld (5) (pc := 8) dX11_angle_8 rfl (by omega) ?_
  refine r_iconst (v := 1) (pc := 9) dX11_angle_9 (by decide) ?_
  refine r_isub (pc := 10) dX11_angle_10 ?_
  refine q_callS (vs := [.int _, .int _, .int _]) (pc := 11) dX11_angle_11 rfl l_RX11_89 rfl ⟨by decide, by decide⟩ rfl (Nat.le_of_ble_eq_true rfl) hl (Nat.le_of_ble_eq_true rfl) (s_X11_in _ _ _) rfl ?_
  refine r_iconst (v := 1) (pc := 14) dX11_angle_14 (by decide) ?_
  refine rs_call (vs := [.int _, .int _]) (pc := 15) dX11_angle_15 rfl l_RX11_37 rfl rfl ⟨by decide, by decide⟩ rfl (Nat.le_of_ble_eq_true rfl) hl (Nat.le_of_ble_eq_true rfl) (s_X11_holds0 h) rfl ?_
  refine r_if_eq 29 (pc := 18) dX11_angle_18 (by decide) (fun c18 => ?_) (fun c18 => absurd (c_eqt rfl rfl (a := 0) (b := 0) (by omega) (by omega) (by omega)) c18)
  refine r_iconst (v := 0) (pc := 29) dX11_angle_29 (by decide) ?_
  exact r_ireturn (S := []) (pc := 30) dX11_angle_30 rfl rfl ⟨rfl, rfl⟩
theorem s_X11_angle_yes {om : OM} {l : Launch} {B : Nat × Nat} {h0 : Hp} {I : Nat → Int32} {J : Nat → Int64} {A a v t n : Nat → Int32} (hl : l.stackTraces = false) (x : Int32) (h : R_in x 0 (A 5 - 1) = 1)  (h5 : ¬ A 5 = 0) : Runs om l M_X11_angle B 0 (entL 2 [.ref 119, .int x]) [] (rH h0 I J A a v t n) (Det (some (.int (R_angle A x))) (rH h0 (upd I 0 0) J A a v t n)) := by
  show Runs om l M_X11_angle B 0 [some (.ref 119), some (.int x)] [] _ _
  refine r_aload_n (pc := 0) dX11_angle_0 rfl rfl ?_
  refine r_iload_n (pc := 1) dX11_angle_1 rfl rfl ?_
  refine r_iconst (v := 0) (pc := 2) dX11_angle_2 (by decide) ?_
  refine r_aload_n (pc := 3) dX11_angle_3 rfl rfl ?_
  refine rs_get (pc := 4) dX11_angle_4 rfl f_RX11_7 rfl ?_
  refine r_iconst (v := 5) (pc := 7) dX11_angle_7 (by decide) ?_
  refine rs_ld (5) (pc := 8) dX11_angle_8 rfl (by omega) ?_
  refine r_iconst (v := 1) (pc := 9) dX11_angle_9 (by decide) ?_
  refine r_isub (pc := 10) dX11_angle_10 ?_
  refine q_callS (vs := [.int _, .int _, .int _]) (pc := 11) dX11_angle_11 rfl l_RX11_89 rfl ⟨by decide, by decide⟩ rfl (Nat.le_of_ble_eq_true rfl) hl (Nat.le_of_ble_eq_true rfl) (s_X11_in _ _ _) rfl ?_
  refine r_iconst (v := 1) (pc := 14) dX11_angle_14 (by decide) ?_
  refine rs_call (vs := [.int _, .int _]) (pc := 15) dX11_angle_15 rfl l_RX11_37 rfl rfl ⟨by decide, by decide⟩ rfl (Nat.le_of_ble_eq_true rfl) hl (Nat.le_of_ble_eq_true rfl) (s_X11_holds1 h) rfl ?_
  refine r_if_eq 29 (pc := 18) dX11_angle_18 (by decide) (fun c18 => absurd c18 (c_eqf rfl rfl (a := 1) (b := 0) (by omega) (by omega) (by omega))) (fun c18 => ?_)
  refine r_aload_n (pc := 21) dX11_angle_21 rfl rfl ?_
  refine r_iload_n (pc := 22) dX11_angle_22 rfl rfl ?_
  refine rs_call (vs := [.int _]) (pc := 23) dX11_angle_23 rfl l_RX11_56 rfl rfl ⟨by decide, by decide⟩ rfl (Nat.le_of_ble_eq_true rfl) hl (Nat.le_of_ble_eq_true rfl) (s_X11_angleOf _ h5) rfl ?_
  refine r_goto 30 (pc := 26) dX11_angle_26 (by decide) ?_
  exact r_ireturn (S := []) (pc := 30) dX11_angle_30 rfl rfl ⟨rfl, rfl⟩
theorem s_X11_tank_no {om : OM} {l : Launch} {B : Nat × Nat} {h0 : Hp} {I : Nat → Int32} {J : Nat → Int64} {A a v t n : Nat → Int32} (hl : l.stackTraces = false) (x : Int32) (h : R_in x 0 11 = 0) : Runs om l M_X11_tank B 0 (entL 2 [.ref 119, .int x]) [] (rH h0 I J A a v t n) (Det (some (.int 0)) (rH h0 (upd I 0 1) J A a v t n)) := by
  show Runs om l M_X11_tank B 0 [some (.ref 119), some (.int x)] [] _ _
  refine r_aload_n (pc := 0) dX11_tank_0 rfl rfl ?_
  refine r_iload_n (pc := 1) dX11_tank_1 rfl rfl ?_
  refine r_iconst (v := 0) (pc := 2) dX11_tank_2 (by decide) ?_
  refine r_bipush (v := 11) (pc := 3) dX11_tank_3 (by decide) ?_
  refine q_callS (vs := [.int _, .int _, .int _]) (pc := 5) dX11_tank_5 rfl l_RX11_89 rfl ⟨by decide, by decide⟩ rfl (Nat.le_of_ble_eq_true rfl) hl (Nat.le_of_ble_eq_true rfl) (s_X11_in _ _ _) rfl ?_
  refine r_iconst (v := 1) (pc := 8) dX11_tank_8 (by decide) ?_
  refine rs_call (vs := [.int _, .int _]) (pc := 9) dX11_tank_9 rfl l_RX11_37 rfl rfl ⟨by decide, by decide⟩ rfl (Nat.le_of_ble_eq_true rfl) hl (Nat.le_of_ble_eq_true rfl) (s_X11_holds0 h) rfl ?_
  refine r_if_eq 24 (pc := 12) dX11_tank_12 (by decide) (fun c12 => ?_) (fun c12 => absurd (c_eqt rfl rfl (a := 0) (b := 0) (by omega) (by omega) (by omega)) c12)
  refine r_iconst (v := 0) (pc := 24) dX11_tank_24 (by decide) ?_
  exact r_ireturn (S := []) (pc := 25) dX11_tank_25 rfl rfl ⟨rfl, rfl⟩
theorem s_X11_tank_yes {om : OM} {l : Launch} {B : Nat × Nat} {h0 : Hp} {I : Nat → Int32} {J : Nat → Int64} {A a v t n : Nat → Int32} (hl : l.stackTraces = false) (x : Int32) (h : R_in x 0 11 = 1)  (k : Nat) (hx : x = nI k) (hk : k ≤ 11) : Runs om l M_X11_tank B 0 (entL 2 [.ref 119, .int x]) [] (rH h0 I J A a v t n) (Det (some (.int (A k))) (rH h0 (upd I 0 0) J A a v t n)) := by
  show Runs om l M_X11_tank B 0 [some (.ref 119), some (.int x)] [] _ _
  refine r_aload_n (pc := 0) dX11_tank_0 rfl rfl ?_
  refine r_iload_n (pc := 1) dX11_tank_1 rfl rfl ?_
  refine r_iconst (v := 0) (pc := 2) dX11_tank_2 (by decide) ?_
  refine r_bipush (v := 11) (pc := 3) dX11_tank_3 (by decide) ?_
  refine q_callS (vs := [.int _, .int _, .int _]) (pc := 5) dX11_tank_5 rfl l_RX11_89 rfl ⟨by decide, by decide⟩ rfl (Nat.le_of_ble_eq_true rfl) hl (Nat.le_of_ble_eq_true rfl) (s_X11_in _ _ _) rfl ?_
  refine r_iconst (v := 1) (pc := 8) dX11_tank_8 (by decide) ?_
  refine rs_call (vs := [.int _, .int _]) (pc := 9) dX11_tank_9 rfl l_RX11_37 rfl rfl ⟨by decide, by decide⟩ rfl (Nat.le_of_ble_eq_true rfl) hl (Nat.le_of_ble_eq_true rfl) (s_X11_holds1 h) rfl ?_
  refine r_if_eq 24 (pc := 12) dX11_tank_12 (by decide) (fun c12 => absurd c12 (c_eqf rfl rfl (a := 1) (b := 0) (by omega) (by omega) (by omega))) (fun c12 => ?_)
  refine r_aload_n (pc := 15) dX11_tank_15 rfl rfl ?_
  refine rs_get (pc := 16) dX11_tank_16 rfl f_RX11_7 rfl ?_
  refine r_iload_n (pc := 19) dX11_tank_19 rfl rfl ?_
  refine rs_ld (k) (pc := 20) dX11_tank_20 hx (by omega) ?_
  refine r_goto 25 (pc := 21) dX11_tank_21 (by decide) ?_
  exact r_ireturn (S := []) (pc := 25) dX11_tank_25 rfl rfl ⟨rfl, rfl⟩
theorem s_X11_setting_no {om : OM} {l : Launch} {B : Nat × Nat} {h0 : Hp} {I : Nat → Int32} {J : Nat → Int64} {A a v t n : Nat → Int32} (hl : l.stackTraces = false) (x : Int32) (h : R_in x 0 11 = 0) : Runs om l M_X11_setting B 0 (entL 2 [.ref 119, .int x]) [] (rH h0 I J A a v t n) (Det (some (.int 0)) (rH h0 (upd I 0 1) J A a v t n)) := by
  show Runs om l M_X11_setting B 0 [some (.ref 119), some (.int x)] [] _ _
  refine r_aload_n (pc := 0) dX11_setting_0 rfl rfl ?_
  refine r_iload_n (pc := 1) dX11_setting_1 rfl rfl ?_
  refine r_iconst (v := 0) (pc := 2) dX11_setting_2 (by decide) ?_
  refine r_bipush (v := 11) (pc := 3) dX11_setting_3 (by decide) ?_
  refine q_callS (vs := [.int _, .int _, .int _]) (pc := 5) dX11_setting_5 rfl l_RX11_89 rfl ⟨by decide, by decide⟩ rfl (Nat.le_of_ble_eq_true rfl) hl (Nat.le_of_ble_eq_true rfl) (s_X11_in _ _ _) rfl ?_
  refine r_iconst (v := 1) (pc := 8) dX11_setting_8 (by decide) ?_
  refine rs_call (vs := [.int _, .int _]) (pc := 9) dX11_setting_9 rfl l_RX11_37 rfl rfl ⟨by decide, by decide⟩ rfl (Nat.le_of_ble_eq_true rfl) hl (Nat.le_of_ble_eq_true rfl) (s_X11_holds0 h) rfl ?_
  refine r_if_eq 27 (pc := 12) dX11_setting_12 (by decide) (fun c12 => ?_) (fun c12 => absurd (c_eqt rfl rfl (a := 0) (b := 0) (by omega) (by omega) (by omega)) c12)
  refine r_iconst (v := 0) (pc := 27) dX11_setting_27 (by decide) ?_
  exact r_ireturn (S := []) (pc := 28) dX11_setting_28 rfl rfl ⟨rfl, rfl⟩
theorem s_X11_setting_yes {om : OM} {l : Launch} {B : Nat × Nat} {h0 : Hp} {I : Nat → Int32} {J : Nat → Int64} {A a v t n : Nat → Int32} (hl : l.stackTraces = false) (x : Int32) (h : R_in x 0 11 = 1)  (k : Nat) (hx : x = nI k) (hk : k ≤ 11) : Runs om l M_X11_setting B 0 (entL 2 [.ref 119, .int x]) [] (rH h0 I J A a v t n) (Det (some (.int (A (12 + k)))) (rH h0 (upd I 0 0) J A a v t n)) := by
  show Runs om l M_X11_setting B 0 [some (.ref 119), some (.int x)] [] _ _
  refine r_aload_n (pc := 0) dX11_setting_0 rfl rfl ?_
  refine r_iload_n (pc := 1) dX11_setting_1 rfl rfl ?_
  refine r_iconst (v := 0) (pc := 2) dX11_setting_2 (by decide) ?_
  refine r_bipush (v := 11) (pc := 3) dX11_setting_3 (by decide) ?_
  refine q_callS (vs := [.int _, .int _, .int _]) (pc := 5) dX11_setting_5 rfl l_RX11_89 rfl ⟨by decide, by decide⟩ rfl (Nat.le_of_ble_eq_true rfl) hl (Nat.le_of_ble_eq_true rfl) (s_X11_in _ _ _) rfl ?_
  refine r_iconst (v := 1) (pc := 8) dX11_setting_8 (by decide) ?_
  refine rs_call (vs := [.int _, .int _]) (pc := 9) dX11_setting_9 rfl l_RX11_37 rfl rfl ⟨by decide, by decide⟩ rfl (Nat.le_of_ble_eq_true rfl) hl (Nat.le_of_ble_eq_true rfl) (s_X11_holds1 h) rfl ?_
  refine r_if_eq 27 (pc := 12) dX11_setting_12 (by decide) (fun c12 => absurd c12 (c_eqf rfl rfl (a := 1) (b := 0) (by omega) (by omega) (by omega))) (fun c12 => ?_)
  refine r_aload_n (pc := 15) dX11_setting_15 rfl rfl ?_
  refine rs_get (pc := 16) dX11_setting_16 rfl f_RX11_7 rfl ?_
  refine r_bipush (v := 12) (pc := 19) dX11_setting_19 (by decide) ?_
  refine r_iload_n (pc := 21) dX11_setting_21 rfl rfl ?_
  refine r_iadd (pc := 22) dX11_setting_22 ?_
  refine rs_ld (12 + k) (pc := 23) dX11_setting_23 (nadd rfl hx) (by omega) ?_
  refine r_goto 28 (pc := 24) dX11_setting_24 (by decide) ?_
  exact r_ireturn (S := []) (pc := 28) dX11_setting_28 rfl rfl ⟨rfl, rfl⟩
theorem s_X11_gaugeOf {om : OM} {l : Launch} {B : Nat × Nat} {h0 : Hp} {I : Nat → Int32} {J : Nat → Int64} {A a v t n : Nat → Int32} (hl : l.stackTraces = false) (k : Nat) (x : Int32) (hx : x = nI k) (hk : k ≤ 12) (K : Nat) (hK : A 31 = nI K) (hK9 : K ≤ 9) : Runs om l M_X11_gaugeOf B 0 (entL 2 [.ref 119, .int x]) [] (rH h0 I J A a v t n) (Det (some (.int (R_gauge A k))) (rH h0 I J A a v t n)) := by
  subst hx
  have hk' : k = 0 ∨ k = 1 ∨ k = 2 ∨ k = 3 ∨ k = 4 ∨ k = 5 ∨ k = 6 ∨ k = 7 ∨ k = 8 ∨ k = 9 ∨ k = 10 ∨ k = 11 ∨ k = 12 := by omega
  rcases hk' with rfl | rfl | rfl | rfl | rfl | rfl | rfl | rfl | rfl | rfl | rfl | rfl | rfl
  · show Runs om l M_X11_gaugeOf B 0 [some (.ref 119), some (.int 0)] [] _ _
    refine r_iload_n (pc := 0) dX11_gaugeOf_0 rfl rfl ?_
    refine r_tableIn 64 (pc := 1) dX11_gaugeOf_1 (by decide) (by decide) rfl (by decide) ?_
    refine r_aload_n (pc := 64) dX11_gaugeOf_64 rfl rfl ?_
    refine rs_get (pc := 65) dX11_gaugeOf_65 rfl f_RX11_7 rfl ?_
    refine r_bipush (v := 24) (pc := 68) dX11_gaugeOf_68 (by decide) ?_
    refine rs_ld (24) (pc := 70) dX11_gaugeOf_70 rfl (by omega) ?_
    exact r_ireturn (S := []) (pc := 71) dX11_gaugeOf_71 rfl rfl ⟨rfl, rfl⟩
  · show Runs om l M_X11_gaugeOf B 0 [some (.ref 119), some (.int 1)] [] _ _
    refine r_iload_n (pc := 0) dX11_gaugeOf_0 rfl rfl ?_
    refine r_tableIn 72 (pc := 1) dX11_gaugeOf_1 (by decide) (by decide) rfl (by decide) ?_
    refine r_aload_n (pc := 72) dX11_gaugeOf_72 rfl rfl ?_
    refine rs_get (pc := 73) dX11_gaugeOf_73 rfl f_RX11_7 rfl ?_
    refine r_bipush (v := 25) (pc := 76) dX11_gaugeOf_76 (by decide) ?_
    refine rs_ld (25) (pc := 78) dX11_gaugeOf_78 rfl (by omega) ?_
    exact r_ireturn (S := []) (pc := 79) dX11_gaugeOf_79 rfl rfl ⟨rfl, rfl⟩
  · show Runs om l M_X11_gaugeOf B 0 [some (.ref 119), some (.int 2)] [] _ _
    refine r_iload_n (pc := 0) dX11_gaugeOf_0 rfl rfl ?_
    refine r_tableIn 80 (pc := 1) dX11_gaugeOf_1 (by decide) (by decide) rfl (by decide) ?_
    refine r_aload_n (pc := 80) dX11_gaugeOf_80 rfl rfl ?_
    refine rs_get (pc := 81) dX11_gaugeOf_81 rfl f_RX11_7 rfl ?_
    refine r_bipush (v := 26) (pc := 84) dX11_gaugeOf_84 (by decide) ?_
    refine rs_ld (26) (pc := 86) dX11_gaugeOf_86 rfl (by omega) ?_
    exact r_ireturn (S := []) (pc := 87) dX11_gaugeOf_87 rfl rfl ⟨rfl, rfl⟩
  · show Runs om l M_X11_gaugeOf B 0 [some (.ref 119), some (.int 3)] [] _ _
    refine r_iload_n (pc := 0) dX11_gaugeOf_0 rfl rfl ?_
    refine r_tableIn 88 (pc := 1) dX11_gaugeOf_1 (by decide) (by decide) rfl (by decide) ?_
    refine r_aload_n (pc := 88) dX11_gaugeOf_88 rfl rfl ?_
    refine rs_get (pc := 89) dX11_gaugeOf_89 rfl f_RX11_7 rfl ?_
    refine r_bipush (v := 26) (pc := 92) dX11_gaugeOf_92 (by decide) ?_
    refine rs_ld (26) (pc := 94) dX11_gaugeOf_94 rfl (by omega) ?_
    refine r_iconst (v := (-1)) (pc := 95) dX11_gaugeOf_95 (by decide) ?_
    refine r_icmp_ne 103 (pc := 96) dX11_gaugeOf_96 (by decide) (fun c96 => ?_) (fun c96 => ?_)
    · refine r_aload_n (pc := 103) dX11_gaugeOf_103 rfl rfl ?_
      refine rs_get (pc := 104) dX11_gaugeOf_104 rfl f_RX11_7 rfl ?_
      refine r_iconst (v := 0) (pc := 107) dX11_gaugeOf_107 (by decide) ?_
      refine rs_ld (0) (pc := 108) dX11_gaugeOf_108 rfl (by omega) ?_
      refine r_aload_n (pc := 109) dX11_gaugeOf_109 rfl rfl ?_
      refine rs_get (pc := 110) dX11_gaugeOf_110 rfl f_RX11_7 rfl ?_
      refine r_bipush (v := 26) (pc := 113) dX11_gaugeOf_113 (by decide) ?_
      refine rs_ld (26) (pc := 115) dX11_gaugeOf_115 rfl (by omega) ?_
      refine r_isub (pc := 116) dX11_gaugeOf_116 ?_
      exact r_ireturn (S := []) (pc := 117) dX11_gaugeOf_117 rfl rfl ⟨by rw [show R_gauge A 3 = R_gl A from rfl, R_gl]; (repeat (first | rw [if_pos (by assumption)] | rw [if_neg (by assumption)])), rfl⟩
    · refine r_iconst (v := (-1)) (pc := 99) dX11_gaugeOf_99 (by decide) ?_
      refine r_goto 117 (pc := 100) dX11_gaugeOf_100 (by decide) ?_
      exact r_ireturn (S := []) (pc := 117) dX11_gaugeOf_117 rfl rfl ⟨by rw [show R_gauge A 3 = R_gl A from rfl, R_gl]; (repeat (first | rw [if_pos (by assumption)] | rw [if_neg (by assumption)])), rfl⟩
  · show Runs om l M_X11_gaugeOf B 0 [some (.ref 119), some (.int 4)] [] _ _
    refine r_iload_n (pc := 0) dX11_gaugeOf_0 rfl rfl ?_
    refine r_tableIn 118 (pc := 1) dX11_gaugeOf_1 (by decide) (by decide) rfl (by decide) ?_
    refine r_aload_n (pc := 118) dX11_gaugeOf_118 rfl rfl ?_
    refine rs_get (pc := 119) dX11_gaugeOf_119 rfl f_RX11_7 rfl ?_
    refine r_bipush (v := 27) (pc := 122) dX11_gaugeOf_122 (by decide) ?_
    refine rs_ld (27) (pc := 124) dX11_gaugeOf_124 rfl (by omega) ?_
    exact r_ireturn (S := []) (pc := 125) dX11_gaugeOf_125 rfl rfl ⟨rfl, rfl⟩
  · show Runs om l M_X11_gaugeOf B 0 [some (.ref 119), some (.int 5)] [] _ _
    refine r_iload_n (pc := 0) dX11_gaugeOf_0 rfl rfl ?_
    refine r_tableIn 126 (pc := 1) dX11_gaugeOf_1 (by decide) (by decide) rfl (by decide) ?_
    refine r_aload_n (pc := 126) dX11_gaugeOf_126 rfl rfl ?_
    refine rs_get (pc := 127) dX11_gaugeOf_127 rfl f_RX11_7 rfl ?_
    refine r_bipush (v := 28) (pc := 130) dX11_gaugeOf_130 (by decide) ?_
    refine rs_ld (28) (pc := 132) dX11_gaugeOf_132 rfl (by omega) ?_
    exact r_ireturn (S := []) (pc := 133) dX11_gaugeOf_133 rfl rfl ⟨rfl, rfl⟩
  · show Runs om l M_X11_gaugeOf B 0 [some (.ref 119), some (.int 6)] [] _ _
    refine r_iload_n (pc := 0) dX11_gaugeOf_0 rfl rfl ?_
    refine r_tableIn 134 (pc := 1) dX11_gaugeOf_1 (by decide) (by decide) rfl (by decide) ?_
    refine r_aload_n (pc := 134) dX11_gaugeOf_134 rfl rfl ?_
    refine rs_call (vs := []) (pc := 135) dX11_gaugeOf_135 rfl l_RX11_181 rfl rfl ⟨by decide, by decide⟩ rfl (Nat.le_of_ble_eq_true rfl) hl (Nat.le_of_ble_eq_true rfl) (s_X11_masked) rfl ?_
    exact r_ireturn (S := []) (pc := 138) dX11_gaugeOf_138 rfl rfl ⟨rfl, rfl⟩
  · show Runs om l M_X11_gaugeOf B 0 [some (.ref 119), some (.int 7)] [] _ _
    refine r_iload_n (pc := 0) dX11_gaugeOf_0 rfl rfl ?_
    refine r_tableIn 139 (pc := 1) dX11_gaugeOf_1 (by decide) (by decide) rfl (by decide) ?_
    refine r_aload_n (pc := 139) dX11_gaugeOf_139 rfl rfl ?_
    refine rs_get (pc := 140) dX11_gaugeOf_140 rfl f_RX11_7 rfl ?_
    refine r_bipush (v := 41) (pc := 143) dX11_gaugeOf_143 (by decide) ?_
    refine rs_ld (41) (pc := 145) dX11_gaugeOf_145 rfl (by omega) ?_
    exact r_ireturn (S := []) (pc := 146) dX11_gaugeOf_146 rfl rfl ⟨rfl, rfl⟩
  · show Runs om l M_X11_gaugeOf B 0 [some (.ref 119), some (.int 8)] [] _ _
    refine r_iload_n (pc := 0) dX11_gaugeOf_0 rfl rfl ?_
    refine r_tableIn 147 (pc := 1) dX11_gaugeOf_1 (by decide) (by decide) rfl (by decide) ?_
    refine r_aload_n (pc := 147) dX11_gaugeOf_147 rfl rfl ?_
    refine rs_get (pc := 148) dX11_gaugeOf_148 rfl f_RX11_7 rfl ?_
    refine r_bipush (v := 31) (pc := 151) dX11_gaugeOf_151 (by decide) ?_
    refine rs_ld (31) (pc := 153) dX11_gaugeOf_153 rfl (by omega) ?_
    exact r_ireturn (S := []) (pc := 154) dX11_gaugeOf_154 rfl rfl ⟨rfl, rfl⟩
  · show Runs om l M_X11_gaugeOf B 0 [some (.ref 119), some (.int 9)] [] _ _
    refine r_iload_n (pc := 0) dX11_gaugeOf_0 rfl rfl ?_
    refine r_tableIn 155 (pc := 1) dX11_gaugeOf_1 (by decide) (by decide) rfl (by decide) ?_
    refine r_aload_n (pc := 155) dX11_gaugeOf_155 rfl rfl ?_
    refine rs_call (vs := []) (pc := 156) dX11_gaugeOf_156 rfl l_RX11_100 rfl rfl ⟨by decide, by decide⟩ rfl (Nat.le_of_ble_eq_true rfl) hl (Nat.le_of_ble_eq_true rfl) (s_X11_kept K hK hK9) rfl ?_
    exact r_ireturn (S := []) (pc := 159) dX11_gaugeOf_159 rfl rfl ⟨by rw [show R_gauge A 9 = R_kp A (cl (A 31)) from rfl, cl_nI hK (by omega)], rfl⟩
  · show Runs om l M_X11_gaugeOf B 0 [some (.ref 119), some (.int 10)] [] _ _
    refine r_iload_n (pc := 0) dX11_gaugeOf_0 rfl rfl ?_
    refine r_tableIn 160 (pc := 1) dX11_gaugeOf_1 (by decide) (by decide) rfl (by decide) ?_
    refine r_aload_n (pc := 160) dX11_gaugeOf_160 rfl rfl ?_
    refine rs_call (vs := []) (pc := 161) dX11_gaugeOf_161 rfl l_RX11_103 rfl rfl ⟨by decide, by decide⟩ rfl (Nat.le_of_ble_eq_true rfl) hl (Nat.le_of_ble_eq_true rfl) (s_X11_median hl K hK hK9) rfl ?_
    exact r_ireturn (S := []) (pc := 164) dX11_gaugeOf_164 rfl rfl ⟨rfl, rfl⟩
  · show Runs om l M_X11_gaugeOf B 0 [some (.ref 119), some (.int 11)] [] _ _
    refine r_iload_n (pc := 0) dX11_gaugeOf_0 rfl rfl ?_
    refine r_tableIn 165 (pc := 1) dX11_gaugeOf_1 (by decide) (by decide) rfl (by decide) ?_
    refine r_aload_n (pc := 165) dX11_gaugeOf_165 rfl rfl ?_
    refine rs_get (pc := 166) dX11_gaugeOf_166 rfl f_RX11_7 rfl ?_
    refine r_bipush (v := 29) (pc := 169) dX11_gaugeOf_169 (by decide) ?_
    refine rs_ld (29) (pc := 171) dX11_gaugeOf_171 rfl (by omega) ?_
    exact r_ireturn (S := []) (pc := 172) dX11_gaugeOf_172 rfl rfl ⟨rfl, rfl⟩
  · show Runs om l M_X11_gaugeOf B 0 [some (.ref 119), some (.int 12)] [] _ _
    refine r_iload_n (pc := 0) dX11_gaugeOf_0 rfl rfl ?_
    refine r_tableOut 173 (pc := 1) dX11_gaugeOf_1 (Or.inr (by decide)) (by decide) ?_
    refine r_aload_n (pc := 173) dX11_gaugeOf_173 rfl rfl ?_
    refine rs_get (pc := 174) dX11_gaugeOf_174 rfl f_RX11_7 rfl ?_
    refine r_bipush (v := 30) (pc := 177) dX11_gaugeOf_177 (by decide) ?_
    refine rs_ld (30) (pc := 179) dX11_gaugeOf_179 rfl (by omega) ?_
    exact r_ireturn (S := []) (pc := 180) dX11_gaugeOf_180 rfl rfl ⟨rfl, rfl⟩
theorem s_X11_gauge_no {om : OM} {l : Launch} {B : Nat × Nat} {h0 : Hp} {I : Nat → Int32} {J : Nat → Int64} {A a v t n : Nat → Int32} (hl : l.stackTraces = false) (x : Int32) (h : R_in x 0 12 = 0) : Runs om l M_X11_gauge B 0 (entL 2 [.ref 119, .int x]) [] (rH h0 I J A a v t n) (Det (some (.int 0)) (rH h0 (upd I 0 1) J A a v t n)) := by
  show Runs om l M_X11_gauge B 0 [some (.ref 119), some (.int x)] [] _ _
  refine r_aload_n (pc := 0) dX11_gauge_0 rfl rfl ?_
  refine r_iload_n (pc := 1) dX11_gauge_1 rfl rfl ?_
  refine r_iconst (v := 0) (pc := 2) dX11_gauge_2 (by decide) ?_
  refine r_bipush (v := 12) (pc := 3) dX11_gauge_3 (by decide) ?_
  refine q_callS (vs := [.int _, .int _, .int _]) (pc := 5) dX11_gauge_5 rfl l_RX11_89 rfl ⟨by decide, by decide⟩ rfl (Nat.le_of_ble_eq_true rfl) hl (Nat.le_of_ble_eq_true rfl) (s_X11_in _ _ _) rfl ?_
  refine r_iconst (v := 1) (pc := 8) dX11_gauge_8 (by decide) ?_
  refine rs_call (vs := [.int _, .int _]) (pc := 9) dX11_gauge_9 rfl l_RX11_37 rfl rfl ⟨by decide, by decide⟩ rfl (Nat.le_of_ble_eq_true rfl) hl (Nat.le_of_ble_eq_true rfl) (s_X11_holds0 h) rfl ?_
  refine r_if_eq 23 (pc := 12) dX11_gauge_12 (by decide) (fun c12 => ?_) (fun c12 => absurd (c_eqt rfl rfl (a := 0) (b := 0) (by omega) (by omega) (by omega)) c12)
  refine r_iconst (v := 0) (pc := 23) dX11_gauge_23 (by decide) ?_
  exact r_ireturn (S := []) (pc := 24) dX11_gauge_24 rfl rfl ⟨rfl, rfl⟩
theorem s_X11_gauge_yes {om : OM} {l : Launch} {B : Nat × Nat} {h0 : Hp} {I : Nat → Int32} {J : Nat → Int64} {A a v t n : Nat → Int32} (hl : l.stackTraces = false) (x : Int32) (h : R_in x 0 12 = 1)  (k : Nat) (hx : x = nI k) (hk : k ≤ 12) (K : Nat) (hK : A 31 = nI K) (hK9 : K ≤ 9) : Runs om l M_X11_gauge B 0 (entL 2 [.ref 119, .int x]) [] (rH h0 I J A a v t n) (Det (some (.int (R_gauge A k))) (rH h0 (upd I 0 0) J A a v t n)) := by
  show Runs om l M_X11_gauge B 0 [some (.ref 119), some (.int x)] [] _ _
  refine r_aload_n (pc := 0) dX11_gauge_0 rfl rfl ?_
  refine r_iload_n (pc := 1) dX11_gauge_1 rfl rfl ?_
  refine r_iconst (v := 0) (pc := 2) dX11_gauge_2 (by decide) ?_
  refine r_bipush (v := 12) (pc := 3) dX11_gauge_3 (by decide) ?_
  refine q_callS (vs := [.int _, .int _, .int _]) (pc := 5) dX11_gauge_5 rfl l_RX11_89 rfl ⟨by decide, by decide⟩ rfl (Nat.le_of_ble_eq_true rfl) hl (Nat.le_of_ble_eq_true rfl) (s_X11_in _ _ _) rfl ?_
  refine r_iconst (v := 1) (pc := 8) dX11_gauge_8 (by decide) ?_
  refine rs_call (vs := [.int _, .int _]) (pc := 9) dX11_gauge_9 rfl l_RX11_37 rfl rfl ⟨by decide, by decide⟩ rfl (Nat.le_of_ble_eq_true rfl) hl (Nat.le_of_ble_eq_true rfl) (s_X11_holds1 h) rfl ?_
  refine r_if_eq 23 (pc := 12) dX11_gauge_12 (by decide) (fun c12 => absurd c12 (c_eqf rfl rfl (a := 1) (b := 0) (by omega) (by omega) (by omega))) (fun c12 => ?_)
  refine r_aload_n (pc := 15) dX11_gauge_15 rfl rfl ?_
  refine r_iload_n (pc := 16) dX11_gauge_16 rfl rfl ?_
  refine rs_call (vs := [.int _]) (pc := 17) dX11_gauge_17 rfl l_RX11_197 rfl rfl ⟨by decide, by decide⟩ rfl (Nat.le_of_ble_eq_true rfl) hl (Nat.le_of_ble_eq_true rfl) (s_X11_gaugeOf hl k _ hx hk K hK hK9) rfl ?_
  refine r_goto 24 (pc := 20) dX11_gauge_20 (by decide) ?_
  exact r_ireturn (S := []) (pc := 24) dX11_gauge_24 rfl rfl ⟨rfl, rfl⟩
