theorem s_X11_needOf {om : OM} {l : Launch} {B : Nat × Nat} {h0 : Hp} {I : Nat → Int32} {J : Nat → Int64} {A a v t n : Nat → Int32} (hl : l.stackTraces = false) (d : Int32) : Runs om l M_X11_needOf B 0 (entL 2 [.ref 119, .int d]) [] (rH h0 I J A a v t n) (Det (some (.int (R_need A d))) (rH h0 I J A a v t n)) := by
  show Runs om l M_X11_needOf B 0 [some (.ref 119), some (.int d)] [] _ _
  refine r_iconst (v := 1) (pc := 0) dX11_needOf_0 (by decide) ?_
  refine r_aload_n (pc := 1) dX11_needOf_1 rfl rfl ?_
  refine rs_get (pc := 2) dX11_needOf_2 rfl f_RX11_7 rfl ?_
  refine r_bipush (v := 14) (pc := 5) dX11_needOf_5 (by decide) ?_
  refine rs_ld (14) (pc := 7) dX11_needOf_7 rfl (by omega) ?_
  refine r_iload_n (pc := 8) dX11_needOf_8 rfl rfl ?_
  refine r_aload_n (pc := 9) dX11_needOf_9 rfl rfl ?_
  refine rs_get (pc := 10) dX11_needOf_10 rfl f_RX11_7 rfl ?_
  refine r_bipush (v := 15) (pc := 13) dX11_needOf_13 (by decide) ?_
  refine rs_ld (15) (pc := 15) dX11_needOf_15 rfl (by omega) ?_
  refine r_imul (pc := 16) dX11_needOf_16 ?_
  refine r_sipush (v := 1000) (pc := 17) dX11_needOf_17 (by decide) ?_
  refine r_idiv (pc := 20) dX11_needOf_20 (by decide) ?_
  refine r_isub (pc := 21) dX11_needOf_21 ?_
  refine q_callS (vs := [.int _, .int _]) (pc := 22) dX11_needOf_22 rfl l_RX11_60 rfl ⟨by decide, by decide⟩ rfl (Nat.le_of_ble_eq_true rfl) hl (Nat.le_of_ble_eq_true rfl) (s_X11_greater _ _) rfl ?_
  exact r_ireturn (S := []) (pc := 25) dX11_needOf_25 rfl rfl ⟨rfl, rfl⟩
theorem s_X11_isCandidate {om : OM} {l : Launch} {B : Nat × Nat} {h0 : Hp} {I : Nat → Int32} {J : Nat → Int64} {A a v t n : Nat → Int32} (hl : l.stackTraces = false) (p x D : Nat) (y : Int32) (hy : y = nI p) (hp : 42 ≤ p) (hp2 : p ≤ 98) (hx : A (p + 1) = nI x) (hx31 : x < 2 ^ 31) (hD : A 0 = nI D) (hD1 : D ≤ 10000) : Runs om l M_X11_isCandidate B 0 (entL 2 [.ref 119, .int y]) [] (rH h0 I J A a v t n) (Det (some (.int (R_cand A p))) (rH h0 I J A a v t n)) := by
  show Runs om l M_X11_isCandidate B 0 [some (.ref 119), some (.int y)] [] _ _
  refine r_aload_n (pc := 0) dX11_isCandidate_0 rfl rfl ?_
  refine rs_get (pc := 1) dX11_isCandidate_1 rfl f_RX11_7 rfl ?_
  refine r_iload_n (pc := 4) dX11_isCandidate_4 rfl rfl ?_
  refine r_iconst (v := 1) (pc := 5) dX11_isCandidate_5 (by decide) ?_
  refine r_iadd (pc := 6) dX11_isCandidate_6 ?_
  refine rs_ld (p + 1) (pc := 7) dX11_isCandidate_7 (nadd hy rfl) (by omega) ?_
  refine r_aload_n (pc := 8) dX11_isCandidate_8 rfl rfl ?_
  refine rs_get (pc := 9) dX11_isCandidate_9 rfl f_RX11_7 rfl ?_
  refine r_iconst (v := 0) (pc := 12) dX11_isCandidate_12 (by decide) ?_
  refine rs_ld (0) (pc := 13) dX11_isCandidate_13 rfl (by omega) ?_
  refine r_icmp_gt 67 (pc := 14) dX11_isCandidate_14 (by decide) (fun c14 => ?_) (fun c14 => ?_)
  · refine r_iconst (v := 0) (pc := 67) dX11_isCandidate_67 (by decide) ?_
    exact r_ireturn (S := []) (pc := 68) dX11_isCandidate_68 rfl rfl ⟨by rw [R_cand, cl_nI hx hx31]; (repeat (first | rw [if_pos (by assumption)] | rw [if_neg (by assumption)])), rfl⟩
  · have hxD : x ≤ D := n_nlt hx hD hx31 (by omega) c14
    refine r_aload_n (pc := 17) dX11_isCandidate_17 rfl rfl ?_
    refine rs_get (pc := 18) dX11_isCandidate_18 rfl f_RX11_7 rfl ?_
    refine r_sipush (v := 146) (pc := 21) dX11_isCandidate_21 (by decide) ?_
    refine r_aload_n (pc := 24) dX11_isCandidate_24 rfl rfl ?_
    refine rs_get (pc := 25) dX11_isCandidate_25 rfl f_RX11_7 rfl ?_
    refine r_iload_n (pc := 28) dX11_isCandidate_28 rfl rfl ?_
    refine r_iconst (v := 1) (pc := 29) dX11_isCandidate_29 (by decide) ?_
    refine r_iadd (pc := 30) dX11_isCandidate_30 ?_
    refine rs_ld (p + 1) (pc := 31) dX11_isCandidate_31 (nadd hy rfl) (by omega) ?_
    refine r_bipush (v := 20) (pc := 32) dX11_isCandidate_32 (by decide) ?_
    refine r_idiv (pc := 34) dX11_isCandidate_34 (by decide) ?_
    refine r_iadd (pc := 35) dX11_isCandidate_35 ?_
    refine rs_ld (146 + (x / 20)) (pc := 36) dX11_isCandidate_36 (nadd rfl (ndiv hx rfl (by omega) (by omega) (by omega))) (by omega) ?_
    refine r_if_ne 67 (pc := 37) dX11_isCandidate_37 (by decide) (fun c37 => ?_) (fun c37 => ?_)
    · refine r_iconst (v := 0) (pc := 67) dX11_isCandidate_67 (by decide) ?_
      exact r_ireturn (S := []) (pc := 68) dX11_isCandidate_68 rfl rfl ⟨by rw [R_cand, cl_nI hx hx31]; (repeat (first | rw [if_pos (by assumption)] | rw [if_neg (by assumption)])), rfl⟩
    · refine r_aload_n (pc := 40) dX11_isCandidate_40 rfl rfl ?_
      refine rs_get (pc := 41) dX11_isCandidate_41 rfl f_RX11_7 rfl ?_
      refine r_iload_n (pc := 44) dX11_isCandidate_44 rfl rfl ?_
      refine r_iconst (v := 2) (pc := 45) dX11_isCandidate_45 (by decide) ?_
      refine r_iadd (pc := 46) dX11_isCandidate_46 ?_
      refine rs_ld (p + 2) (pc := 47) dX11_isCandidate_47 (nadd hy rfl) (by omega) ?_
      refine r_aload_n (pc := 48) dX11_isCandidate_48 rfl rfl ?_
      refine r_aload_n (pc := 49) dX11_isCandidate_49 rfl rfl ?_
      refine rs_get (pc := 50) dX11_isCandidate_50 rfl f_RX11_7 rfl ?_
      refine r_iload_n (pc := 53) dX11_isCandidate_53 rfl rfl ?_
      refine r_iconst (v := 1) (pc := 54) dX11_isCandidate_54 (by decide) ?_
      refine r_iadd (pc := 55) dX11_isCandidate_55 ?_
      refine rs_ld (p + 1) (pc := 56) dX11_isCandidate_56 (nadd hy rfl) (by omega) ?_
      refine rs_call (vs := [.int _]) (pc := 57) dX11_isCandidate_57 rfl l_RX11_80 rfl rfl ⟨by decide, by decide⟩ rfl (Nat.le_of_ble_eq_true rfl) hl (Nat.le_of_ble_eq_true rfl) (s_X11_needOf hl _) rfl ?_
      refine r_icmp_lt 67 (pc := 60) dX11_isCandidate_60 (by decide) (fun c60 => ?_) (fun c60 => ?_)
      · refine r_iconst (v := 0) (pc := 67) dX11_isCandidate_67 (by decide) ?_
        exact r_ireturn (S := []) (pc := 68) dX11_isCandidate_68 rfl rfl ⟨by rw [R_cand, cl_nI hx hx31]; (repeat (first | rw [if_pos (by assumption)] | rw [if_neg (by assumption)])), rfl⟩
      · refine r_iconst (v := 1) (pc := 63) dX11_isCandidate_63 (by decide) ?_
        refine r_goto 68 (pc := 64) dX11_isCandidate_64 (by decide) ?_
        exact r_ireturn (S := []) (pc := 68) dX11_isCandidate_68 rfl rfl ⟨by rw [R_cand, cl_nI hx hx31]; (repeat (first | rw [if_pos (by assumption)] | rw [if_neg (by assumption)])), rfl⟩
theorem lp_had {om : OM} {l : Launch} {B : Nat × Nat} {h0 : Hp} {I : Nat → Int32} {J : Nat → Int64} {A a v t n : Nat → Int32} {Post : Out → Hp → Prop} (hl : l.stackTraces = false) (x d : Int32) (b K : Nat) (hb : 102 ≤ b) (hb2 : b ≤ 118) (hK : A b = nI K) (hK15 : K ≤ 15) : ∀ (n9 k : Nat) (hd : Int32), k + n9 = K → hd = itN (R_hadb A b d) k 0 → Runs om l M_X11_hadNear B 63 [some (.ref 119), some (.int x), some (.int d), some (.int (nI b)), some (.int (itN (R_hadb A b d) K 0)), some (.int (nI K))] [] (rH h0 I J A a v t n) Post → Runs om l M_X11_hadNear B 14 [some (.ref 119), some (.int x), some (.int d), some (.int (nI b)), some (.int hd), some (.int (nI k))] [] (rH h0 I J A a v t n) Post := by
  intro n9
  induction n9 with
  | zero =>
    intro k hd hk e_hd KK
    have e9 : k = K := by omega
    refine r_iload (pc := 14) dX11_hadNear_14 rfl ?_
    refine r_aload_n (pc := 16) dX11_hadNear_16 rfl rfl ?_
    refine rs_get (pc := 17) dX11_hadNear_17 rfl f_RX11_7 rfl ?_
    refine r_iload_n (pc := 20) dX11_hadNear_20 rfl rfl ?_
    refine rs_ld (b) (pc := 21) dX11_hadNear_21 rfl (by omega) ?_
    refine r_icmp_ge 63 (pc := 22) dX11_hadNear_22 (by decide) (fun c22 => ?_) (fun c22 => absurd (c_get rfl hK (a := k) (b := K) (by omega) (by omega) (by omega)) c22)
    subst e9
    subst e_hd
    exact KK
  | succ n9 ih =>
    intro k hd hk e_hd KK
    refine r_iload (pc := 14) dX11_hadNear_14 rfl ?_
    refine r_aload_n (pc := 16) dX11_hadNear_16 rfl rfl ?_
    refine rs_get (pc := 17) dX11_hadNear_17 rfl f_RX11_7 rfl ?_
    refine r_iload_n (pc := 20) dX11_hadNear_20 rfl rfl ?_
    refine rs_ld (b) (pc := 21) dX11_hadNear_21 rfl (by omega) ?_
    refine r_icmp_ge 63 (pc := 22) dX11_hadNear_22 (by decide) (fun c22 => absurd c22 (c_gef rfl hK (a := k) (b := K) (by omega) (by omega) (by omega))) (fun c22 => ?_)
    refine r_iload (pc := 25) dX11_hadNear_25 rfl ?_
    refine r_if_ne 50 (pc := 27) dX11_hadNear_27 (by decide) (fun c27 => ?_) (fun c27 => ?_)
    · refine r_iconst (v := 1) (pc := 50) dX11_hadNear_50 (by decide) ?_
      refine r_goto 55 (pc := 51) dX11_hadNear_51 (by decide) ?_
      refine q_istore [_, _, _, _, _, _] (pc := 55) dX11_hadNear_55 (by decide) rfl ?_
      refine q_iinc (nI (k + 1)) [_, _, _, _, _, _] (pc := 57) dX11_hadNear_57 rfl (by decide) (ninc 1 rfl) rfl ?_
      refine r_goto 14 (pc := 60) dX11_hadNear_60 (by decide) ?_
      exact ih (k + 1) _ (by omega) (by rw [itN_s, R_hadb, ← e_hd]; (repeat (first | rw [if_pos (by assumption)] | rw [if_neg (by assumption)]))) KK
    · refine r_aload_n (pc := 30) dX11_hadNear_30 rfl rfl ?_
      refine rs_get (pc := 31) dX11_hadNear_31 rfl f_RX11_7 rfl ?_
      refine r_iload_n (pc := 34) dX11_hadNear_34 rfl rfl ?_
      refine r_iconst (v := 1) (pc := 35) dX11_hadNear_35 (by decide) ?_
      refine r_iadd (pc := 36) dX11_hadNear_36 ?_
      refine r_iload (pc := 37) dX11_hadNear_37 rfl ?_
      refine r_iadd (pc := 39) dX11_hadNear_39 ?_
      refine rs_ld ((b + 1) + k) (pc := 40) dX11_hadNear_40 (nadd (nadd rfl rfl) rfl) (by omega) ?_
      refine r_iload_n (pc := 41) dX11_hadNear_41 rfl rfl ?_
      refine q_callS (vs := [.int _, .int _]) (pc := 42) dX11_hadNear_42 rfl l_RX11_83 rfl ⟨by decide, by decide⟩ rfl (Nat.le_of_ble_eq_true rfl) hl (Nat.le_of_ble_eq_true rfl) (s_X11_apart _ _) rfl ?_
      refine r_bipush (v := 15) (pc := 45) dX11_hadNear_45 (by decide) ?_
      refine r_icmp_gt 54 (pc := 47) dX11_hadNear_47 (by decide) (fun c47 => ?_) (fun c47 => ?_)
      · refine r_iconst (v := 0) (pc := 54) dX11_hadNear_54 (by decide) ?_
        refine q_istore [_, _, _, _, _, _] (pc := 55) dX11_hadNear_55 (by decide) rfl ?_
        refine q_iinc (nI (k + 1)) [_, _, _, _, _, _] (pc := 57) dX11_hadNear_57 rfl (by decide) (ninc 1 rfl) rfl ?_
        refine r_goto 14 (pc := 60) dX11_hadNear_60 (by decide) ?_
        exact ih (k + 1) _ (by omega) (by rw [itN_s, R_hadb, ← e_hd]; (repeat (first | rw [if_pos (by assumption)] | rw [if_neg (by assumption)]))) KK
      · refine r_iconst (v := 1) (pc := 50) dX11_hadNear_50 (by decide) ?_
        refine r_goto 55 (pc := 51) dX11_hadNear_51 (by decide) ?_
        refine q_istore [_, _, _, _, _, _] (pc := 55) dX11_hadNear_55 (by decide) rfl ?_
        refine q_iinc (nI (k + 1)) [_, _, _, _, _, _] (pc := 57) dX11_hadNear_57 rfl (by decide) (ninc 1 rfl) rfl ?_
        refine r_goto 14 (pc := 60) dX11_hadNear_60 (by decide) ?_
        exact ih (k + 1) _ (by omega) (by rw [itN_s, R_hadb, ← e_hd]; (repeat (first | rw [if_pos (by assumption)] | rw [if_neg (by assumption)]))) KK
theorem s_X11_hadNear {om : OM} {l : Launch} {B : Nat × Nat} {h0 : Hp} {I : Nat → Int32} {J : Nat → Int64} {A a v t n : Nat → Int32} (hl : l.stackTraces = false) (e K : Nat) (x d : Int32) (he : x = nI e) (he1 : e ≤ 1) (hK : A (102 + 16 * e) = nI K) (hK15 : K ≤ 15) : Runs om l M_X11_hadNear B 0 (entL 6 [.ref 119, .int x, .int d]) [] (rH h0 I J A a v t n) (Det (some (.int (R_had A (102 + 16 * e) d))) (rH h0 I J A a v t n)) := by
  show Runs om l M_X11_hadNear B 0 [some (.ref 119), some (.int x), some (.int d), none, none, none] [] _ _
  rw [show R_had A (102 + 16 * e) d = itN (R_hadb A (102 + 16 * e) d) K 0 by rw [R_had, cl_nI hK (by omega)]]
  refine r_bipush (v := 102) (pc := 0) dX11_hadNear_0 (by decide) ?_
  refine r_bipush (v := 16) (pc := 2) dX11_hadNear_2 (by decide) ?_
  refine r_iload_n (pc := 4) dX11_hadNear_4 rfl rfl ?_
  refine r_imul (pc := 5) dX11_hadNear_5 ?_
  refine r_iadd (pc := 6) dX11_hadNear_6 ?_
  refine q_istore_n [_, _, _, _, _, _] (pc := 7) dX11_hadNear_7 rfl (by decide) rfl ?_
  refine r_iconst (v := 0) (pc := 8) dX11_hadNear_8 (by decide) ?_
  refine q_istore [_, _, _, _, _, _] (pc := 9) dX11_hadNear_9 (by decide) rfl ?_
  refine r_iconst (v := 0) (pc := 11) dX11_hadNear_11 (by decide) ?_
  refine q_istore [_, _, _, _, _, _] (pc := 12) dX11_hadNear_12 (by decide) rfl ?_
  rw [show (102 : Int32) + 16 * x = nI (102 + 16 * e) from nadd rfl (nmul rfl he)]
  refine lp_had hl x d (102 + 16 * e) K (by omega) (by omega) hK hK15 K 0 _ (by omega) rfl ?_
  refine r_iload (pc := 63) dX11_hadNear_63 rfl ?_
  exact r_ireturn (S := []) (pc := 65) dX11_hadNear_65 rfl (by rcases had01 (A := A) (b := 102 + 16 * e) (d := d) K with h9 | h9 <;> rw [h9] <;> rfl) ⟨rfl, rfl⟩
theorem lp_looks {om : OM} {l : Launch} {B : Nat × Nat} {h0 : Hp} {I : Nat → Int32} {J : Nat → Int64} {A a v t n : Nat → Int32} {Post : Out → Hp → Prop} (hl : l.stackTraces = false) (K D Ka Kb : Nat) (hK : A 41 = nI K) (hK15 : K ≤ 15) (hD : A 0 = nI D) (hD1 : D ≤ 10000) (h2 : A 102 = nI Ka) (hKa : Ka ≤ 15) (h8 : A 118 = nI Kb) (hKb : Kb ≤ 15) (hnn : ∀ e, e < K → 0 ≤ A (42 + 4 * e + 1)) : ∀ (n9 k : Nat) (g : Nat → Int32), k + n9 = K → g = itN R_lookb k A → Runs om l M_X11_looks B 156 [some (.ref 119), some (.int (nI K)), none, none, none, none] [] (rH h0 I J (itN R_lookb K A) a v t n) Post → Runs om l M_X11_looks B 2 [some (.ref 119), some (.int (nI k)), none, none, none, none] [] (rH h0 I J g a v t n) Post := by
  intro n9
  induction n9 with
  | zero =>
    intro k g hk e_g KK
    have hLI := LI_looks (A := A) k (by omega)
    rw [← e_g] at hLI
    have h41g : g 41 = nI K := (hLI 41 (by omega) (by omega)).trans hK
    have hDg : g 0 = nI D := (hLI 0 (by omega) (by omega)).trans hD
    have h2g : g (102 + 16 * 0) = nI Ka := (hLI 102 (by omega) (by omega)).trans h2
    have h8g : g (102 + 16 * 1) = nI Kb := (hLI 118 (by omega) (by omega)).trans h8
    have e9 : k = K := by omega
    refine r_iload_n (pc := 2) dX11_looks_2 rfl rfl ?_
    refine r_aload_n (pc := 3) dX11_looks_3 rfl rfl ?_
    refine rs_get (pc := 4) dX11_looks_4 rfl f_RX11_7 rfl ?_
    refine r_bipush (v := 41) (pc := 7) dX11_looks_7 (by decide) ?_
    refine rs_ld (41) (pc := 9) dX11_looks_9 rfl (by omega) ?_
    refine r_icmp_ge 156 (pc := 10) dX11_looks_10 (by decide) (fun c10 => ?_) (fun c10 => absurd (c_get rfl h41g (a := k) (b := K) (by omega) (by omega) (by omega)) c10)
    subst e9
    subst e_g
    exact KK
  | succ n9 ih =>
    intro k g hk e_g KK
    have hLI := LI_looks (A := A) k (by omega)
    rw [← e_g] at hLI
    have h41g : g 41 = nI K := (hLI 41 (by omega) (by omega)).trans hK
    have hDg : g 0 = nI D := (hLI 0 (by omega) (by omega)).trans hD
    have h2g : g (102 + 16 * 0) = nI Ka := (hLI 102 (by omega) (by omega)).trans h2
    have h8g : g (102 + 16 * 1) = nI Kb := (hLI 118 (by omega) (by omega)).trans h8
    have hgd : g (42 + 4 * k + 1) = A (42 + 4 * k + 1) := hLI _ (by omega) (by omega)
    obtain ⟨x, hx31, hx⟩ := nn_ex (hnn k (by omega))
    have hgx := hgd.trans hx
    refine r_iload_n (pc := 2) dX11_looks_2 rfl rfl ?_
    refine r_aload_n (pc := 3) dX11_looks_3 rfl rfl ?_
    refine rs_get (pc := 4) dX11_looks_4 rfl f_RX11_7 rfl ?_
    refine r_bipush (v := 41) (pc := 7) dX11_looks_7 (by decide) ?_
    refine rs_ld (41) (pc := 9) dX11_looks_9 rfl (by omega) ?_
    refine r_icmp_ge 156 (pc := 10) dX11_looks_10 (by decide) (fun c10 => absurd c10 (c_gef rfl h41g (a := k) (b := K) (by omega) (by omega) (by omega))) (fun c10 => ?_)
    refine r_bipush (v := 42) (pc := 13) dX11_looks_13 (by decide) ?_
    refine r_iconst (v := 4) (pc := 15) dX11_looks_15 (by decide) ?_
    refine r_iload_n (pc := 16) dX11_looks_16 rfl rfl ?_
    refine r_imul (pc := 17) dX11_looks_17 ?_
    refine r_iadd (pc := 18) dX11_looks_18 ?_
    refine q_istore_n [_, _, _, _, _, _] (pc := 19) dX11_looks_19 rfl (by decide) rfl ?_
    refine r_aload_n (pc := 20) dX11_looks_20 rfl rfl ?_
    refine r_iload_n (pc := 21) dX11_looks_21 rfl rfl ?_
    refine rs_call (vs := [.int _]) (pc := 22) dX11_looks_22 rfl l_RX11_86 rfl rfl ⟨by decide, by decide⟩ rfl (Nat.le_of_ble_eq_true rfl) hl (Nat.le_of_ble_eq_true rfl) (s_X11_isCandidate hl (42 + 4 * k) x D _ (nadd rfl (nmul rfl rfl)) (by omega) (by omega) hgx hx31 hDg hD1) rfl ?_
    refine r_if_eq 150 (pc := 25) dX11_looks_25 (by decide) (fun c25 => ?_) (fun c25 => ?_)
    · refine q_iinc (nI (k + 1)) [_, _, _, _, _, _] (pc := 150) dX11_looks_150 rfl (by decide) (ninc 1 rfl) rfl ?_
      refine r_goto 2 (pc := 153) dX11_looks_153 (by decide) ?_
      refine r_wk [some _, some _, none, none, none, none] ⟨rfl, ⟨rfl, trivial⟩⟩ ?_
      exact ih (k + 1) _ (by omega) (by rw [itN_s, R_lookb, ← e_g]; (repeat (first | rw [if_pos (by assumption)] | rw [if_neg (by assumption)])); try rfl) KK
    · refine r_aload_n (pc := 28) dX11_looks_28 rfl rfl ?_
      refine rs_get (pc := 29) dX11_looks_29 rfl f_RX11_7 rfl ?_
      refine r_iload_n (pc := 32) dX11_looks_32 rfl rfl ?_
      refine r_iconst (v := 1) (pc := 33) dX11_looks_33 (by decide) ?_
      refine r_iadd (pc := 34) dX11_looks_34 ?_
      refine rs_ld ((42 + (4 * k)) + 1) (pc := 35) dX11_looks_35 (nadd (nadd rfl (nmul rfl rfl)) rfl) (by omega) ?_
      refine q_istore_n [_, _, _, _, _, _] (pc := 36) dX11_looks_36 rfl (by decide) rfl ?_
      refine r_join 80 (R_isBl g (g (42 + 4 * k + 1))) ?_ (fun J37 => ?_)
      · refine q_istore [_, _, _, _, _, _] (pc := 80) dX11_looks_80 (by decide) rfl ?_
        refine r_join 110 (R_isDr g (g (42 + 4 * k + 1))) ?_ (fun J82 => ?_)
        · refine q_istore [_, _, _, _, _, _] (pc := 110) dX11_looks_110 (by decide) rfl ?_
          refine r_aload_n (pc := 112) dX11_looks_112 rfl rfl ?_
          refine rs_get (pc := 113) dX11_looks_113 rfl f_RX11_7 rfl ?_
          refine r_iload_n (pc := 116) dX11_looks_116 rfl rfl ?_
          refine r_iconst (v := 3) (pc := 117) dX11_looks_117 (by decide) ?_
          refine r_iadd (pc := 118) dX11_looks_118 ?_
          refine r_join 129 (R_mark (R_isDr g (g (42 + 4 * k + 1)))) ?_ (fun J119 => ?_)
          · refine rs_st ((42 + (4 * k)) + 3) (pc := 129) dX11_looks_129 (nadd (nadd rfl (nmul rfl rfl)) rfl) (by omega) ?_
            refine r_aload_n (pc := 130) dX11_looks_130 rfl rfl ?_
            refine rs_get (pc := 131) dX11_looks_131 rfl f_RX11_7 rfl ?_
            refine r_bipush (v := 29) (pc := 134) dX11_looks_134 (by decide) ?_
            refine r_dup2 (pc := 136) dX11_looks_136 rfl rfl ?_
            refine rs_ld (29) (pc := 137) dX11_looks_137 rfl (by omega) ?_
            refine r_join 148 (R_one (R_isDr g (g (42 + 4 * k + 1)))) ?_ (fun J138 => ?_)
            · refine r_iadd (pc := 148) dX11_looks_148 ?_
              refine rs_st (29) (pc := 149) dX11_looks_149 rfl (by omega) ?_
              refine q_iinc (nI (k + 1)) [_, _, _, _, _, _] (pc := 150) dX11_looks_150 rfl (by decide) (ninc 1 rfl) rfl ?_
              refine r_goto 2 (pc := 153) dX11_looks_153 (by decide) ?_
              refine r_wk [some _, some _, none, none, none, none] ⟨rfl, ⟨rfl, trivial⟩⟩ ?_
              exact ih (k + 1) _ (by omega) (by rw [itN_s, R_lookb, ← e_g]; (repeat (first | rw [if_pos (by assumption)] | rw [if_neg (by assumption)])); try rfl) KK
            · refine r_iload (pc := 138) dX11_looks_138 rfl ?_
              refine r_if_eq 147 (pc := 140) dX11_looks_140 (by decide) (fun c140 => ?_) (fun c140 => ?_)
              · refine r_iconst (v := 0) (pc := 147) dX11_looks_147 (by decide) ?_
                exact J138 _ (by rw [R_one]; (repeat (first | rw [if_pos (by assumption)] | rw [if_neg (by assumption)])))
              · refine r_iconst (v := 1) (pc := 143) dX11_looks_143 (by decide) ?_
                refine r_goto 148 (pc := 144) dX11_looks_144 (by decide) ?_
                exact J138 _ (by rw [R_one]; (repeat (first | rw [if_pos (by assumption)] | rw [if_neg (by assumption)])))
          · refine r_iload (pc := 119) dX11_looks_119 rfl ?_
            refine r_if_eq 128 (pc := 121) dX11_looks_121 (by decide) (fun c121 => ?_) (fun c121 => ?_)
            · refine r_iconst (v := 1) (pc := 128) dX11_looks_128 (by decide) ?_
              exact J119 _ (by rw [R_mark]; (repeat (first | rw [if_pos (by assumption)] | rw [if_neg (by assumption)])))
            · refine r_iconst (v := 3) (pc := 124) dX11_looks_124 (by decide) ?_
              refine r_goto 129 (pc := 125) dX11_looks_125 (by decide) ?_
              exact J119 _ (by rw [R_mark]; (repeat (first | rw [if_pos (by assumption)] | rw [if_neg (by assumption)])))
        · refine r_iload (pc := 82) dX11_looks_82 rfl ?_
          refine r_if_eq 109 (pc := 84) dX11_looks_84 (by decide) (fun c84 => ?_) (fun c84 => ?_)
          · refine r_iconst (v := 0) (pc := 109) dX11_looks_109 (by decide) ?_
            exact J82 _ (by rw [R_isDr]; (repeat (first | rw [if_pos (by assumption)] | rw [if_neg (by assumption)])))
          · refine r_aload_n (pc := 87) dX11_looks_87 rfl rfl ?_
            refine r_iconst (v := 0) (pc := 88) dX11_looks_88 (by decide) ?_
            refine r_iload_n (pc := 89) dX11_looks_89 rfl rfl ?_
            refine rs_call (vs := [.int _, .int _]) (pc := 90) dX11_looks_90 rfl l_RX11_93 rfl rfl ⟨by decide, by decide⟩ rfl (Nat.le_of_ble_eq_true rfl) hl (Nat.le_of_ble_eq_true rfl) (s_X11_hadNear hl 0 Ka _ _ rfl (by omega) h2g hKa) rfl ?_
            refine r_if_eq 105 (pc := 93) dX11_looks_93 (by decide) (fun c93 => ?_) (fun c93 => ?_)
            · refine r_iconst (v := 1) (pc := 105) dX11_looks_105 (by decide) ?_
              refine r_goto 110 (pc := 106) dX11_looks_106 (by decide) ?_
              exact J82 _ (by rw [R_isDr]; (repeat (first | rw [if_pos (by assumption)] | rw [if_neg (by assumption)])))
            · refine r_aload_n (pc := 96) dX11_looks_96 rfl rfl ?_
              refine r_iconst (v := 1) (pc := 97) dX11_looks_97 (by decide) ?_
              refine r_iload_n (pc := 98) dX11_looks_98 rfl rfl ?_
              refine rs_call (vs := [.int _, .int _]) (pc := 99) dX11_looks_99 rfl l_RX11_93 rfl rfl ⟨by decide, by decide⟩ rfl (Nat.le_of_ble_eq_true rfl) hl (Nat.le_of_ble_eq_true rfl) (s_X11_hadNear hl 1 Kb _ _ rfl (by omega) h8g hKb) rfl ?_
              refine r_if_ne 109 (pc := 102) dX11_looks_102 (by decide) (fun c102 => ?_) (fun c102 => ?_)
              · refine r_iconst (v := 0) (pc := 109) dX11_looks_109 (by decide) ?_
                exact J82 _ (by rw [R_isDr]; (repeat (first | rw [if_pos (by assumption)] | rw [if_neg (by assumption)])))
              · refine r_iconst (v := 1) (pc := 105) dX11_looks_105 (by decide) ?_
                refine r_goto 110 (pc := 106) dX11_looks_106 (by decide) ?_
                exact J82 _ (by rw [R_isDr]; (repeat (first | rw [if_pos (by assumption)] | rw [if_neg (by assumption)])))
      · refine r_aload_n (pc := 37) dX11_looks_37 rfl rfl ?_
        refine rs_get (pc := 38) dX11_looks_38 rfl f_RX11_7 rfl ?_
        refine r_bipush (v := 16) (pc := 41) dX11_looks_41 (by decide) ?_
        refine rs_ld (16) (pc := 43) dX11_looks_43 rfl (by omega) ?_
        refine r_iconst (v := 1) (pc := 44) dX11_looks_44 (by decide) ?_
        refine r_icmp_ne 79 (pc := 45) dX11_looks_45 (by decide) (fun c45 => ?_) (fun c45 => ?_)
        · refine r_iconst (v := 0) (pc := 79) dX11_looks_79 (by decide) ?_
          exact J37 _ (by rw [R_isBl]; (repeat (first | rw [if_pos (by assumption)] | rw [if_neg (by assumption)])))
        · refine r_iload_n (pc := 48) dX11_looks_48 rfl rfl ?_
          refine r_aload_n (pc := 49) dX11_looks_49 rfl rfl ?_
          refine rs_get (pc := 50) dX11_looks_50 rfl f_RX11_7 rfl ?_
          refine r_bipush (v := 6) (pc := 53) dX11_looks_53 (by decide) ?_
          refine rs_ld (6) (pc := 55) dX11_looks_55 rfl (by omega) ?_
          refine r_bipush (v := 40) (pc := 56) dX11_looks_56 (by decide) ?_
          refine r_isub (pc := 58) dX11_looks_58 ?_
          refine r_aload_n (pc := 59) dX11_looks_59 rfl rfl ?_
          refine rs_get (pc := 60) dX11_looks_60 rfl f_RX11_7 rfl ?_
          refine r_bipush (v := 7) (pc := 63) dX11_looks_63 (by decide) ?_
          refine rs_ld (7) (pc := 65) dX11_looks_65 rfl (by omega) ?_
          refine r_bipush (v := 40) (pc := 66) dX11_looks_66 (by decide) ?_
          refine r_iadd (pc := 68) dX11_looks_68 ?_
          refine q_callS (vs := [.int _, .int _, .int _]) (pc := 69) dX11_looks_69 rfl l_RX11_89 rfl ⟨by decide, by decide⟩ rfl (Nat.le_of_ble_eq_true rfl) hl (Nat.le_of_ble_eq_true rfl) (s_X11_in _ _ _) rfl ?_
          refine r_if_eq 79 (pc := 72) dX11_looks_72 (by decide) (fun c72 => ?_) (fun c72 => ?_)
          · refine r_iconst (v := 0) (pc := 79) dX11_looks_79 (by decide) ?_
            exact J37 _ (by rw [R_isBl]; (repeat (first | rw [if_pos (by assumption)] | rw [if_neg (by assumption)])))
          · refine r_iconst (v := 1) (pc := 75) dX11_looks_75 (by decide) ?_
            refine r_goto 80 (pc := 76) dX11_looks_76 (by decide) ?_
            exact J37 _ (by rw [R_isBl]; (repeat (first | rw [if_pos (by assumption)] | rw [if_neg (by assumption)])))
theorem s_X11_looks {om : OM} {l : Launch} {B : Nat × Nat} {h0 : Hp} {I : Nat → Int32} {J : Nat → Int64} {A a v t n : Nat → Int32} (hl : l.stackTraces = false) (K D Ka Kb : Nat) (hK : A 41 = nI K) (hK15 : K ≤ 15) (hD : A 0 = nI D) (hD1 : D ≤ 10000) (h2 : A 102 = nI Ka) (hKa : Ka ≤ 15) (h8 : A 118 = nI Kb) (hKb : Kb ≤ 15) (hnn : ∀ e, e < K → 0 ≤ A (42 + 4 * e + 1)) : Runs om l M_X11_looks B 0 (entL 6 [.ref 119]) [] (rH h0 I J A a v t n) (Det (none) (rH h0 I J (R_looks A) a v t n)) := by
  show Runs om l M_X11_looks B 0 [some (.ref 119), none, none, none, none, none] [] _ _
  rw [show R_looks A = itN R_lookb K A by rw [R_looks, cl_nI hK (by omega)]]
  refine r_iconst (v := 0) (pc := 0) dX11_looks_0 (by decide) ?_
  refine q_istore_n [_, _, _, _, _, _] (pc := 1) dX11_looks_1 rfl (by decide) rfl ?_
  refine lp_looks hl K D Ka Kb hK hK15 hD hD1 h2 hKa h8 hKb hnn K 0 _ (by omega) rfl ?_
  exact r_return (S := []) (pc := 156) dX11_looks_156 rfl ⟨rfl, rfl⟩
theorem lp_rem1 {om : OM} {l : Launch} {B : Nat × Nat} {h0 : Hp} {I : Nat → Int32} {J : Nat → Int64} {A a v t n : Nat → Int32} {Post : Out → Hp → Prop}  : ∀ (n9 k : Nat) (g : Nat → Int32), k + n9 = 16 → g = R_rm1 A k → Runs om l M_X11_remembers B 42 [some (.ref 119), some (.int (nI 16)), none] [] (rH h0 I J (R_rm1 A 16) a v t n) Post → Runs om l M_X11_remembers B 2 [some (.ref 119), some (.int (nI k)), none] [] (rH h0 I J g a v t n) Post := by
  intro n9
  induction n9 with
  | zero =>
    intro k g hk e_g KK
    subst e_g
    have e9 : k = 16 := by omega
    subst e9
    refine r_iload_n (pc := 2) dX11_remembers_2 rfl rfl ?_
    refine r_bipush (v := 16) (pc := 3) dX11_remembers_3 (by decide) ?_
    refine r_icmp_ge 42 (pc := 5) dX11_remembers_5 (by decide) (fun c5 => ?_) (fun c5 => absurd (c_get rfl rfl (a := 16) (b := 16) (by omega) (by omega) (by omega)) c5)
    exact KK
  | succ n9 ih =>
    intro k g hk e_g KK
    subst e_g
    refine r_iload_n (pc := 2) dX11_remembers_2 rfl rfl ?_
    refine r_bipush (v := 16) (pc := 3) dX11_remembers_3 (by decide) ?_
    refine r_icmp_ge 42 (pc := 5) dX11_remembers_5 (by decide) (fun c5 => absurd c5 (c_gef rfl rfl (a := k) (b := 16) (by omega) (by omega) (by omega))) (fun c5 => ?_)
    refine r_aload_n (pc := 8) dX11_remembers_8 rfl rfl ?_
    refine rs_get (pc := 9) dX11_remembers_9 rfl f_RX11_7 rfl ?_
    refine r_bipush (v := 118) (pc := 12) dX11_remembers_12 (by decide) ?_
    refine r_iload_n (pc := 14) dX11_remembers_14 rfl rfl ?_
    refine r_iadd (pc := 15) dX11_remembers_15 ?_
    refine r_aload_n (pc := 16) dX11_remembers_16 rfl rfl ?_
    refine rs_get (pc := 17) dX11_remembers_17 rfl f_RX11_7 rfl ?_
    refine r_bipush (v := 102) (pc := 20) dX11_remembers_20 (by decide) ?_
    refine r_iload_n (pc := 22) dX11_remembers_22 rfl rfl ?_
    refine r_iadd (pc := 23) dX11_remembers_23 ?_
    refine rs_ld (102 + k) (pc := 24) dX11_remembers_24 (nadd rfl rfl) (by omega) ?_
    refine rs_st (118 + k) (pc := 25) dX11_remembers_25 (nadd rfl rfl) (by omega) ?_
    refine r_aload_n (pc := 26) dX11_remembers_26 rfl rfl ?_
    refine rs_get (pc := 27) dX11_remembers_27 rfl f_RX11_7 rfl ?_
    refine r_bipush (v := 102) (pc := 30) dX11_remembers_30 (by decide) ?_
    refine r_iload_n (pc := 32) dX11_remembers_32 rfl rfl ?_
    refine r_iadd (pc := 33) dX11_remembers_33 ?_
    refine r_iconst (v := 0) (pc := 34) dX11_remembers_34 (by decide) ?_
    refine rs_st (102 + k) (pc := 35) dX11_remembers_35 (nadd rfl rfl) (by omega) ?_
    refine q_iinc (nI (k + 1)) [_, _, _] (pc := 36) dX11_remembers_36 rfl (by decide) (ninc 1 rfl) rfl ?_
    refine r_goto 2 (pc := 39) dX11_remembers_39 (by decide) ?_
    exact ih (k + 1) _ (by omega) (R_rm1_s (by omega)) KK
theorem lp_rem2 {om : OM} {l : Launch} {B : Nat × Nat} {h0 : Hp} {I : Nat → Int32} {J : Nat → Int64} {A a v t n : Nat → Int32} {Post : Out → Hp → Prop} (K : Nat) (hK : A 41 = nI K) (hK15 : K ≤ 15) : ∀ (n9 k : Nat) (g : Nat → Int32), k + n9 = K → g = itN R_rmb k (R_rm1 A 16) → Runs om l M_X11_remembers B 113 [some (.ref 119), some (.int (nI K)), none] [] (rH h0 I J (itN R_rmb K (R_rm1 A 16)) a v t n) Post → Runs om l M_X11_remembers B 44 [some (.ref 119), some (.int (nI k)), none] [] (rH h0 I J g a v t n) Post := by
  intro n9
  induction n9 with
  | zero =>
    intro k g hk e_g KK
    have hM := MI2_r (A := A) k (by omega)
    rw [← e_g] at hM
    obtain ⟨⟨c, hc, hck⟩, hout⟩ := hM
    have h41g : g 41 = nI K := (hout 41 (by omega)).trans (by unfold R_rm1; rw [if_neg (by omega), if_neg (by omega)]; exact hK)
    have e9 : k = K := by omega
    refine r_iload_n (pc := 44) dX11_remembers_44 rfl rfl ?_
    refine r_aload_n (pc := 45) dX11_remembers_45 rfl rfl ?_
    refine rs_get (pc := 46) dX11_remembers_46 rfl f_RX11_7 rfl ?_
    refine r_bipush (v := 41) (pc := 49) dX11_remembers_49 (by decide) ?_
    refine rs_ld (41) (pc := 51) dX11_remembers_51 rfl (by omega) ?_
    refine r_icmp_ge 113 (pc := 52) dX11_remembers_52 (by decide) (fun c52 => ?_) (fun c52 => absurd (c_get rfl h41g (a := k) (b := K) (by omega) (by omega) (by omega)) c52)
    subst e9
    subst e_g
    exact KK
  | succ n9 ih =>
    intro k g hk e_g KK
    have hM := MI2_r (A := A) k (by omega)
    rw [← e_g] at hM
    obtain ⟨⟨c, hc, hck⟩, hout⟩ := hM
    have h41g : g 41 = nI K := (hout 41 (by omega)).trans (by unfold R_rm1; rw [if_neg (by omega), if_neg (by omega)]; exact hK)
    refine r_iload_n (pc := 44) dX11_remembers_44 rfl rfl ?_
    refine r_aload_n (pc := 45) dX11_remembers_45 rfl rfl ?_
    refine rs_get (pc := 46) dX11_remembers_46 rfl f_RX11_7 rfl ?_
    refine r_bipush (v := 41) (pc := 49) dX11_remembers_49 (by decide) ?_
    refine rs_ld (41) (pc := 51) dX11_remembers_51 rfl (by omega) ?_
    refine r_icmp_ge 113 (pc := 52) dX11_remembers_52 (by decide) (fun c52 => absurd c52 (c_gef rfl h41g (a := k) (b := K) (by omega) (by omega) (by omega))) (fun c52 => ?_)
    refine r_bipush (v := 42) (pc := 55) dX11_remembers_55 (by decide) ?_
    refine r_iconst (v := 4) (pc := 57) dX11_remembers_57 (by decide) ?_
    refine r_iload_n (pc := 58) dX11_remembers_58 rfl rfl ?_
    refine r_imul (pc := 59) dX11_remembers_59 ?_
    refine r_iadd (pc := 60) dX11_remembers_60 ?_
    refine q_istore_n [_, _, _] (pc := 61) dX11_remembers_61 rfl (by decide) rfl ?_
    refine r_aload_n (pc := 62) dX11_remembers_62 rfl rfl ?_
    refine rs_get (pc := 63) dX11_remembers_63 rfl f_RX11_7 rfl ?_
    refine r_iload_n (pc := 66) dX11_remembers_66 rfl rfl ?_
    refine r_iconst (v := 3) (pc := 67) dX11_remembers_67 (by decide) ?_
    refine r_iadd (pc := 68) dX11_remembers_68 ?_
    refine rs_ld ((42 + (4 * k)) + 3) (pc := 69) dX11_remembers_69 (nadd (nadd rfl (nmul rfl rfl)) rfl) (by omega) ?_
    refine r_if_eq 107 (pc := 70) dX11_remembers_70 (by decide) (fun c70 => ?_) (fun c70 => ?_)
    · refine q_iinc (nI (k + 1)) [_, _, _] (pc := 107) dX11_remembers_107 rfl (by decide) (ninc 1 rfl) rfl ?_
      refine r_goto 44 (pc := 110) dX11_remembers_110 (by decide) ?_
      refine r_wk [some _, some _, none] ⟨rfl, ⟨rfl, trivial⟩⟩ ?_
      exact ih (k + 1) _ (by omega) (by rw [itN_s, R_rmb, ← e_g]; (repeat (first | rw [if_pos (by assumption)] | rw [if_neg (by assumption)])); try (rw [cl_nI hc (by omega)]; rfl)) KK
    · refine r_aload_n (pc := 73) dX11_remembers_73 rfl rfl ?_
      refine rs_get (pc := 74) dX11_remembers_74 rfl f_RX11_7 rfl ?_
      refine r_bipush (v := 103) (pc := 77) dX11_remembers_77 (by decide) ?_
      refine r_aload_n (pc := 79) dX11_remembers_79 rfl rfl ?_
      refine rs_get (pc := 80) dX11_remembers_80 rfl f_RX11_7 rfl ?_
      refine r_bipush (v := 102) (pc := 83) dX11_remembers_83 (by decide) ?_
      refine rs_ld (102) (pc := 85) dX11_remembers_85 rfl (by omega) ?_
      refine r_iadd (pc := 86) dX11_remembers_86 ?_
      refine r_aload_n (pc := 87) dX11_remembers_87 rfl rfl ?_
      refine rs_get (pc := 88) dX11_remembers_88 rfl f_RX11_7 rfl ?_
      refine r_iload_n (pc := 91) dX11_remembers_91 rfl rfl ?_
      refine r_iconst (v := 1) (pc := 92) dX11_remembers_92 (by decide) ?_
      refine r_iadd (pc := 93) dX11_remembers_93 ?_
      refine rs_ld ((42 + (4 * k)) + 1) (pc := 94) dX11_remembers_94 (nadd (nadd rfl (nmul rfl rfl)) rfl) (by omega) ?_
      refine rs_st (103 + c) (pc := 95) dX11_remembers_95 (nadd rfl hc) (by omega) ?_
      refine r_aload_n (pc := 96) dX11_remembers_96 rfl rfl ?_
      refine rs_get (pc := 97) dX11_remembers_97 rfl f_RX11_7 rfl ?_
      refine r_bipush (v := 102) (pc := 100) dX11_remembers_100 (by decide) ?_
      refine r_dup2 (pc := 102) dX11_remembers_102 rfl rfl ?_
      refine rs_ld (102) (pc := 103) dX11_remembers_103 rfl (by omega) ?_
      refine r_iconst (v := 1) (pc := 104) dX11_remembers_104 (by decide) ?_
      refine r_iadd (pc := 105) dX11_remembers_105 ?_
      refine rs_st (102) (pc := 106) dX11_remembers_106 rfl (by omega) ?_
      refine q_iinc (nI (k + 1)) [_, _, _] (pc := 107) dX11_remembers_107 rfl (by decide) (ninc 1 rfl) rfl ?_
      refine r_goto 44 (pc := 110) dX11_remembers_110 (by decide) ?_
      refine r_wk [some _, some _, none] ⟨rfl, ⟨rfl, trivial⟩⟩ ?_
      exact ih (k + 1) _ (by omega) (by rw [itN_s, R_rmb, ← e_g]; (repeat (first | rw [if_pos (by assumption)] | rw [if_neg (by assumption)])); try (rw [cl_nI hc (by omega)]; rfl)) KK
theorem s_X11_remembers {om : OM} {l : Launch} {B : Nat × Nat} {h0 : Hp} {I : Nat → Int32} {J : Nat → Int64} {A a v t n : Nat → Int32} (K : Nat) (hK : A 41 = nI K) (hK15 : K ≤ 15) : Runs om l M_X11_remembers B 0 (entL 3 [.ref 119]) [] (rH h0 I J A a v t n) (Det (none) (rH h0 I J (R_remembers A) a v t n)) := by
  show Runs om l M_X11_remembers B 0 [some (.ref 119), none, none] [] _ _
  rw [show R_remembers A = itN R_rmb K (R_rm1 A 16) by rw [R_remembers, cl_nI hK (by omega)]]
  refine r_iconst (v := 0) (pc := 0) dX11_remembers_0 (by decide) ?_
  refine q_istore_n [_, _, _] (pc := 1) dX11_remembers_1 rfl (by decide) rfl ?_
  refine lp_rem1 16 0 _ (by omega) R_rm1_0.symm ?_
  refine r_iconst (v := 0) (pc := 42) dX11_remembers_42 (by decide) ?_
  refine q_istore_n [_, _, _] (pc := 43) dX11_remembers_43 rfl (by decide) rfl ?_
  refine lp_rem2 K hK hK15 K 0 _ (by omega) rfl ?_
  exact r_return (S := []) (pc := 113) dX11_remembers_113 rfl ⟨rfl, rfl⟩
theorem s_X11_isBetter {om : OM} {l : Launch} {B : Nat × Nat} {h0 : Hp} {I : Nat → Int32} {J : Nat → Int64} {A a v t n : Nat → Int32} (hl : l.stackTraces = false) (p q : Nat) (x y : Int32) (hx : x = nI p) (hy : y = nI q) (hp : 42 ≤ p) (hp2 : p ≤ 98) (hq : 42 ≤ q) (hq2 : q ≤ 98) : Runs om l M_X11_isBetter B 0 (entL 3 [.ref 119, .int x, .int y]) [] (rH h0 I J A a v t n) (Det (some (.int (R_bet A p q))) (rH h0 I J A a v t n)) := by
  show Runs om l M_X11_isBetter B 0 [some (.ref 119), some (.int x), some (.int y)] [] _ _
  refine r_aload_n (pc := 0) dX11_isBetter_0 rfl rfl ?_
  refine rs_get (pc := 1) dX11_isBetter_1 rfl f_RX11_7 rfl ?_
  refine r_bipush (v := 17) (pc := 4) dX11_isBetter_4 (by decide) ?_
  refine rs_ld (17) (pc := 6) dX11_isBetter_6 rfl (by omega) ?_
  refine r_iconst (v := 1) (pc := 7) dX11_isBetter_7 (by decide) ?_
  refine r_icmp_ne 36 (pc := 8) dX11_isBetter_8 (by decide) (fun c8 => ?_) (fun c8 => ?_)
  · refine r_aload_n (pc := 36) dX11_isBetter_36 rfl rfl ?_
    refine rs_get (pc := 37) dX11_isBetter_37 rfl f_RX11_7 rfl ?_
    refine r_bipush (v := 17) (pc := 40) dX11_isBetter_40 (by decide) ?_
    refine rs_ld (17) (pc := 42) dX11_isBetter_42 rfl (by omega) ?_
    refine r_iconst (v := 2) (pc := 43) dX11_isBetter_43 (by decide) ?_
    refine r_icmp_ne 101 (pc := 44) dX11_isBetter_44 (by decide) (fun c44 => ?_) (fun c44 => ?_)
    · refine r_iconst (v := 0) (pc := 101) dX11_isBetter_101 (by decide) ?_
      exact r_ireturn (S := []) (pc := 102) dX11_isBetter_102 rfl rfl ⟨by rw [R_bet]; (repeat (first | rw [if_pos (by assumption)] | rw [if_neg (by assumption)])), rfl⟩
    · refine r_aload_n (pc := 47) dX11_isBetter_47 rfl rfl ?_
      refine rs_get (pc := 48) dX11_isBetter_48 rfl f_RX11_7 rfl ?_
      refine r_bipush (v := 26) (pc := 51) dX11_isBetter_51 (by decide) ?_
      refine rs_ld (26) (pc := 53) dX11_isBetter_53 rfl (by omega) ?_
      refine r_iconst (v := (-1)) (pc := 54) dX11_isBetter_54 (by decide) ?_
      refine r_icmp_eq 101 (pc := 55) dX11_isBetter_55 (by decide) (fun c55 => ?_) (fun c55 => ?_)
      · refine r_iconst (v := 0) (pc := 101) dX11_isBetter_101 (by decide) ?_
        exact r_ireturn (S := []) (pc := 102) dX11_isBetter_102 rfl rfl ⟨by rw [R_bet]; (repeat (first | rw [if_pos (by assumption)] | rw [if_neg (by assumption)])), rfl⟩
      · refine r_aload_n (pc := 58) dX11_isBetter_58 rfl rfl ?_
        refine rs_get (pc := 59) dX11_isBetter_59 rfl f_RX11_7 rfl ?_
        refine r_iload_n (pc := 62) dX11_isBetter_62 rfl rfl ?_
        refine r_iconst (v := 1) (pc := 63) dX11_isBetter_63 (by decide) ?_
        refine r_iadd (pc := 64) dX11_isBetter_64 ?_
        refine rs_ld (p + 1) (pc := 65) dX11_isBetter_65 (nadd hx rfl) (by omega) ?_
        refine r_aload_n (pc := 66) dX11_isBetter_66 rfl rfl ?_
        refine rs_get (pc := 67) dX11_isBetter_67 rfl f_RX11_7 rfl ?_
        refine r_bipush (v := 26) (pc := 70) dX11_isBetter_70 (by decide) ?_
        refine rs_ld (26) (pc := 72) dX11_isBetter_72 rfl (by omega) ?_
        refine q_callS (vs := [.int _, .int _]) (pc := 73) dX11_isBetter_73 rfl l_RX11_83 rfl ⟨by decide, by decide⟩ rfl (Nat.le_of_ble_eq_true rfl) hl (Nat.le_of_ble_eq_true rfl) (s_X11_apart _ _) rfl ?_
        refine r_aload_n (pc := 76) dX11_isBetter_76 rfl rfl ?_
        refine rs_get (pc := 77) dX11_isBetter_77 rfl f_RX11_7 rfl ?_
        refine r_iload_n (pc := 80) dX11_isBetter_80 rfl rfl ?_
        refine r_iconst (v := 1) (pc := 81) dX11_isBetter_81 (by decide) ?_
        refine r_iadd (pc := 82) dX11_isBetter_82 ?_
        refine rs_ld (q + 1) (pc := 83) dX11_isBetter_83 (nadd hy rfl) (by omega) ?_
        refine r_aload_n (pc := 84) dX11_isBetter_84 rfl rfl ?_
        refine rs_get (pc := 85) dX11_isBetter_85 rfl f_RX11_7 rfl ?_
        refine r_bipush (v := 26) (pc := 88) dX11_isBetter_88 (by decide) ?_
        refine rs_ld (26) (pc := 90) dX11_isBetter_90 rfl (by omega) ?_
        refine q_callS (vs := [.int _, .int _]) (pc := 91) dX11_isBetter_91 rfl l_RX11_83 rfl ⟨by decide, by decide⟩ rfl (Nat.le_of_ble_eq_true rfl) hl (Nat.le_of_ble_eq_true rfl) (s_X11_apart _ _) rfl ?_
        refine r_icmp_ge 101 (pc := 94) dX11_isBetter_94 (by decide) (fun c94 => ?_) (fun c94 => ?_)
        · refine r_iconst (v := 0) (pc := 101) dX11_isBetter_101 (by decide) ?_
          exact r_ireturn (S := []) (pc := 102) dX11_isBetter_102 rfl rfl ⟨by rw [R_bet]; (repeat (first | rw [if_pos (by assumption)] | rw [if_neg (by assumption)])), rfl⟩
        · refine r_iconst (v := 1) (pc := 97) dX11_isBetter_97 (by decide) ?_
          refine r_goto 102 (pc := 98) dX11_isBetter_98 (by decide) ?_
          exact r_ireturn (S := []) (pc := 102) dX11_isBetter_102 rfl rfl ⟨by rw [R_bet]; (repeat (first | rw [if_pos (by assumption)] | rw [if_neg (by assumption)])), rfl⟩
  · refine r_aload_n (pc := 11) dX11_isBetter_11 rfl rfl ?_
    refine rs_get (pc := 12) dX11_isBetter_12 rfl f_RX11_7 rfl ?_
    refine r_iload_n (pc := 15) dX11_isBetter_15 rfl rfl ?_
    refine r_iconst (v := 2) (pc := 16) dX11_isBetter_16 (by decide) ?_
    refine r_iadd (pc := 17) dX11_isBetter_17 ?_
    refine rs_ld (p + 2) (pc := 18) dX11_isBetter_18 (nadd hx rfl) (by omega) ?_
    refine r_aload_n (pc := 19) dX11_isBetter_19 rfl rfl ?_
    refine rs_get (pc := 20) dX11_isBetter_20 rfl f_RX11_7 rfl ?_
    refine r_iload_n (pc := 23) dX11_isBetter_23 rfl rfl ?_
    refine r_iconst (v := 2) (pc := 24) dX11_isBetter_24 (by decide) ?_
    refine r_iadd (pc := 25) dX11_isBetter_25 ?_
    refine rs_ld (q + 2) (pc := 26) dX11_isBetter_26 (nadd hy rfl) (by omega) ?_
    refine r_icmp_le 34 (pc := 27) dX11_isBetter_27 (by decide) (fun c27 => ?_) (fun c27 => ?_)
    · refine r_iconst (v := 0) (pc := 34) dX11_isBetter_34 (by decide) ?_
      exact r_ireturn (S := []) (pc := 35) dX11_isBetter_35 rfl rfl ⟨by rw [R_bet]; (repeat (first | rw [if_pos (by assumption)] | rw [if_neg (by assumption)])), rfl⟩
    · refine r_iconst (v := 1) (pc := 30) dX11_isBetter_30 (by decide) ?_
      refine r_goto 35 (pc := 31) dX11_isBetter_31 (by decide) ?_
      exact r_ireturn (S := []) (pc := 35) dX11_isBetter_35 rfl rfl ⟨by rw [R_bet]; (repeat (first | rw [if_pos (by assumption)] | rw [if_neg (by assumption)])), rfl⟩
theorem lp_picks {om : OM} {l : Launch} {B : Nat × Nat} {h0 : Hp} {I : Nat → Int32} {J : Nat → Int64} {A a v t n : Nat → Int32} {Post : Out → Hp → Prop} (hl : l.stackTraces = false) (K : Nat) (hK : A 41 = nI K) (hK15 : K ≤ 15) : ∀ (n9 k : Nat) (b : Int32), k + n9 = K → b = R_best A k → Runs om l M_X11_picks B 60 [some (.ref 119), some (.int (R_best A K)), some (.int (nI K)), none] [] (rH h0 I J A a v t n) Post → Runs om l M_X11_picks B 4 [some (.ref 119), some (.int b), some (.int (nI k)), none] [] (rH h0 I J A a v t n) Post := by
  intro n9
  induction n9 with
  | zero =>
    intro k b hk e_b KK
    have hPI := PI_best (A := A) k
    rw [← e_b] at hPI
    have e9 : k = K := by omega
    refine r_iload_n (pc := 4) dX11_picks_4 rfl rfl ?_
    refine r_aload_n (pc := 5) dX11_picks_5 rfl rfl ?_
    refine rs_get (pc := 6) dX11_picks_6 rfl f_RX11_7 rfl ?_
    refine r_bipush (v := 41) (pc := 9) dX11_picks_9 (by decide) ?_
    refine rs_ld (41) (pc := 11) dX11_picks_11 rfl (by omega) ?_
    refine r_icmp_ge 60 (pc := 12) dX11_picks_12 (by decide) (fun c12 => ?_) (fun c12 => absurd (c_get rfl hK (a := k) (b := K) (by omega) (by omega) (by omega)) c12)
    subst e9
    subst e_b
    exact KK
  | succ n9 ih =>
    intro k b hk e_b KK
    have hPI := PI_best (A := A) k
    rw [← e_b] at hPI
    refine r_iload_n (pc := 4) dX11_picks_4 rfl rfl ?_
    refine r_aload_n (pc := 5) dX11_picks_5 rfl rfl ?_
    refine rs_get (pc := 6) dX11_picks_6 rfl f_RX11_7 rfl ?_
    refine r_bipush (v := 41) (pc := 9) dX11_picks_9 (by decide) ?_
    refine rs_ld (41) (pc := 11) dX11_picks_11 rfl (by omega) ?_
    refine r_icmp_ge 60 (pc := 12) dX11_picks_12 (by decide) (fun c12 => absurd c12 (c_gef rfl hK (a := k) (b := K) (by omega) (by omega) (by omega))) (fun c12 => ?_)
    refine r_bipush (v := 42) (pc := 15) dX11_picks_15 (by decide) ?_
    refine r_iconst (v := 4) (pc := 17) dX11_picks_17 (by decide) ?_
    refine r_iload_n (pc := 18) dX11_picks_18 rfl rfl ?_
    refine r_imul (pc := 19) dX11_picks_19 ?_
    refine r_iadd (pc := 20) dX11_picks_20 ?_
    refine q_istore_n [_, _, _, _] (pc := 21) dX11_picks_21 rfl (by decide) rfl ?_
    refine r_join 53 (R_pkb A k b) ?_ (fun J22 => ?_)
    · refine q_istore_n [_, _, _, _] (pc := 53) dX11_picks_53 rfl (by decide) rfl ?_
      refine q_iinc (nI (k + 1)) [_, _, _, _] (pc := 54) dX11_picks_54 rfl (by decide) (ninc 1 rfl) rfl ?_
      refine r_goto 4 (pc := 57) dX11_picks_57 (by decide) ?_
      refine r_wk [some _, some _, some _, none] ⟨rfl, ⟨rfl, ⟨rfl, trivial⟩⟩⟩ ?_
      exact ih (k + 1) _ (by omega) (by rw [R_best_s, ← e_b]) KK
    · refine r_aload_n (pc := 22) dX11_picks_22 rfl rfl ?_
      refine rs_get (pc := 23) dX11_picks_23 rfl f_RX11_7 rfl ?_
      refine r_iload_n (pc := 26) dX11_picks_26 rfl rfl ?_
      refine r_iconst (v := 3) (pc := 27) dX11_picks_27 (by decide) ?_
      refine r_iadd (pc := 28) dX11_picks_28 ?_
      refine rs_ld ((42 + (4 * k)) + 3) (pc := 29) dX11_picks_29 (nadd (nadd rfl (nmul rfl rfl)) rfl) (by omega) ?_
      refine r_iconst (v := 1) (pc := 30) dX11_picks_30 (by decide) ?_
      refine r_icmp_ne 52 (pc := 31) dX11_picks_31 (by decide) (fun c31 => ?_) (fun c31 => ?_)
      · refine r_iload_n (pc := 52) dX11_picks_52 rfl rfl ?_
        exact J22 _ (by rw [R_pkb]; (try rw [cl_nI he (by omega)]); (repeat (first | rw [if_pos (by assumption)] | rw [if_neg (by assumption)])); try exact (nadd rfl (nmul rfl rfl)))
      · refine r_iload_n (pc := 34) dX11_picks_34 rfl rfl ?_
        refine r_iconst (v := (-1)) (pc := 35) dX11_picks_35 (by decide) ?_
        refine r_icmp_eq 48 (pc := 36) dX11_picks_36 (by decide) (fun c36 => ?_) (fun c36 => ?_)
        · refine r_iload_n (pc := 48) dX11_picks_48 rfl rfl ?_
          refine r_goto 53 (pc := 49) dX11_picks_49 (by decide) ?_
          exact J22 _ (by rw [R_pkb]; (try rw [cl_nI he (by omega)]); (repeat (first | rw [if_pos (by assumption)] | rw [if_neg (by assumption)])); try exact (nadd rfl (nmul rfl rfl)))
        · obtain ⟨e, he1, he⟩ := hPI.resolve_left c36
          refine r_aload_n (pc := 39) dX11_picks_39 rfl rfl ?_
          refine r_iload_n (pc := 40) dX11_picks_40 rfl rfl ?_
          refine r_iload_n (pc := 41) dX11_picks_41 rfl rfl ?_
          refine rs_call (vs := [.int _, .int _]) (pc := 42) dX11_picks_42 rfl l_RX11_97 rfl rfl ⟨by decide, by decide⟩ rfl (Nat.le_of_ble_eq_true rfl) hl (Nat.le_of_ble_eq_true rfl) (s_X11_isBetter hl (42 + 4 * k) (42 + 4 * e) _ _ (nadd rfl (nmul rfl rfl)) he (by omega) (by omega) (by omega) (by omega)) rfl ?_
          refine r_if_eq 52 (pc := 45) dX11_picks_45 (by decide) (fun c45 => ?_) (fun c45 => ?_)
          · refine r_iload_n (pc := 52) dX11_picks_52 rfl rfl ?_
            exact J22 _ (by rw [R_pkb]; (try rw [cl_nI he (by omega)]); (repeat (first | rw [if_pos (by assumption)] | rw [if_neg (by assumption)])); try exact (nadd rfl (nmul rfl rfl)))
          · refine r_iload_n (pc := 48) dX11_picks_48 rfl rfl ?_
            refine r_goto 53 (pc := 49) dX11_picks_49 (by decide) ?_
            exact J22 _ (by rw [R_pkb]; (try rw [cl_nI he (by omega)]); (repeat (first | rw [if_pos (by assumption)] | rw [if_neg (by assumption)])); try exact (nadd rfl (nmul rfl rfl)))
theorem s_X11_picks {om : OM} {l : Launch} {B : Nat × Nat} {h0 : Hp} {I : Nat → Int32} {J : Nat → Int64} {A a v t n : Nat → Int32} (hl : l.stackTraces = false) (K : Nat) (hK : A 41 = nI K) (hK15 : K ≤ 15) : Runs om l M_X11_picks B 0 (entL 4 [.ref 119]) [] (rH h0 I J A a v t n) (Det (some (.int (R_picks A).2)) (rH h0 I J ((R_picks A).1) a v t n)) := by
  show Runs om l M_X11_picks B 0 [some (.ref 119), none, none, none] [] _ _
  refine r_iconst (v := (-1)) (pc := 0) dX11_picks_0 (by decide) ?_
  refine q_istore_n [_, _, _, _] (pc := 1) dX11_picks_1 rfl (by decide) rfl ?_
  refine r_iconst (v := 0) (pc := 2) dX11_picks_2 (by decide) ?_
  refine q_istore_n [_, _, _, _] (pc := 3) dX11_picks_3 rfl (by decide) rfl ?_
  refine lp_picks hl K hK hK15 K 0 _ (by omega) rfl ?_
  refine r_iload_n (pc := 60) dX11_picks_60 rfl rfl ?_
  refine r_iconst (v := (-1)) (pc := 61) dX11_picks_61 (by decide) ?_
  refine r_icmp_ne 67 (pc := 62) dX11_picks_62 (by decide) (fun c62 => ?_) (fun c62 => ?_)
  · obtain ⟨e, he1, he⟩ := (PI_best (A := A) K).resolve_left c62
    refine r_aload_n (pc := 67) dX11_picks_67 rfl rfl ?_
    refine rs_get (pc := 68) dX11_picks_68 rfl f_RX11_7 rfl ?_
    refine r_iload_n (pc := 71) dX11_picks_71 rfl rfl ?_
    refine r_iconst (v := 3) (pc := 72) dX11_picks_72 (by decide) ?_
    refine r_iadd (pc := 73) dX11_picks_73 ?_
    refine r_iconst (v := 5) (pc := 74) dX11_picks_74 (by decide) ?_
    refine rs_st ((42 + 4 * e) + 3) (pc := 75) dX11_picks_75 (nadd he rfl) (by omega) ?_
    refine r_aload_n (pc := 76) dX11_picks_76 rfl rfl ?_
    refine rs_get (pc := 77) dX11_picks_77 rfl f_RX11_7 rfl ?_
    refine r_iload_n (pc := 80) dX11_picks_80 rfl rfl ?_
    refine r_iconst (v := 1) (pc := 81) dX11_picks_81 (by decide) ?_
    refine r_iadd (pc := 82) dX11_picks_82 ?_
    refine rs_ld ((42 + 4 * e) + 1) (pc := 83) dX11_picks_83 (nadd he rfl) (by omega) ?_
    exact r_ireturn (S := []) (pc := 84) dX11_picks_84 rfl rfl ⟨(by rw [R_picks, cl_nI hK (by omega)]; (repeat (first | rw [if_pos (by assumption)] | rw [if_neg (by assumption)])); try rw [cl_nI he (by omega)]), (by rw [R_picks, cl_nI hK (by omega)]; (repeat (first | rw [if_pos (by assumption)] | rw [if_neg (by assumption)])); try rw [cl_nI he (by omega)])⟩
  · refine r_iconst (v := (-1)) (pc := 65) dX11_picks_65 (by decide) ?_
    exact r_ireturn (S := []) (pc := 66) dX11_picks_66 rfl rfl ⟨(by rw [R_picks, cl_nI hK (by omega)]; (repeat (first | rw [if_pos (by assumption)] | rw [if_neg (by assumption)])); try rw [cl_nI he (by omega)]), (by rw [R_picks, cl_nI hK (by omega)]; (repeat (first | rw [if_pos (by assumption)] | rw [if_neg (by assumption)])); try rw [cl_nI he (by omega)])⟩
theorem lp_medin {om : OM} {l : Launch} {B : Nat × Nat} {h0 : Hp} {I : Nat → Int32} {J : Nat → Int64} {A a v t n : Nat → Int32} {Post : Out → Hp → Prop} (nn : Int32) (K : Nat) (hK : A 31 = nI K) (hK9 : K ≤ 9) (kk : Nat) (hkk : kk < 9) : ∀ (n9 k : Nat) (ls : Int32) (sm : Int32), k + n9 = K → ls = itN (R_lessb A kk) k 0 → sm = itN (R_sameb A kk) k 0 → Runs om l M_X11_median B 135 [some (.ref 119), some (.int nn), some (.int (nI kk)), some (.int (itN (R_lessb A kk) K 0)), some (.int (itN (R_sameb A kk) K 0)), some (.int (nI K))] [] (rH h0 I J A a v t n) Post → Runs om l M_X11_median B 41 [some (.ref 119), some (.int nn), some (.int (nI kk)), some (.int ls), some (.int sm), some (.int (nI k))] [] (rH h0 I J A a v t n) Post := by
  intro n9
  induction n9 with
  | zero =>
    intro k ls sm hk e_ls e_sm KK
    have e9 : k = K := by omega
    refine r_iload (pc := 41) dX11_median_41 rfl ?_
    refine r_aload_n (pc := 43) dX11_median_43 rfl rfl ?_
    refine rs_get (pc := 44) dX11_median_44 rfl f_RX11_7 rfl ?_
    refine r_bipush (v := 31) (pc := 47) dX11_median_47 (by decide) ?_
    refine rs_ld (31) (pc := 49) dX11_median_49 rfl (by omega) ?_
    refine r_icmp_ge 135 (pc := 50) dX11_median_50 (by decide) (fun c50 => ?_) (fun c50 => absurd (c_get rfl hK (a := k) (b := K) (by omega) (by omega) (by omega)) c50)
    subst e9
    subst e_ls
    subst e_sm
    exact KK
  | succ n9 ih =>
    intro k ls sm hk e_ls e_sm KK
    refine r_iload (pc := 41) dX11_median_41 rfl ?_
    refine r_aload_n (pc := 43) dX11_median_43 rfl rfl ?_
    refine rs_get (pc := 44) dX11_median_44 rfl f_RX11_7 rfl ?_
    refine r_bipush (v := 31) (pc := 47) dX11_median_47 (by decide) ?_
    refine rs_ld (31) (pc := 49) dX11_median_49 rfl (by omega) ?_
    refine r_icmp_ge 135 (pc := 50) dX11_median_50 (by decide) (fun c50 => absurd c50 (c_gef rfl hK (a := k) (b := K) (by omega) (by omega) (by omega))) (fun c50 => ?_)
    refine r_iload_n (pc := 53) dX11_median_53 rfl rfl ?_
    refine r_join 95 (R_l1 A kk k) ?_ (fun J54 => ?_)
    · refine r_iadd (pc := 95) dX11_median_95 ?_
      refine q_istore_n [_, _, _, _, _, _] (pc := 96) dX11_median_96 rfl (by decide) rfl ?_
      refine r_iload (pc := 97) dX11_median_97 rfl ?_
      refine r_join 126 (R_s1 A kk k) ?_ (fun J99 => ?_)
      · refine r_iadd (pc := 126) dX11_median_126 ?_
        refine q_istore [_, _, _, _, _, _] (pc := 127) dX11_median_127 (by decide) rfl ?_
        refine q_iinc (nI (k + 1)) [_, _, _, _, _, _] (pc := 129) dX11_median_129 rfl (by decide) (ninc 1 rfl) rfl ?_
        refine r_goto 41 (pc := 132) dX11_median_132 (by decide) ?_
        exact ih (k + 1) _ _ (by omega) (by rw [itN_s, R_lessb, ← e_ls]; (repeat (first | rw [if_pos (by assumption)] | rw [if_neg (by assumption)]))) (by rw [itN_s, R_sameb, ← e_sm]; (repeat (first | rw [if_pos (by assumption)] | rw [if_neg (by assumption)]))) KK
      · refine r_aload_n (pc := 99) dX11_median_99 rfl rfl ?_
        refine rs_get (pc := 100) dX11_median_100 rfl f_RX11_7 rfl ?_
        refine r_bipush (v := 32) (pc := 103) dX11_median_103 (by decide) ?_
        refine r_iload (pc := 105) dX11_median_105 rfl ?_
        refine r_iadd (pc := 107) dX11_median_107 ?_
        refine rs_ld (32 + k) (pc := 108) dX11_median_108 (nadd rfl rfl) (by omega) ?_
        refine r_aload_n (pc := 109) dX11_median_109 rfl rfl ?_
        refine rs_get (pc := 110) dX11_median_110 rfl f_RX11_7 rfl ?_
        refine r_bipush (v := 32) (pc := 113) dX11_median_113 (by decide) ?_
        refine r_iload_n (pc := 115) dX11_median_115 rfl rfl ?_
        refine r_iadd (pc := 116) dX11_median_116 ?_
        refine rs_ld (32 + kk) (pc := 117) dX11_median_117 (nadd rfl rfl) (by omega) ?_
        refine r_icmp_ne 125 (pc := 118) dX11_median_118 (by decide) (fun c118 => ?_) (fun c118 => ?_)
        · refine r_iconst (v := 0) (pc := 125) dX11_median_125 (by decide) ?_
          exact J99 _ (by rw [R_s1]; (repeat (first | rw [if_pos (by assumption)] | rw [if_neg (by assumption)])))
        · refine r_iconst (v := 1) (pc := 121) dX11_median_121 (by decide) ?_
          refine r_goto 126 (pc := 122) dX11_median_122 (by decide) ?_
          exact J99 _ (by rw [R_s1]; (repeat (first | rw [if_pos (by assumption)] | rw [if_neg (by assumption)])))
    · refine r_aload_n (pc := 54) dX11_median_54 rfl rfl ?_
      refine rs_get (pc := 55) dX11_median_55 rfl f_RX11_7 rfl ?_
      refine r_bipush (v := 32) (pc := 58) dX11_median_58 (by decide) ?_
      refine r_iload (pc := 60) dX11_median_60 rfl ?_
      refine r_iadd (pc := 62) dX11_median_62 ?_
      refine rs_ld (32 + k) (pc := 63) dX11_median_63 (nadd rfl rfl) (by omega) ?_
      refine r_iconst (v := (-1)) (pc := 64) dX11_median_64 (by decide) ?_
      refine r_icmp_eq 94 (pc := 65) dX11_median_65 (by decide) (fun c65 => ?_) (fun c65 => ?_)
      · refine r_iconst (v := 0) (pc := 94) dX11_median_94 (by decide) ?_
        exact J54 _ (by rw [R_l1]; (repeat (first | rw [if_pos (by assumption)] | rw [if_neg (by assumption)])))
      · refine r_aload_n (pc := 68) dX11_median_68 rfl rfl ?_
        refine rs_get (pc := 69) dX11_median_69 rfl f_RX11_7 rfl ?_
        refine r_bipush (v := 32) (pc := 72) dX11_median_72 (by decide) ?_
        refine r_iload (pc := 74) dX11_median_74 rfl ?_
        refine r_iadd (pc := 76) dX11_median_76 ?_
        refine rs_ld (32 + k) (pc := 77) dX11_median_77 (nadd rfl rfl) (by omega) ?_
        refine r_aload_n (pc := 78) dX11_median_78 rfl rfl ?_
        refine rs_get (pc := 79) dX11_median_79 rfl f_RX11_7 rfl ?_
        refine r_bipush (v := 32) (pc := 82) dX11_median_82 (by decide) ?_
        refine r_iload_n (pc := 84) dX11_median_84 rfl rfl ?_
        refine r_iadd (pc := 85) dX11_median_85 ?_
        refine rs_ld (32 + kk) (pc := 86) dX11_median_86 (nadd rfl rfl) (by omega) ?_
        refine r_icmp_ge 94 (pc := 87) dX11_median_87 (by decide) (fun c87 => ?_) (fun c87 => ?_)
        · refine r_iconst (v := 0) (pc := 94) dX11_median_94 (by decide) ?_
          exact J54 _ (by rw [R_l1]; (repeat (first | rw [if_pos (by assumption)] | rw [if_neg (by assumption)])))
        · refine r_iconst (v := 1) (pc := 90) dX11_median_90 (by decide) ?_
          refine r_goto 95 (pc := 91) dX11_median_91 (by decide) ?_
          exact J54 _ (by rw [R_l1]; (repeat (first | rw [if_pos (by assumption)] | rw [if_neg (by assumption)])))
theorem lp_med {om : OM} {l : Launch} {B : Nat × Nat} {h0 : Hp} {I : Nat → Int32} {J : Nat → Int64} {A a v t n : Nat → Int32} (nn : Int32) (K : Nat) (hK : A 31 = nI K) (hK9 : K ≤ 9) : ∀ (n9 k : Nat), k + n9 = K → Runs om l M_X11_median B 22 [some (.ref 119), some (.int nn), some (.int (nI k)), none, none, none] [] (rH h0 I J A a v t n) (Det (some (.int (R_medl A K nn n9 k))) (rH h0 I J A a v t n)) := by
  intro n9
  induction n9 with
  | zero =>
    intro k hk
    refine r_iload_n (pc := 22) dX11_median_22 rfl rfl ?_
    refine r_aload_n (pc := 23) dX11_median_23 rfl rfl ?_
    refine rs_get (pc := 24) dX11_median_24 rfl f_RX11_7 rfl ?_
    refine r_bipush (v := 31) (pc := 27) dX11_median_27 (by decide) ?_
    refine rs_ld (31) (pc := 29) dX11_median_29 rfl (by omega) ?_
    refine r_icmp_ge 186 (pc := 30) dX11_median_30 (by decide) (fun c30 => ?_) (fun c30 => absurd (c_get rfl hK (a := k) (b := K) (by omega) (by omega) (by omega)) c30)
    refine r_iconst (v := (-1)) (pc := 186) dX11_median_186 (by decide) ?_
    exact r_ireturn (S := []) (pc := 187) dX11_median_187 rfl rfl ⟨rfl, rfl⟩
  | succ n9 ih =>
    intro k hk
    refine r_iload_n (pc := 22) dX11_median_22 rfl rfl ?_
    refine r_aload_n (pc := 23) dX11_median_23 rfl rfl ?_
    refine rs_get (pc := 24) dX11_median_24 rfl f_RX11_7 rfl ?_
    refine r_bipush (v := 31) (pc := 27) dX11_median_27 (by decide) ?_
    refine rs_ld (31) (pc := 29) dX11_median_29 rfl (by omega) ?_
    refine r_icmp_ge 186 (pc := 30) dX11_median_30 (by decide) (fun c30 => absurd c30 (c_gef rfl hK (a := k) (b := K) (by omega) (by omega) (by omega))) (fun c30 => ?_)
    refine r_iconst (v := 0) (pc := 33) dX11_median_33 (by decide) ?_
    refine q_istore_n [_, _, _, _, _, _] (pc := 34) dX11_median_34 rfl (by decide) rfl ?_
    refine r_iconst (v := 0) (pc := 35) dX11_median_35 (by decide) ?_
    refine q_istore [_, _, _, _, _, _] (pc := 36) dX11_median_36 (by decide) rfl ?_
    refine r_iconst (v := 0) (pc := 38) dX11_median_38 (by decide) ?_
    refine q_istore [_, _, _, _, _, _] (pc := 39) dX11_median_39 (by decide) rfl ?_
    refine lp_medin nn K hK hK9 k (by omega) K 0 _ _ (by omega) rfl rfl ?_
    refine r_iload_n (pc := 135) dX11_median_135 rfl rfl ?_
    refine r_iconst (v := 1) (pc := 136) dX11_median_136 (by decide) ?_
    refine r_isub (pc := 137) dX11_median_137 ?_
    refine r_iconst (v := 2) (pc := 138) dX11_median_138 (by decide) ?_
    refine r_idiv (pc := 139) dX11_median_139 (by decide) ?_
    refine q_istore [_, _, _, _, _, _] (pc := 140) dX11_median_140 (by decide) rfl ?_
    refine r_aload_n (pc := 142) dX11_median_142 rfl rfl ?_
    refine rs_get (pc := 143) dX11_median_143 rfl f_RX11_7 rfl ?_
    refine r_bipush (v := 32) (pc := 146) dX11_median_146 (by decide) ?_
    refine r_iload_n (pc := 148) dX11_median_148 rfl rfl ?_
    refine r_iadd (pc := 149) dX11_median_149 ?_
    refine rs_ld (32 + k) (pc := 150) dX11_median_150 (nadd rfl rfl) (by omega) ?_
    refine r_iconst (v := (-1)) (pc := 151) dX11_median_151 (by decide) ?_
    refine r_icmp_eq 180 (pc := 152) dX11_median_152 (by decide) (fun c152 => ?_) (fun c152 => ?_)
    · refine q_iinc (nI (k + 1)) [_, _, _, _, _, _] (pc := 180) dX11_median_180 rfl (by decide) (ninc 1 rfl) rfl ?_
      refine r_goto 22 (pc := 183) dX11_median_183 (by decide) ?_
      rw [show R_medl A K nn (n9 + 1) k = R_medl A K nn n9 (k + 1) by rw [R_medl]; (repeat (first | rw [if_pos (by assumption)] | rw [if_neg (by assumption)]))]
      exact r_wk [some _, some _, some _, none, none, none] ⟨rfl, rfl, rfl, trivial⟩ (ih (k + 1) (by omega))
    · refine r_iload_n (pc := 155) dX11_median_155 rfl rfl ?_
      refine r_iload (pc := 156) dX11_median_156 rfl ?_
      refine r_icmp_gt 180 (pc := 158) dX11_median_158 (by decide) (fun c158 => ?_) (fun c158 => ?_)
      · refine q_iinc (nI (k + 1)) [_, _, _, _, _, _] (pc := 180) dX11_median_180 rfl (by decide) (ninc 1 rfl) rfl ?_
        refine r_goto 22 (pc := 183) dX11_median_183 (by decide) ?_
        rw [show R_medl A K nn (n9 + 1) k = R_medl A K nn n9 (k + 1) by rw [R_medl]; (repeat (first | rw [if_pos (by assumption)] | rw [if_neg (by assumption)]))]
        exact r_wk [some _, some _, some _, none, none, none] ⟨rfl, rfl, rfl, trivial⟩ (ih (k + 1) (by omega))
      · refine r_iload (pc := 161) dX11_median_161 rfl ?_
        refine r_iload_n (pc := 163) dX11_median_163 rfl rfl ?_
        refine r_iload (pc := 164) dX11_median_164 rfl ?_
        refine r_iadd (pc := 166) dX11_median_166 ?_
        refine r_icmp_ge 180 (pc := 167) dX11_median_167 (by decide) (fun c167 => ?_) (fun c167 => ?_)
        · refine q_iinc (nI (k + 1)) [_, _, _, _, _, _] (pc := 180) dX11_median_180 rfl (by decide) (ninc 1 rfl) rfl ?_
          refine r_goto 22 (pc := 183) dX11_median_183 (by decide) ?_
          rw [show R_medl A K nn (n9 + 1) k = R_medl A K nn n9 (k + 1) by rw [R_medl]; (repeat (first | rw [if_pos (by assumption)] | rw [if_neg (by assumption)]))]
          exact r_wk [some _, some _, some _, none, none, none] ⟨rfl, rfl, rfl, trivial⟩ (ih (k + 1) (by omega))
        · refine r_aload_n (pc := 170) dX11_median_170 rfl rfl ?_
          refine rs_get (pc := 171) dX11_median_171 rfl f_RX11_7 rfl ?_
          refine r_bipush (v := 32) (pc := 174) dX11_median_174 (by decide) ?_
          refine r_iload_n (pc := 176) dX11_median_176 rfl rfl ?_
          refine r_iadd (pc := 177) dX11_median_177 ?_
          refine rs_ld (32 + k) (pc := 178) dX11_median_178 (nadd rfl rfl) (by omega) ?_
          exact r_ireturn (S := []) (pc := 179) dX11_median_179 rfl rfl ⟨by rw [R_medl]; (repeat (first | rw [if_pos (by assumption)] | rw [if_neg (by assumption)])), rfl⟩
theorem s_X11_median {om : OM} {l : Launch} {B : Nat × Nat} {h0 : Hp} {I : Nat → Int32} {J : Nat → Int64} {A a v t n : Nat → Int32} (hl : l.stackTraces = false) (K : Nat) (hK : A 31 = nI K) (hK9 : K ≤ 9) : Runs om l M_X11_median B 0 (entL 6 [.ref 119]) [] (rH h0 I J A a v t n) (Det (some (.int (R_median A))) (rH h0 I J A a v t n)) := by
  show Runs om l M_X11_median B 0 [some (.ref 119), none, none, none, none, none] [] _ _
  refine r_aload_n (pc := 0) dX11_median_0 rfl rfl ?_
  refine rs_call (vs := []) (pc := 1) dX11_median_1 rfl l_RX11_100 rfl rfl ⟨by decide, by decide⟩ rfl (Nat.le_of_ble_eq_true rfl) hl (Nat.le_of_ble_eq_true rfl) (s_X11_kept K hK hK9) rfl ?_
  refine q_istore_n [_, _, _, _, _, _] (pc := 4) dX11_median_4 rfl (by decide) rfl ?_
  refine r_iconst (v := 2) (pc := 5) dX11_median_5 (by decide) ?_
  refine r_iload_n (pc := 6) dX11_median_6 rfl rfl ?_
  refine r_imul (pc := 7) dX11_median_7 ?_
  refine r_aload_n (pc := 8) dX11_median_8 rfl rfl ?_
  refine rs_get (pc := 9) dX11_median_9 rfl f_RX11_7 rfl ?_
  refine r_bipush (v := 18) (pc := 12) dX11_median_12 (by decide) ?_
  refine rs_ld (18) (pc := 14) dX11_median_14 rfl (by omega) ?_
  refine r_icmp_ge 20 (pc := 15) dX11_median_15 (by decide) (fun c15 => ?_) (fun c15 => ?_)
  · refine r_iconst (v := 0) (pc := 20) dX11_median_20 (by decide) ?_
    refine q_istore_n [_, _, _, _, _, _] (pc := 21) dX11_median_21 rfl (by decide) rfl ?_
    rw [show R_median A = R_medl A K (R_kp A K) K 0 by rw [R_median, cl_nI hK (by omega)]; (repeat (first | rw [if_pos (by assumption)] | rw [if_neg (by assumption)]))]
    exact lp_med _ K hK hK9 K 0 (by omega)
  · refine r_iconst (v := (-1)) (pc := 18) dX11_median_18 (by decide) ?_
    exact r_ireturn (S := []) (pc := 19) dX11_median_19 rfl rfl ⟨by rw [R_median, cl_nI hK (by omega)]; (repeat (first | rw [if_pos (by assumption)] | rw [if_neg (by assumption)])), rfl⟩
theorem lp_wipe {om : OM} {l : Launch} {B : Nat × Nat} {h0 : Hp} {I : Nat → Int32} {J : Nat → Int64} {A a v t n : Nat → Int32} {Post : Out → Hp → Prop} (m : Int32) : ∀ (n9 k : Nat) (g : Nat → Int32), k + n9 = 9 → g = R_wipe A k → Runs om l M_X11_tells B 70 [some (.ref 119), some (.int m), some (.int (nI 9))] [] (rH h0 I J (R_wipe A 9) a v t n) Post → Runs om l M_X11_tells B 48 [some (.ref 119), some (.int m), some (.int (nI k))] [] (rH h0 I J g a v t n) Post := by
  intro n9
  induction n9 with
  | zero =>
    intro k g hk e_g KK
    subst e_g
    have e9 : k = 9 := by omega
    subst e9
    refine r_iload_n (pc := 48) dX11_tells_48 rfl rfl ?_
    refine r_bipush (v := 9) (pc := 49) dX11_tells_49 (by decide) ?_
    refine r_icmp_ge 70 (pc := 51) dX11_tells_51 (by decide) (fun c51 => ?_) (fun c51 => absurd (c_get rfl rfl (a := 9) (b := 9) (by omega) (by omega) (by omega)) c51)
    exact KK
  | succ n9 ih =>
    intro k g hk e_g KK
    subst e_g
    refine r_iload_n (pc := 48) dX11_tells_48 rfl rfl ?_
    refine r_bipush (v := 9) (pc := 49) dX11_tells_49 (by decide) ?_
    refine r_icmp_ge 70 (pc := 51) dX11_tells_51 (by decide) (fun c51 => absurd c51 (c_gef rfl rfl (a := k) (b := 9) (by omega) (by omega) (by omega))) (fun c51 => ?_)
    refine r_aload_n (pc := 54) dX11_tells_54 rfl rfl ?_
    refine rs_get (pc := 55) dX11_tells_55 rfl f_RX11_7 rfl ?_
    refine r_bipush (v := 32) (pc := 58) dX11_tells_58 (by decide) ?_
    refine r_iload_n (pc := 60) dX11_tells_60 rfl rfl ?_
    refine r_iadd (pc := 61) dX11_tells_61 ?_
    refine r_iconst (v := (-1)) (pc := 62) dX11_tells_62 (by decide) ?_
    refine rs_st (32 + k) (pc := 63) dX11_tells_63 (nadd rfl rfl) (by omega) ?_
    refine q_iinc (nI (k + 1)) [_, _, _] (pc := 64) dX11_tells_64 rfl (by decide) (ninc 1 rfl) rfl ?_
    refine r_goto 48 (pc := 67) dX11_tells_67 (by decide) ?_
    exact ih (k + 1) _ (by omega) R_wipe_s KK
theorem s_X11_tells {om : OM} {l : Launch} {B : Nat × Nat} {h0 : Hp} {I : Nat → Int32} {J : Nat → Int64} {A a v t n : Nat → Int32} (hl : l.stackTraces = false) (K : Nat) (hK : A 31 = nI K) (hK9 : K ≤ 9) (h19 : ¬ A 19 = 0) : Runs om l M_X11_tells B 0 (entL 3 [.ref 119]) [] (rH h0 I J A a v t n) (Det (none) (rH h0 I J (R_tells A) a v t n)) := by
  show Runs om l M_X11_tells B 0 [some (.ref 119), none, none] [] _ _
  refine r_aload_n (pc := 0) dX11_tells_0 rfl rfl ?_
  refine rs_call (vs := []) (pc := 1) dX11_tells_1 rfl l_RX11_103 rfl rfl ⟨by decide, by decide⟩ rfl (Nat.le_of_ble_eq_true rfl) hl (Nat.le_of_ble_eq_true rfl) (s_X11_median hl K hK hK9) rfl ?_
  refine q_istore_n [_, _, _] (pc := 4) dX11_tells_4 rfl (by decide) rfl ?_
  refine r_iload_n (pc := 5) dX11_tells_5 rfl rfl ?_
  refine r_iconst (v := (-1)) (pc := 6) dX11_tells_6 (by decide) ?_
  refine r_icmp_ne 71 (pc := 7) dX11_tells_7 (by decide) (fun c7 => ?_) (fun c7 => ?_)
  · refine r_aload_n (pc := 71) dX11_tells_71 rfl rfl ?_
    refine rs_get (pc := 72) dX11_tells_72 rfl f_RX11_7 rfl ?_
    refine r_bipush (v := 27) (pc := 75) dX11_tells_75 (by decide) ?_
    refine r_iconst (v := 0) (pc := 77) dX11_tells_77 (by decide) ?_
    refine rs_st (27) (pc := 78) dX11_tells_78 rfl (by omega) ?_
    refine r_join 119 (R_then (upd A 27 0) (R_median A)) ?_ (fun J79 => ?_)
    · refine q_istore_n [_, _, _] (pc := 119) dX11_tells_119 rfl (by decide) rfl ?_
      refine r_aload_n (pc := 120) dX11_tells_120 rfl rfl ?_
      refine rs_get (pc := 121) dX11_tells_121 rfl f_RX11_7 rfl ?_
      refine r_bipush (v := 26) (pc := 124) dX11_tells_124 (by decide) ?_
      refine r_join 142 (R_tl (upd A 27 0) (R_median A)) ?_ (fun J126 => ?_)
      · refine rs_st (26) (pc := 142) dX11_tells_142 rfl (by omega) ?_
        exact r_return (S := []) (pc := 143) dX11_tells_143 rfl ⟨rfl, by rw [R_tells]; (repeat (first | rw [if_pos (by assumption)] | rw [if_neg (by assumption)])); try rfl⟩
      · refine r_iload_n (pc := 126) dX11_tells_126 rfl rfl ?_
        refine r_aload_n (pc := 127) dX11_tells_127 rfl rfl ?_
        refine rs_get (pc := 128) dX11_tells_128 rfl f_RX11_7 rfl ?_
        refine r_bipush (v := 26) (pc := 131) dX11_tells_131 (by decide) ?_
        refine rs_ld (26) (pc := 133) dX11_tells_133 rfl (by omega) ?_
        refine r_icmp_ne 141 (pc := 134) dX11_tells_134 (by decide) (fun c134 => ?_) (fun c134 => ?_)
        · refine r_iload_n (pc := 141) dX11_tells_141 rfl rfl ?_
          exact J126 _ (by rw [R_tl]; (repeat (first | rw [if_pos (by assumption)] | rw [if_neg (by assumption)])))
        · refine r_iload_n (pc := 137) dX11_tells_137 rfl rfl ?_
          refine r_goto 142 (pc := 138) dX11_tells_138 (by decide) ?_
          exact J126 _ (by rw [R_tl]; (repeat (first | rw [if_pos (by assumption)] | rw [if_neg (by assumption)])))
    · refine r_aload_n (pc := 79) dX11_tells_79 rfl rfl ?_
      refine rs_get (pc := 80) dX11_tells_80 rfl f_RX11_7 rfl ?_
      refine r_bipush (v := 26) (pc := 83) dX11_tells_83 (by decide) ?_
      refine rs_ld (26) (pc := 85) dX11_tells_85 rfl (by omega) ?_
      refine r_iconst (v := (-1)) (pc := 86) dX11_tells_86 (by decide) ?_
      refine r_icmp_ne 94 (pc := 87) dX11_tells_87 (by decide) (fun c87 => ?_) (fun c87 => ?_)
      · refine r_aload_n (pc := 94) dX11_tells_94 rfl rfl ?_
        refine rs_get (pc := 95) dX11_tells_95 rfl f_RX11_7 rfl ?_
        refine r_bipush (v := 26) (pc := 98) dX11_tells_98 (by decide) ?_
        refine rs_ld (26) (pc := 100) dX11_tells_100 rfl (by omega) ?_
        refine r_iload_n (pc := 101) dX11_tells_101 rfl rfl ?_
        refine r_aload_n (pc := 102) dX11_tells_102 rfl rfl ?_
        refine rs_get (pc := 103) dX11_tells_103 rfl f_RX11_7 rfl ?_
        refine r_bipush (v := 26) (pc := 106) dX11_tells_106 (by decide) ?_
        refine rs_ld (26) (pc := 108) dX11_tells_108 rfl (by omega) ?_
        refine r_isub (pc := 109) dX11_tells_109 ?_
        refine r_aload_n (pc := 110) dX11_tells_110 rfl rfl ?_
        refine rs_get (pc := 111) dX11_tells_111 rfl f_RX11_7 rfl ?_
        refine r_bipush (v := 19) (pc := 114) dX11_tells_114 (by decide) ?_
        refine rs_ld (19) (pc := 116) dX11_tells_116 rfl (by omega) ?_
        refine r_idiv (pc := 117) dX11_tells_117 (by rw [upd_n (by decide)]; exact h19) ?_
        refine r_iadd (pc := 118) dX11_tells_118 ?_
        exact J79 _ (by rw [R_then]; (repeat (first | rw [if_pos (by assumption)] | rw [if_neg (by assumption)])))
      · refine r_iload_n (pc := 90) dX11_tells_90 rfl rfl ?_
        refine r_goto 119 (pc := 91) dX11_tells_91 (by decide) ?_
        exact J79 _ (by rw [R_then]; (repeat (first | rw [if_pos (by assumption)] | rw [if_neg (by assumption)])))
  · refine r_aload_n (pc := 10) dX11_tells_10 rfl rfl ?_
    refine rs_get (pc := 11) dX11_tells_11 rfl f_RX11_7 rfl ?_
    refine r_bipush (v := 27) (pc := 14) dX11_tells_14 (by decide) ?_
    refine r_dup2 (pc := 16) dX11_tells_16 rfl rfl ?_
    refine rs_ld (27) (pc := 17) dX11_tells_17 rfl (by omega) ?_
    refine r_iconst (v := 1) (pc := 18) dX11_tells_18 (by decide) ?_
    refine r_iadd (pc := 19) dX11_tells_19 ?_
    refine rs_st (27) (pc := 20) dX11_tells_20 rfl (by omega) ?_
    refine r_aload_n (pc := 21) dX11_tells_21 rfl rfl ?_
    refine rs_get (pc := 22) dX11_tells_22 rfl f_RX11_7 rfl ?_
    refine r_bipush (v := 27) (pc := 25) dX11_tells_25 (by decide) ?_
    refine rs_ld (27) (pc := 27) dX11_tells_27 rfl (by omega) ?_
    refine r_aload_n (pc := 28) dX11_tells_28 rfl rfl ?_
    refine rs_get (pc := 29) dX11_tells_29 rfl f_RX11_7 rfl ?_
    refine r_bipush (v := 20) (pc := 32) dX11_tells_32 (by decide) ?_
    refine rs_ld (20) (pc := 34) dX11_tells_34 rfl (by omega) ?_
    refine r_icmp_ne 70 (pc := 35) dX11_tells_35 (by decide) (fun c35 => ?_) (fun c35 => ?_)
    · exact r_return (S := []) (pc := 70) dX11_tells_70 rfl ⟨rfl, by rw [R_tells]; (repeat (first | rw [if_pos (by assumption)] | rw [if_neg (by assumption)])); try rfl⟩
    · refine r_aload_n (pc := 38) dX11_tells_38 rfl rfl ?_
      refine rs_get (pc := 39) dX11_tells_39 rfl f_RX11_7 rfl ?_
      refine r_bipush (v := 26) (pc := 42) dX11_tells_42 (by decide) ?_
      refine r_iconst (v := (-1)) (pc := 44) dX11_tells_44 (by decide) ?_
      refine rs_st (26) (pc := 45) dX11_tells_45 rfl (by omega) ?_
      refine r_iconst (v := 0) (pc := 46) dX11_tells_46 (by decide) ?_
      refine q_istore_n [_, _, _] (pc := 47) dX11_tells_47 rfl (by decide) rfl ?_
      refine lp_wipe _ 9 0 _ (by omega) R_wipe_0.symm ?_
      exact r_return (S := []) (pc := 70) dX11_tells_70 rfl ⟨rfl, by rw [R_tells]; (repeat (first | rw [if_pos (by assumption)] | rw [if_neg (by assumption)])); try rfl⟩
theorem s_X11_alarms {om : OM} {l : Launch} {B : Nat × Nat} {h0 : Hp} {I : Nat → Int32} {J : Nat → Int64} {A a v t n : Nat → Int32}  : Runs om l M_X11_alarms B 0 (entL 3 [.ref 119]) [] (rH h0 I J A a v t n) (Det (none) (rH h0 I J (R_alarms A) a v t n)) := by
  show Runs om l M_X11_alarms B 0 [some (.ref 119), none, none] [] _ _
  refine r_aload_n (pc := 0) dX11_alarms_0 rfl rfl ?_
  refine rs_get (pc := 1) dX11_alarms_1 rfl f_RX11_7 rfl ?_
  refine r_bipush (v := 28) (pc := 4) dX11_alarms_4 (by decide) ?_
  refine rs_ld (28) (pc := 6) dX11_alarms_6 rfl (by omega) ?_
  refine q_istore_n [_, _, _] (pc := 7) dX11_alarms_7 rfl (by decide) rfl ?_
  refine r_aload_n (pc := 8) dX11_alarms_8 rfl rfl ?_
  refine rs_get (pc := 9) dX11_alarms_9 rfl f_RX11_7 rfl ?_
  refine r_iconst (v := 0) (pc := 12) dX11_alarms_12 (by decide) ?_
  refine rs_ld (0) (pc := 13) dX11_alarms_13 rfl (by omega) ?_
  refine r_aload_n (pc := 14) dX11_alarms_14 rfl rfl ?_
  refine rs_get (pc := 15) dX11_alarms_15 rfl f_RX11_7 rfl ?_
  refine r_bipush (v := 26) (pc := 18) dX11_alarms_18 (by decide) ?_
  refine rs_ld (26) (pc := 20) dX11_alarms_20 rfl (by omega) ?_
  refine r_isub (pc := 21) dX11_alarms_21 ?_
  refine q_istore_n [_, _, _] (pc := 22) dX11_alarms_22 rfl (by decide) rfl ?_
  refine r_joinH 145 [some (.ref 119), some (.int (A 28)), some (.int (A 0 - A 26))] (rH h0 I J (R_al A) a v t n) (?_) (fun J23 => ?_)
  · refine r_aload_n (pc := 145) dX11_alarms_145 rfl rfl ?_
    refine rs_get (pc := 146) dX11_alarms_146 rfl f_RX11_7 rfl ?_
    refine r_bipush (v := 30) (pc := 149) dX11_alarms_149 (by decide) ?_
    refine r_dup2 (pc := 151) dX11_alarms_151 rfl rfl ?_
    refine rs_ld (30) (pc := 152) dX11_alarms_152 rfl (by omega) ?_
    refine r_join 179 (R_new (R_al A) (A 28)) ?_ (fun J153 => ?_)
    · refine r_iadd (pc := 179) dX11_alarms_179 ?_
      refine rs_st (30) (pc := 180) dX11_alarms_180 rfl (by omega) ?_
      exact r_return (S := []) (pc := 181) dX11_alarms_181 rfl ⟨rfl, rfl⟩
    · refine r_aload_n (pc := 153) dX11_alarms_153 rfl rfl ?_
      refine rs_get (pc := 154) dX11_alarms_154 rfl f_RX11_7 rfl ?_
      refine r_bipush (v := 28) (pc := 157) dX11_alarms_157 (by decide) ?_
      refine rs_ld (28) (pc := 159) dX11_alarms_159 rfl (by omega) ?_
      refine r_if_eq 178 (pc := 160) dX11_alarms_160 (by decide) (fun c160 => ?_) (fun c160 => ?_)
      · refine r_iconst (v := 0) (pc := 178) dX11_alarms_178 (by decide) ?_
        exact J153 _ (by rw [R_new]; (repeat (first | rw [if_pos (by assumption)] | rw [if_neg (by assumption)])))
      · refine r_aload_n (pc := 163) dX11_alarms_163 rfl rfl ?_
        refine rs_get (pc := 164) dX11_alarms_164 rfl f_RX11_7 rfl ?_
        refine r_bipush (v := 28) (pc := 167) dX11_alarms_167 (by decide) ?_
        refine rs_ld (28) (pc := 169) dX11_alarms_169 rfl (by omega) ?_
        refine r_iload_n (pc := 170) dX11_alarms_170 rfl rfl ?_
        refine r_icmp_eq 178 (pc := 171) dX11_alarms_171 (by decide) (fun c171 => ?_) (fun c171 => ?_)
        · refine r_iconst (v := 0) (pc := 178) dX11_alarms_178 (by decide) ?_
          exact J153 _ (by rw [R_new]; (repeat (first | rw [if_pos (by assumption)] | rw [if_neg (by assumption)])))
        · refine r_iconst (v := 1) (pc := 174) dX11_alarms_174 (by decide) ?_
          refine r_goto 179 (pc := 175) dX11_alarms_175 (by decide) ?_
          exact J153 _ (by rw [R_new]; (repeat (first | rw [if_pos (by assumption)] | rw [if_neg (by assumption)])))
  · refine r_aload_n (pc := 23) dX11_alarms_23 rfl rfl ?_
    refine rs_get (pc := 24) dX11_alarms_24 rfl f_RX11_7 rfl ?_
    refine r_bipush (v := 26) (pc := 27) dX11_alarms_27 (by decide) ?_
    refine rs_ld (26) (pc := 29) dX11_alarms_29 rfl (by omega) ?_
    refine r_iconst (v := (-1)) (pc := 30) dX11_alarms_30 (by decide) ?_
    refine r_icmp_ne 45 (pc := 31) dX11_alarms_31 (by decide) (fun c31 => ?_) (fun c31 => ?_)
    · refine r_iload_n (pc := 45) dX11_alarms_45 rfl rfl ?_
      refine r_aload_n (pc := 46) dX11_alarms_46 rfl rfl ?_
      refine rs_get (pc := 47) dX11_alarms_47 rfl f_RX11_7 rfl ?_
      refine r_bipush (v := 21) (pc := 50) dX11_alarms_50 (by decide) ?_
      refine rs_ld (21) (pc := 52) dX11_alarms_52 rfl (by omega) ?_
      refine r_icmp_gt 67 (pc := 53) dX11_alarms_53 (by decide) (fun c53 => ?_) (fun c53 => ?_)
      · refine r_iload_n (pc := 67) dX11_alarms_67 rfl rfl ?_
        refine r_aload_n (pc := 68) dX11_alarms_68 rfl rfl ?_
        refine rs_get (pc := 69) dX11_alarms_69 rfl f_RX11_7 rfl ?_
        refine r_bipush (v := 22) (pc := 72) dX11_alarms_72 (by decide) ?_
        refine rs_ld (22) (pc := 74) dX11_alarms_74 rfl (by omega) ?_
        refine r_icmp_lt 89 (pc := 75) dX11_alarms_75 (by decide) (fun c75 => ?_) (fun c75 => ?_)
        · refine r_iload_n (pc := 89) dX11_alarms_89 rfl rfl ?_
          refine r_iconst (v := 1) (pc := 90) dX11_alarms_90 (by decide) ?_
          refine r_icmp_ne 113 (pc := 91) dX11_alarms_91 (by decide) (fun c91 => ?_) (fun c91 => ?_)
          · refine r_iload_n (pc := 113) dX11_alarms_113 rfl rfl ?_
            refine r_iconst (v := 2) (pc := 114) dX11_alarms_114 (by decide) ?_
            refine r_icmp_ne 145 (pc := 115) dX11_alarms_115 (by decide) (fun c115 => ?_) (fun c115 => ?_)
            · exact r_wkH J23 ⟨rfl, rfl, rfl, trivial⟩ (by rw [R_al]; (repeat (first | rw [if_pos (by assumption)] | rw [if_neg (by assumption)])); try (rw [R_alt]; (repeat (first | rw [if_pos (by assumption)] | rw [if_neg (by assumption)]))))
            · refine r_iload_n (pc := 118) dX11_alarms_118 rfl rfl ?_
              refine r_aload_n (pc := 119) dX11_alarms_119 rfl rfl ?_
              refine rs_get (pc := 120) dX11_alarms_120 rfl f_RX11_7 rfl ?_
              refine r_bipush (v := 22) (pc := 123) dX11_alarms_123 (by decide) ?_
              refine rs_ld (22) (pc := 125) dX11_alarms_125 rfl (by omega) ?_
              refine r_aload_n (pc := 126) dX11_alarms_126 rfl rfl ?_
              refine rs_get (pc := 127) dX11_alarms_127 rfl f_RX11_7 rfl ?_
              refine r_bipush (v := 23) (pc := 130) dX11_alarms_130 (by decide) ?_
              refine rs_ld (23) (pc := 132) dX11_alarms_132 rfl (by omega) ?_
              refine r_isub (pc := 133) dX11_alarms_133 ?_
              refine r_icmp_ge 145 (pc := 134) dX11_alarms_134 (by decide) (fun c134 => ?_) (fun c134 => ?_)
              · exact r_wkH J23 ⟨rfl, rfl, rfl, trivial⟩ (by rw [R_al]; (repeat (first | rw [if_pos (by assumption)] | rw [if_neg (by assumption)])); try (rw [R_alt]; (repeat (first | rw [if_pos (by assumption)] | rw [if_neg (by assumption)]))))
              · refine r_aload_n (pc := 137) dX11_alarms_137 rfl rfl ?_
                refine rs_get (pc := 138) dX11_alarms_138 rfl f_RX11_7 rfl ?_
                refine r_bipush (v := 28) (pc := 141) dX11_alarms_141 (by decide) ?_
                refine r_iconst (v := 0) (pc := 143) dX11_alarms_143 (by decide) ?_
                refine rs_st (28) (pc := 144) dX11_alarms_144 rfl (by omega) ?_
                exact r_wkH J23 ⟨rfl, rfl, rfl, trivial⟩ (by rw [R_al]; (repeat (first | rw [if_pos (by assumption)] | rw [if_neg (by assumption)])); try (rw [R_alt]; (repeat (first | rw [if_pos (by assumption)] | rw [if_neg (by assumption)]))))
          · refine r_iload_n (pc := 94) dX11_alarms_94 rfl rfl ?_
            refine r_aload_n (pc := 95) dX11_alarms_95 rfl rfl ?_
            refine rs_get (pc := 96) dX11_alarms_96 rfl f_RX11_7 rfl ?_
            refine r_bipush (v := 21) (pc := 99) dX11_alarms_99 (by decide) ?_
            refine rs_ld (21) (pc := 101) dX11_alarms_101 rfl (by omega) ?_
            refine r_aload_n (pc := 102) dX11_alarms_102 rfl rfl ?_
            refine rs_get (pc := 103) dX11_alarms_103 rfl f_RX11_7 rfl ?_
            refine r_bipush (v := 23) (pc := 106) dX11_alarms_106 (by decide) ?_
            refine rs_ld (23) (pc := 108) dX11_alarms_108 rfl (by omega) ?_
            refine r_iadd (pc := 109) dX11_alarms_109 ?_
            refine r_icmp_gt 137 (pc := 110) dX11_alarms_110 (by decide) (fun c110 => ?_) (fun c110 => ?_)
            · refine r_aload_n (pc := 137) dX11_alarms_137 rfl rfl ?_
              refine rs_get (pc := 138) dX11_alarms_138 rfl f_RX11_7 rfl ?_
              refine r_bipush (v := 28) (pc := 141) dX11_alarms_141 (by decide) ?_
              refine r_iconst (v := 0) (pc := 143) dX11_alarms_143 (by decide) ?_
              refine rs_st (28) (pc := 144) dX11_alarms_144 rfl (by omega) ?_
              exact r_wkH J23 ⟨rfl, rfl, rfl, trivial⟩ (by rw [R_al]; (repeat (first | rw [if_pos (by assumption)] | rw [if_neg (by assumption)])); try (rw [R_alt]; (repeat (first | rw [if_pos (by assumption)] | rw [if_neg (by assumption)]))))
            · refine r_iload_n (pc := 113) dX11_alarms_113 rfl rfl ?_
              refine r_iconst (v := 2) (pc := 114) dX11_alarms_114 (by decide) ?_
              refine r_icmp_ne 145 (pc := 115) dX11_alarms_115 (by decide) (fun c115 => ?_) (fun c115 => ?_)
              · exact r_wkH J23 ⟨rfl, rfl, rfl, trivial⟩ (by rw [R_al]; (repeat (first | rw [if_pos (by assumption)] | rw [if_neg (by assumption)])); try (rw [R_alt]; (repeat (first | rw [if_pos (by assumption)] | rw [if_neg (by assumption)]))))
              · refine r_iload_n (pc := 118) dX11_alarms_118 rfl rfl ?_
                refine r_aload_n (pc := 119) dX11_alarms_119 rfl rfl ?_
                refine rs_get (pc := 120) dX11_alarms_120 rfl f_RX11_7 rfl ?_
                refine r_bipush (v := 22) (pc := 123) dX11_alarms_123 (by decide) ?_
                refine rs_ld (22) (pc := 125) dX11_alarms_125 rfl (by omega) ?_
                refine r_aload_n (pc := 126) dX11_alarms_126 rfl rfl ?_
                refine rs_get (pc := 127) dX11_alarms_127 rfl f_RX11_7 rfl ?_
                refine r_bipush (v := 23) (pc := 130) dX11_alarms_130 (by decide) ?_
                refine rs_ld (23) (pc := 132) dX11_alarms_132 rfl (by omega) ?_
                refine r_isub (pc := 133) dX11_alarms_133 ?_
                refine r_icmp_ge 145 (pc := 134) dX11_alarms_134 (by decide) (fun c134 => ?_) (fun c134 => ?_)
                · exact r_wkH J23 ⟨rfl, rfl, rfl, trivial⟩ (by rw [R_al]; (repeat (first | rw [if_pos (by assumption)] | rw [if_neg (by assumption)])); try (rw [R_alt]; (repeat (first | rw [if_pos (by assumption)] | rw [if_neg (by assumption)]))))
                · refine r_aload_n (pc := 137) dX11_alarms_137 rfl rfl ?_
                  refine rs_get (pc := 138) dX11_alarms_138 rfl f_RX11_7 rfl ?_
                  refine r_bipush (v := 28) (pc := 141) dX11_alarms_141 (by decide) ?_
                  refine r_iconst (v := 0) (pc := 143) dX11_alarms_143 (by decide) ?_
                  refine rs_st (28) (pc := 144) dX11_alarms_144 rfl (by omega) ?_
                  exact r_wkH J23 ⟨rfl, rfl, rfl, trivial⟩ (by rw [R_al]; (repeat (first | rw [if_pos (by assumption)] | rw [if_neg (by assumption)])); try (rw [R_alt]; (repeat (first | rw [if_pos (by assumption)] | rw [if_neg (by assumption)]))))
        · refine r_aload_n (pc := 78) dX11_alarms_78 rfl rfl ?_
          refine rs_get (pc := 79) dX11_alarms_79 rfl f_RX11_7 rfl ?_
          refine r_bipush (v := 28) (pc := 82) dX11_alarms_82 (by decide) ?_
          refine r_iconst (v := 2) (pc := 84) dX11_alarms_84 (by decide) ?_
          refine rs_st (28) (pc := 85) dX11_alarms_85 rfl (by omega) ?_
          refine r_goto 145 (pc := 86) dX11_alarms_86 (by decide) ?_
          exact r_wkH J23 ⟨rfl, rfl, rfl, trivial⟩ (by rw [R_al]; (repeat (first | rw [if_pos (by assumption)] | rw [if_neg (by assumption)])); try (rw [R_alt]; (repeat (first | rw [if_pos (by assumption)] | rw [if_neg (by assumption)]))))
      · refine r_aload_n (pc := 56) dX11_alarms_56 rfl rfl ?_
        refine rs_get (pc := 57) dX11_alarms_57 rfl f_RX11_7 rfl ?_
        refine r_bipush (v := 28) (pc := 60) dX11_alarms_60 (by decide) ?_
        refine r_iconst (v := 1) (pc := 62) dX11_alarms_62 (by decide) ?_
        refine rs_st (28) (pc := 63) dX11_alarms_63 rfl (by omega) ?_
        refine r_goto 145 (pc := 64) dX11_alarms_64 (by decide) ?_
        exact r_wkH J23 ⟨rfl, rfl, rfl, trivial⟩ (by rw [R_al]; (repeat (first | rw [if_pos (by assumption)] | rw [if_neg (by assumption)])); try (rw [R_alt]; (repeat (first | rw [if_pos (by assumption)] | rw [if_neg (by assumption)]))))
    · refine r_aload_n (pc := 34) dX11_alarms_34 rfl rfl ?_
      refine rs_get (pc := 35) dX11_alarms_35 rfl f_RX11_7 rfl ?_
      refine r_bipush (v := 28) (pc := 38) dX11_alarms_38 (by decide) ?_
      refine r_iconst (v := 0) (pc := 40) dX11_alarms_40 (by decide) ?_
      refine rs_st (28) (pc := 41) dX11_alarms_41 rfl (by omega) ?_
      refine r_goto 145 (pc := 42) dX11_alarms_42 (by decide) ?_
      exact r_wkH J23 ⟨rfl, rfl, rfl, trivial⟩ (by rw [R_al]; (repeat (first | rw [if_pos (by assumption)] | rw [if_neg (by assumption)])); try (rw [R_alt]; (repeat (first | rw [if_pos (by assumption)] | rw [if_neg (by assumption)]))))
