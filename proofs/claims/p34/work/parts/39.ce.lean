/-! the class: a state of its own -/
def K_fires (C : Nat → Int32) : Nat → Int32 := K_chance (R_echoes (K_move C)) (C 12) (C 13)
def K_fcb (W : Nat → Int64) (k : Nat) (X : Nat → Int32) : Nat → Int32 := if X 0 < X (42 + 4 * k + 1) then X else if K_bin W (cl (X (42 + 4 * k + 1)) / 20) = 0 then (if X (42 + 4 * k + 2) < R_need X (X (42 + 4 * k + 1)) then X else upd X (42 + 4 * k + 3) (X (42 + 4 * k + 3) ||| 1)) else X
def K_find (W : Nat → Int64) (C : Nat → Int32) : Nat → Int32 := itN (K_fcb W) (cl (C 41)) C
def K_drX (X : Nat → Int32) (k : Nat) : Nat → Int32 := upd (upd X (42 + 4 * k + 3) (X (42 + 4 * k + 3) ||| 2)) 29 (upd X (42 + 4 * k + 3) (X (42 + 4 * k + 3) ||| 2) 29 + 1)
def K_drb (k : Nat) (X : Nat → Int32) : Nat → Int32 := if K_mk (X (42 + 4 * k + 3)) 1 = 0 then X else if X (42 + 4 * k + 1) < X 6 - 40 then X else if X 7 + 40 < X (42 + 4 * k + 1) then X else if K_nearl X 103 (X (42 + 4 * k + 1)) (cl (X 102)) 0 = 0 then K_drX X k else if K_nearl X 119 (X (42 + 4 * k + 1)) (cl (X 118)) 0 = 0 then K_drX X k else X
def K_drop (C : Nat → Int32) : Nat → Int32 := itN K_drb (cl (C 41)) C
def K_look (W : Nat → Int64) (C : Nat → Int32) : Nat → Int32 := if K_find W C 16 = 1 then K_drop (K_find W C) else K_find W C
def K_pk (C : Nat → Int32) (x : Int32) : Nat → Int32 := if x = -1 then C else upd C (42 + 4 * cl x + 3) (C (42 + 4 * cl x + 3) ||| 4)
def K_pd (C : Nat → Int32) (x : Int32) : Int32 := if x = -1 then -1 else C (42 + 4 * cl x + 1)
def K_sh5 (W : Nat → Int64) (C : Nat → Int32) : (Nat → Int32) × Int32 := (K_look W (K_fires C), K_best (K_look W (K_fires C)) (K_look W (K_fires C) 17) (K_look W (K_fires C) 26) (cl (K_look W (K_fires C) 41)))
def K_sh6 (X : Nat → Int32) (x : Int32) : Nat → Int32 := K_take (K_old (K_pk X x))
def K_shot (W : Nat → Int64) (C : Nat → Int32) : Nat → Int32 := K_enter (K_sh6 (K_sh5 W C).1 (K_sh5 W C).2) (K_pd (K_sh6 (K_sh5 W C).1 (K_sh5 W C).2) (K_sh5 W C).2) (K_sh6 (K_sh5 W C).1 (K_sh5 W C).2 0) (min (cl (K_sh6 (K_sh5 W C).1 (K_sh5 W C).2 31) + 1) (cl (K_sh6 (K_sh5 W C).1 (K_sh5 W C).2 18)))
theorem makes_41 {X : Nat → Int32} {e : Nat} {k d s : Int32} (h : X 41 = nI e) : R_makes X e k d s 41 = nI (e + 1) := by
  unfold R_makes
  rw [upd_s, mk4_out (by omega), h]
  exact (nI_succ e).symm
theorem kmove_n {C : Nat → Int32} {j : Nat} (h1 : j ≠ 1) (h8 : j ≠ 8) : K_move C j = C j := by unfold K_move; rw [upd_n h8, upd_n h1]
/-- all but marks and drops stays -/
def KLI (A X : Nat → Int32) : Prop := ∀ j, j ≠ 29 → (j < 45 ∨ 102 ≤ j ∨ (j - 42) % 4 ≠ 3) → X j = A j
theorem KLI_fc {W : Nat → Int64} {A : Nat → Int32} (k : Nat) : k ≤ 15 → KLI A (itN (K_fcb W) k A) := by
  induction k with
  | zero => exact fun _ _ _ _ => rfl
  | succ k ih =>
    intro hk j h29 hj
    rw [itN_s, K_fcb]
    split
    · exact ih (by omega) j h29 hj
    · split
      · split
        · exact ih (by omega) j h29 hj
        · rw [upd_n (by omega)]; exact ih (by omega) j h29 hj
      · exact ih (by omega) j h29 hj
theorem drX_n {X : Nat → Int32} {k j : Nat} (h29 : j ≠ 29) (h : j ≠ 42 + 4 * k + 3) : K_drX X k j = X j := by
  unfold K_drX
  rw [upd_n h29, upd_n h]
theorem KLI_dr {A : Nat → Int32} (k : Nat) : k ≤ 15 → KLI A (itN K_drb k A) := by
  induction k with
  | zero => exact fun _ _ _ _ => rfl
  | succ k ih =>
    intro hk j h29 hj
    have h := ih (by omega) j h29 hj
    rw [itN_s, K_drb]
    split
    · exact h
    · split
      · exact h
      · split
        · exact h
        · split
          · rw [drX_n h29 (by omega)]; exact h
          · split
            · rw [drX_n h29 (by omega)]; exact h
            · exact h
theorem lp_X7_things {om : OM} {l : Launch} {B : Nat × Nat} {h0 : Hp} {b : Nat} {C : Nat → Int32} {W : Nat → Int64} {Post : Out → Hp → Prop} (hl : l.stackTraces = false) (d : Int32) (X0 : Nat → Int32) (K : Nat) (hK6 : K ≤ 6) (h4 : C 4 = nI K) (hE : EI 0 C X0) : ∀ (n9 k : Nat) (g : Nat → Int32), k + n9 = K → g = itN (R_e1b d) k X0 → Runs om l M_X7_send B 85 [some (.ref b), some (.int d), some (.int (nI K)), none] [] (sH h0 b ((itN (R_e1b d) K X0)) W) Post → Runs om l M_X7_send B 32 [some (.ref b), some (.int d), some (.int (nI k)), none] [] (sH h0 b g W) Post := by
  intro n9
  induction n9 with
  | zero =>
    intro k g hk e_g KK
    have hE2 := EI_e1 (d := d) hE k (by omega)
    rw [← e_g] at hE2
    obtain ⟨e, he, hle, hout⟩ := hE2
    have h4g : g 4 = nI K := (hout 4 (by omega)).trans h4
    have e9 : k = K := by omega
    refine r_iload_n (pc := 32) dX7_send_32 rfl rfl ?_
    refine r_aload_n (pc := 33) dX7_send_33 rfl rfl ?_
    refine cs_get0 (pc := 34) dX7_send_34 rfl f_RX7_12 rfl ?_
    refine cs_get (i := 1) (pc := 37) dX7_send_37 rfl f_RX7_146 (by decide) rfl rfl ?_
    refine r_icmp_ge 85 (pc := 40) dX7_send_40 (by decide) (fun c40 => ?_) (fun c40 => absurd (c_get rfl h4g (a := k) (b := K) (by omega) (by omega) (by omega)) c40)
    subst e9
    subst e_g
    exact KK
  | succ n9 ih =>
    intro k g hk e_g KK
    have hE2 := EI_e1 (d := d) hE k (by omega)
    rw [← e_g] at hE2
    obtain ⟨e, he, hle, hout⟩ := hE2
    have h4g : g 4 = nI K := (hout 4 (by omega)).trans h4
    refine r_iload_n (pc := 32) dX7_send_32 rfl rfl ?_
    refine r_aload_n (pc := 33) dX7_send_33 rfl rfl ?_
    refine cs_get0 (pc := 34) dX7_send_34 rfl f_RX7_12 rfl ?_
    refine cs_get (i := 1) (pc := 37) dX7_send_37 rfl f_RX7_146 (by decide) rfl rfl ?_
    refine r_icmp_ge 85 (pc := 40) dX7_send_40 (by decide) (fun c40 => absurd c40 (c_gef rfl h4g (a := k) (b := K) (by omega) (by omega) (by omega))) (fun c40 => ?_)
    refine r_aload_n (pc := 43) dX7_send_43 rfl rfl ?_
    refine cs_get0 (pc := 44) dX7_send_44 rfl f_RX7_12 rfl ?_
    refine r_iload_n (pc := 47) dX7_send_47 rfl rfl ?_
    refine q_callV (ci := 7) (T := TX8) (N := 14) (vs := [.int _]) (pc := 48) dX7_send_48 rfl l_RX7_149 rfl ⟨by decide, by decide⟩ rfl (Nat.le_of_ble_eq_true rfl) hl (sH_at (i := 1) (by decide)) rfl (Nat.le_of_ble_eq_true rfl) (s_X8_thingDistance hl _ k K rfl h4g (by omega) hK6) sH_22 ?_
    refine r_iload_n (pc := 51) dX7_send_51 rfl rfl ?_
    refine r_icmp_ge 79 (pc := 52) dX7_send_52 (by decide) (fun c52 => ?_) (fun c52 => ?_)
    · refine q_iinc (nI (k + 1)) [_, _, _, _] (pc := 79) dX7_send_79 rfl (by decide) (ninc 1 rfl) rfl ?_
      refine r_goto 32 (pc := 82) dX7_send_82 (by decide) ?_
      exact ih (k + 1) _ (by omega) (by rw [itN_s, ← e_g, R_e1b]; first | (rw [if_pos c52]; done) | (rw [if_neg c52, mk_at he (by omega)]; done)) KK
    · refine r_aload_n (pc := 55) dX7_send_55 rfl rfl ?_
      refine cs_get0 (pc := 56) dX7_send_56 rfl f_RX7_35 rfl ?_
      refine r_iconst (v := 0) (pc := 59) dX7_send_59 (by decide) ?_
      refine r_aload_n (pc := 60) dX7_send_60 rfl rfl ?_
      refine cs_get0 (pc := 61) dX7_send_61 rfl f_RX7_12 rfl ?_
      refine r_iload_n (pc := 64) dX7_send_64 rfl rfl ?_
      refine q_callV (ci := 7) (T := TX8) (N := 14) (vs := [.int _]) (pc := 65) dX7_send_65 rfl l_RX7_149 rfl ⟨by decide, by decide⟩ rfl (Nat.le_of_ble_eq_true rfl) hl (sH_at (i := 1) (by decide)) rfl (Nat.le_of_ble_eq_true rfl) (s_X8_thingDistance hl _ k K rfl h4g (by omega) hK6) sH_22 ?_
      refine r_aload_n (pc := 68) dX7_send_68 rfl rfl ?_
      refine cs_get0 (pc := 69) dX7_send_69 rfl f_RX7_12 rfl ?_
      refine r_iload_n (pc := 72) dX7_send_72 rfl rfl ?_
      refine q_callV (ci := 7) (T := TX8) (N := 14) (vs := [.int _]) (pc := 73) dX7_send_73 rfl l_RX7_152 rfl ⟨by decide, by decide⟩ rfl (Nat.le_of_ble_eq_true rfl) hl (sH_at (i := 1) (by decide)) rfl (Nat.le_of_ble_eq_true rfl) (s_X8_thingStrength hl _ k K rfl h4g (by omega) hK6) sH_22 ?_
      refine q_callV (ci := 2) (T := TX3) (N := 5) (vs := [.int _, .int _, .int _]) (pc := 76) dX7_send_76 rfl l_RX7_155 rfl ⟨by decide, by decide⟩ rfl (Nat.le_of_ble_eq_true rfl) hl (sH_at (i := 8) (by decide)) rfl (Nat.le_of_ble_eq_true rfl) (s_X3_append hl e he (by omega) _ _ _) sH_22 ?_
      refine q_iinc (nI (k + 1)) [_, _, _, _] (pc := 79) dX7_send_79 rfl (by decide) (ninc 1 rfl) rfl ?_
      refine r_goto 32 (pc := 82) dX7_send_82 (by decide) ?_
      exact ih (k + 1) _ (by omega) (by rw [itN_s, ← e_g, R_e1b]; first | (rw [if_pos c52]; done) | (rw [if_neg c52, mk_at he (by omega)]; done)) KK
theorem lp_X7_blades {om : OM} {l : Launch} {B : Nat × Nat} {h0 : Hp} {b : Nat} {C : Nat → Int32} {W : Nat → Int64} {Post : Out → Hp → Prop} (hl : l.stackTraces = false) (d : Int32) (X0 : Nat → Int32) (K : Nat) (hK6 : K ≤ 6) (h5 : C 5 = nI K) (hE : EI 6 C X0) : ∀ (n9 k : Nat) (g : Nat → Int32) (hd : Int32), k + n9 = K → g = (itN (R_e2b d) k (X0, 0)).1 → hd = (itN (R_e2b d) k (X0, 0)).2 → Runs om l M_X7_sendBlades B 77 [some (.ref b), some (.int d), some (.int ((itN (R_e2b d) K (X0, 0)).2)), some (.int (nI K)), none] [] (sH h0 b (((itN (R_e2b d) K (X0, 0)).1)) W) Post → Runs om l M_X7_sendBlades B 4 [some (.ref b), some (.int d), some (.int hd), some (.int (nI k)), none] [] (sH h0 b g W) Post := by
  intro n9
  induction n9 with
  | zero =>
    intro k g hd hk e_g e_hd KK
    have hE2 := EI_e2 (d := d) (hd := 0) hE k (by omega)
    rw [← e_g] at hE2
    obtain ⟨e, he, hle, hout⟩ := hE2
    have h5g : g 5 = nI K := (hout 5 (by omega)).trans h5
    have e9 : k = K := by omega
    refine r_iload_n (pc := 4) dX7_sendBlades_4 rfl rfl ?_
    refine r_aload_n (pc := 5) dX7_sendBlades_5 rfl rfl ?_
    refine cs_get0 (pc := 6) dX7_sendBlades_6 rfl f_RX7_12 rfl ?_
    refine cs_get (i := 1) (pc := 9) dX7_sendBlades_9 rfl f_RX7_175 (by decide) rfl rfl ?_
    refine r_icmp_ge 77 (pc := 12) dX7_sendBlades_12 (by decide) (fun c12 => ?_) (fun c12 => absurd (c_get rfl h5g (a := k) (b := K) (by omega) (by omega) (by omega)) c12)
    subst e9
    subst e_g
    subst e_hd
    exact KK
  | succ n9 ih =>
    intro k g hd hk e_g e_hd KK
    have hE2 := EI_e2 (d := d) (hd := 0) hE k (by omega)
    rw [← e_g] at hE2
    obtain ⟨e, he, hle, hout⟩ := hE2
    have h5g : g 5 = nI K := (hout 5 (by omega)).trans h5
    refine r_iload_n (pc := 4) dX7_sendBlades_4 rfl rfl ?_
    refine r_aload_n (pc := 5) dX7_sendBlades_5 rfl rfl ?_
    refine cs_get0 (pc := 6) dX7_sendBlades_6 rfl f_RX7_12 rfl ?_
    refine cs_get (i := 1) (pc := 9) dX7_sendBlades_9 rfl f_RX7_175 (by decide) rfl rfl ?_
    refine r_icmp_ge 77 (pc := 12) dX7_sendBlades_12 (by decide) (fun c12 => absurd c12 (c_gef rfl h5g (a := k) (b := K) (by omega) (by omega) (by omega))) (fun c12 => ?_)
    refine r_join 38 (R_bd g k) ?_ (fun J15 => ?_)
    · refine q_istore [_, _, _, _, _] (pc := 38) dX7_sendBlades_38 (by decide) rfl ?_
      refine r_aload_n (pc := 40) dX7_sendBlades_40 rfl rfl ?_
      refine cs_get0 (pc := 41) dX7_sendBlades_41 rfl f_RX7_12 rfl ?_
      refine r_iload_n (pc := 44) dX7_sendBlades_44 rfl rfl ?_
      refine q_callV (ci := 7) (T := TX8) (N := 14) (vs := [.int _]) (pc := 45) dX7_sendBlades_45 rfl l_RX7_184 rfl ⟨by decide, by decide⟩ rfl (Nat.le_of_ble_eq_true rfl) hl (sH_at (i := 1) (by decide)) rfl (Nat.le_of_ble_eq_true rfl) (s_X8_isInBeam hl _ k K rfl h5g (by omega) hK6) sH_22 ?_
      refine r_if_eq 71 (pc := 48) dX7_sendBlades_48 (by decide) (fun c48 => ?_) (fun c48 => ?_)
      · refine q_iinc (nI (k + 1)) [_, _, _, _, _] (pc := 71) dX7_sendBlades_71 rfl (by decide) (ninc 1 rfl) rfl ?_
        refine r_goto 4 (pc := 74) dX7_sendBlades_74 (by decide) ?_
        refine r_wk [some _, some _, some _, some _, none] ⟨rfl, ⟨rfl, ⟨rfl, ⟨rfl, trivial⟩⟩⟩⟩ ?_
        exact ih (k + 1) _ _ (by omega) (by rw [itN_s, R_e2b, ← e_g]; (repeat (first | rw [if_pos (by assumption)] | rw [if_neg (by assumption)])); first | exact e_g | exact (mk_at he (by omega)).symm) (by rw [itN_s, R_e2b, ← e_g]; first | (rw [if_pos (by assumption)]; exact e_hd) | (rw [if_neg (by assumption), if_pos (by assumption)]; exact e_hd) | (rw [if_neg (by assumption), if_neg (by assumption)])) KK
      · refine r_iload (pc := 51) dX7_sendBlades_51 rfl ?_
        refine r_iload_n (pc := 53) dX7_sendBlades_53 rfl rfl ?_
        refine r_icmp_ge 71 (pc := 54) dX7_sendBlades_54 (by decide) (fun c54 => ?_) (fun c54 => ?_)
        · refine q_iinc (nI (k + 1)) [_, _, _, _, _] (pc := 71) dX7_sendBlades_71 rfl (by decide) (ninc 1 rfl) rfl ?_
          refine r_goto 4 (pc := 74) dX7_sendBlades_74 (by decide) ?_
          refine r_wk [some _, some _, some _, some _, none] ⟨rfl, ⟨rfl, ⟨rfl, ⟨rfl, trivial⟩⟩⟩⟩ ?_
          exact ih (k + 1) _ _ (by omega) (by rw [itN_s, R_e2b, ← e_g]; (repeat (first | rw [if_pos (by assumption)] | rw [if_neg (by assumption)])); first | exact e_g | exact (mk_at he (by omega)).symm) (by rw [itN_s, R_e2b, ← e_g]; first | (rw [if_pos (by assumption)]; exact e_hd) | (rw [if_neg (by assumption), if_pos (by assumption)]; exact e_hd) | (rw [if_neg (by assumption), if_neg (by assumption)])) KK
        · refine r_aload_n (pc := 57) dX7_sendBlades_57 rfl rfl ?_
          refine cs_get0 (pc := 58) dX7_sendBlades_58 rfl f_RX7_35 rfl ?_
          refine r_iconst (v := 1) (pc := 61) dX7_sendBlades_61 (by decide) ?_
          refine r_iload (pc := 62) dX7_sendBlades_62 rfl ?_
          refine r_bipush (v := 60) (pc := 64) dX7_sendBlades_64 (by decide) ?_
          refine q_callV (ci := 2) (T := TX3) (N := 5) (vs := [.int _, .int _, .int _]) (pc := 66) dX7_sendBlades_66 rfl l_RX7_155 rfl ⟨by decide, by decide⟩ rfl (Nat.le_of_ble_eq_true rfl) hl (sH_at (i := 8) (by decide)) rfl (Nat.le_of_ble_eq_true rfl) (s_X3_append hl e he (by omega) _ _ _) sH_22 ?_
          refine r_iconst (v := 1) (pc := 69) dX7_sendBlades_69 (by decide) ?_
          refine q_istore_n [_, _, _, _, _] (pc := 70) dX7_sendBlades_70 rfl (by decide) rfl ?_
          refine q_iinc (nI (k + 1)) [_, _, _, _, _] (pc := 71) dX7_sendBlades_71 rfl (by decide) (ninc 1 rfl) rfl ?_
          refine r_goto 4 (pc := 74) dX7_sendBlades_74 (by decide) ?_
          refine r_wk [some _, some _, some _, some _, none] ⟨rfl, ⟨rfl, ⟨rfl, ⟨rfl, trivial⟩⟩⟩⟩ ?_
          exact ih (k + 1) _ _ (by omega) (by rw [itN_s, R_e2b, ← e_g]; (repeat (first | rw [if_pos (by assumption)] | rw [if_neg (by assumption)])); first | exact e_g | exact (mk_at he (by omega)).symm) (by rw [itN_s, R_e2b, ← e_g]; first | (rw [if_pos (by assumption)]; exact e_hd) | (rw [if_neg (by assumption), if_pos (by assumption)]; exact e_hd) | (rw [if_neg (by assumption), if_neg (by assumption)])) KK
    · refine r_iload_n (pc := 15) dX7_sendBlades_15 rfl rfl ?_
      refine r_iconst (v := 2) (pc := 16) dX7_sendBlades_16 (by decide) ?_
      refine r_irem (pc := 17) dX7_sendBlades_17 (by decide) ?_
      refine r_if_ne 31 (pc := 18) dX7_sendBlades_18 (by decide) (fun c18 => ?_) (fun c18 => ?_)
      · refine r_aload_n (pc := 31) dX7_sendBlades_31 rfl rfl ?_
        refine cs_get0 (pc := 32) dX7_sendBlades_32 rfl f_RX7_12 rfl ?_
        refine cs_get (i := 1) (pc := 35) dX7_sendBlades_35 rfl f_RX7_181 (by decide) rfl rfl ?_
        exact J15 _ (by rw [R_bd]; (repeat (first | rw [if_pos (by assumption)] | rw [if_neg (by assumption)])))
      · refine r_aload_n (pc := 21) dX7_sendBlades_21 rfl rfl ?_
        refine cs_get0 (pc := 22) dX7_sendBlades_22 rfl f_RX7_12 rfl ?_
        refine cs_get (i := 1) (pc := 25) dX7_sendBlades_25 rfl f_RX7_178 (by decide) rfl rfl ?_
        refine r_goto 38 (pc := 28) dX7_sendBlades_28 (by decide) ?_
        exact J15 _ (by rw [R_bd]; (repeat (first | rw [if_pos (by assumption)] | rw [if_neg (by assumption)])))
theorem e2b01 {d : Int32} {X0 : Nat → Int32} (k : Nat) : (itN (R_e2b d) k (X0, 0)).2 = 0 ∨ (itN (R_e2b d) k (X0, 0)).2 = 1 := by
  induction k with
  | zero => exact Or.inl rfl
  | succ k ih =>
    rw [itN_s, R_e2b]
    split
    · exact ih
    · split
      · exact ih
      · exact Or.inr rfl
theorem s_X7_sendBlades {om : OM} {l : Launch} {B : Nat × Nat} {h0 : Hp} {b : Nat} {C : Nat → Int32} {W : Nat → Int64} (hl : l.stackTraces = false) (d : Int32) (A : Nat → Int32) (K : Nat) (hK6 : K ≤ 6) (h5 : A 5 = nI K) (hE : EI 6 A C) : Runs om l M_X7_sendBlades B 0 (entL 5 [.ref b, .int d]) [] (sH h0 b C W) (Det (some (.int (itN (R_e2b d) K (C, 0)).2)) (sH h0 b ((itN (R_e2b d) K (C, 0)).1) W)) := by
  show Runs om l M_X7_sendBlades B 0 [some (.ref b), some (.int d), none, none, none] [] _ _
  refine r_iconst (v := 0) (pc := 0) dX7_sendBlades_0 (by decide) ?_
  refine q_istore_n [_, _, _, _, _] (pc := 1) dX7_sendBlades_1 rfl (by decide) rfl ?_
  refine r_iconst (v := 0) (pc := 2) dX7_sendBlades_2 (by decide) ?_
  refine q_istore_n [_, _, _, _, _] (pc := 3) dX7_sendBlades_3 rfl (by decide) rfl ?_
  refine lp_X7_blades hl (C := A) d C K hK6 h5 hE K 0 _ _ (by omega) rfl rfl ?_
  refine r_iload_n (pc := 77) dX7_sendBlades_77 rfl rfl ?_
  exact r_ireturn (S := []) (pc := 78) dX7_sendBlades_78 rfl (nar_b (e2b01 K)) ⟨rfl, rfl⟩
theorem sg_X7_send {om : OM} {l : Launch} {B : Nat × Nat} {h0 : Hp} {b : Nat} {C : Nat → Int32} {W : Nat → Int64} (hl : l.stackTraces = false) (d hd : Int32) (A : Nat → Int32) (jn : Nat) (hj : A 13 = nI jn) (hj20 : jn ≤ 20) (hE : EI 12 A C) : Runs om l M_X7_send B 91 [some (.ref b), some (.int d), some (.int hd), none] [] (sH h0 b C W) (Det none (sH h0 b (K_chance (R_e4 d hd (R_e3 d C)) (A 12) (A 13)) W)) := by
  have hE13 := EI_e3 (d := d) hE
  have hE15 := EI_e4 (d := d) (hd := hd) hE13
  obtain ⟨e, he, hle, hout⟩ := hE
  obtain ⟨e2, he2, hle2, hout2⟩ := hE13
  obtain ⟨e3, he3, hle3, hout3⟩ := hE15
  refine r_joinH 140 [some (.ref b), some (.int d), some (.int hd), none] (sH h0 b (R_e3 d C) W) (?_) (fun J91 => ?_)
  · refine r_joinH 185 [some (.ref b), some (.int d), some (.int hd), none] (sH h0 b (R_e4 d hd (R_e3 d C)) W) (?_) (fun J140 => ?_)
    · refine r_aload_n (pc := 185) dX7_send_185 rfl rfl ?_
      refine cs_get0 (pc := 186) dX7_send_186 rfl f_RX7_35 rfl ?_
      refine r_aload_n (pc := 189) dX7_send_189 rfl rfl ?_
      refine cs_get0 (pc := 190) dX7_send_190 rfl f_RX7_12 rfl ?_
      refine r_aload_n (pc := 193) dX7_send_193 rfl rfl ?_
      refine cs_get0 (pc := 194) dX7_send_194 rfl f_RX7_21 rfl ?_
      refine r_iconst (v := 0) (pc := 197) dX7_send_197 (by decide) ?_
      refine q_callV (ci := 5) (T := TX6) (N := 1) (vs := [.int _]) (pc := 198) dX7_send_198 rfl l_RX7_104 rfl ⟨by decide, by decide⟩ rfl (Nat.le_of_ble_eq_true rfl) hl (sH_at (i := 4) (by decide)) rfl (Nat.le_of_ble_eq_true rfl) (s_X6_value hl _ 0 rfl (by decide)) sH_22 ?_
      refine r_aload_n (pc := 201) dX7_send_201 rfl rfl ?_
      refine cs_get0 (pc := 202) dX7_send_202 rfl f_RX7_21 rfl ?_
      refine r_iconst (v := 1) (pc := 205) dX7_send_205 (by decide) ?_
      refine q_callV (ci := 5) (T := TX6) (N := 1) (vs := [.int _]) (pc := 206) dX7_send_206 rfl l_RX7_104 rfl ⟨by decide, by decide⟩ rfl (Nat.le_of_ble_eq_true rfl) hl (sH_at (i := 4) (by decide)) rfl (Nat.le_of_ble_eq_true rfl) (s_X6_value hl _ 1 rfl (by decide)) sH_22 ?_
      refine q_callV (ci := 2) (T := TX3) (N := 5) (vs := [.ref _, .int _, .int _]) (pc := 209) dX7_send_209 rfl l_RX7_171 rfl ⟨by decide, by decide⟩ rfl (Nat.le_of_ble_eq_true rfl) hl (sH_at (i := 8) (by decide)) rfl (Nat.le_of_ble_eq_true rfl) (s_X3_meetChance hl _ _ jn ((hout3 13 (by omega)).trans hj) hj20 e3 he3 hle3) sH_22 ?_
      exact r_return (S := []) (pc := 212) dX7_send_212 rfl ⟨rfl, by rw [show R_e4 d hd (R_e3 d C) (12 + 0) = A 12 from hout3 12 (by omega), show R_e4 d hd (R_e3 d C) (12 + 1) = A 13 from hout3 13 (by omega)]⟩
    · refine r_iload_n (pc := 140) dX7_send_140 rfl rfl ?_
      refine r_if_ne 185 (pc := 141) dX7_send_141 (by decide) (fun c141 => ?_) (fun c141 => ?_)
      · exact r_wkH J140 ⟨rfl, rfl, rfl, trivial⟩ (by first | (rw [show R_e4 d hd (R_e3 d C) = R_e3 d C from if_neg c141]; done) | (rw [R_e4, if_pos c141, mk_at he2 (by omega), mk_at (makes_41 he2) (by omega)]; done))
      · refine r_iconst (v := 0) (pc := 144) dX7_send_144 (by decide) ?_
        refine r_bipush (v := 80) (pc := 145) dX7_send_145 (by decide) ?_
        refine r_aload_n (pc := 147) dX7_send_147 rfl rfl ?_
        refine cs_get0 (pc := 148) dX7_send_148 rfl f_RX7_12 rfl ?_
        refine cs_get (i := 1) (pc := 151) dX7_send_151 rfl f_RX7_163 (by decide) rfl rfl ?_
        refine r_iconst (v := 5) (pc := 154) dX7_send_154 (by decide) ?_
        refine r_idiv (pc := 155) dX7_send_155 (by decide) ?_
        refine r_isub (pc := 156) dX7_send_156 ?_
        refine r_max (pc := 157) dX7_send_157 rfl l_RX7_166 (by decide) (Nat.le_of_ble_eq_true rfl) ?_
        rw [max_gr]
        refine q_istore_n [_, _, _, _] (pc := 160) dX7_send_160 rfl (by decide) rfl ?_
        refine r_aload_n (pc := 161) dX7_send_161 rfl rfl ?_
        refine cs_get0 (pc := 162) dX7_send_162 rfl f_RX7_35 rfl ?_
        refine r_iconst (v := 3) (pc := 165) dX7_send_165 (by decide) ?_
        refine r_iload_n (pc := 166) dX7_send_166 rfl rfl ?_
        refine r_iload_n (pc := 167) dX7_send_167 rfl rfl ?_
        refine q_callV (ci := 2) (T := TX3) (N := 5) (vs := [.int _, .int _, .int _]) (pc := 168) dX7_send_168 rfl l_RX7_155 rfl ⟨by decide, by decide⟩ rfl (Nat.le_of_ble_eq_true rfl) hl (sH_at (i := 8) (by decide)) rfl (Nat.le_of_ble_eq_true rfl) (s_X3_append hl e2 he2 (by omega) _ _ _) sH_22 ?_
        refine r_aload_n (pc := 171) dX7_send_171 rfl rfl ?_
        refine cs_get0 (pc := 172) dX7_send_172 rfl f_RX7_35 rfl ?_
        refine r_iconst (v := 4) (pc := 175) dX7_send_175 (by decide) ?_
        refine r_iconst (v := 2) (pc := 176) dX7_send_176 (by decide) ?_
        refine r_iload_n (pc := 177) dX7_send_177 rfl rfl ?_
        refine r_imul (pc := 178) dX7_send_178 ?_
        refine r_iload_n (pc := 179) dX7_send_179 rfl rfl ?_
        refine r_iconst (v := 2) (pc := 180) dX7_send_180 (by decide) ?_
        refine r_idiv (pc := 181) dX7_send_181 (by decide) ?_
        refine q_callV (ci := 2) (T := TX3) (N := 5) (vs := [.int _, .int _, .int _]) (pc := 182) dX7_send_182 rfl l_RX7_155 rfl ⟨by decide, by decide⟩ rfl (Nat.le_of_ble_eq_true rfl) hl (sH_at (i := 8) (by decide)) rfl (Nat.le_of_ble_eq_true rfl) (s_X3_append hl (e2 + 1) (makes_41 he2) (by omega) _ _ _) sH_22 ?_
        exact r_wkH J140 ⟨rfl, rfl, rfl, trivial⟩ (by first | (rw [show R_e4 d hd (R_e3 d C) = R_e3 d C from if_neg c141]; done) | (rw [R_e4, if_pos c141, mk_at he2 (by omega), mk_at (makes_41 he2) (by omega)]; done))
  · refine r_aload_n (pc := 91) dX7_send_91 rfl rfl ?_
    refine cs_get0 (pc := 92) dX7_send_92 rfl f_RX7_12 rfl ?_
    refine cs_get (i := 1) (pc := 95) dX7_send_95 rfl f_RX7_163 (by decide) rfl rfl ?_
    refine r_if_le 140 (pc := 98) dX7_send_98 (by decide) (fun c98 => ?_) (fun c98 => ?_)
    · exact r_wkH J91 ⟨rfl, rfl, rfl, trivial⟩ (by first | (rw [show R_e3 d C = C from if_pos c98]; done) | (rw [R_e3, if_neg c98, mk_at he (by omega)]; done))
    · refine r_aload_n (pc := 101) dX7_send_101 rfl rfl ?_
      refine cs_get0 (pc := 102) dX7_send_102 rfl f_RX7_35 rfl ?_
      refine r_iconst (v := 2) (pc := 105) dX7_send_105 (by decide) ?_
      refine r_iconst (v := 0) (pc := 106) dX7_send_106 (by decide) ?_
      refine r_iload_n (pc := 107) dX7_send_107 rfl rfl ?_
      refine r_aload_n (pc := 108) dX7_send_108 rfl rfl ?_
      refine cs_get0 (pc := 109) dX7_send_109 rfl f_RX7_12 rfl ?_
      refine cs_get (i := 1) (pc := 112) dX7_send_112 rfl f_RX7_163 (by decide) rfl rfl ?_
      refine r_isub (pc := 115) dX7_send_115 ?_
      refine r_max (pc := 116) dX7_send_116 rfl l_RX7_166 (by decide) (Nat.le_of_ble_eq_true rfl) ?_
      rw [max_gr]
      refine r_bipush (v := 10) (pc := 119) dX7_send_119 (by decide) ?_
      refine r_bipush (v := 70) (pc := 121) dX7_send_121 (by decide) ?_
      refine r_aload_n (pc := 123) dX7_send_123 rfl rfl ?_
      refine cs_get0 (pc := 124) dX7_send_124 rfl f_RX7_12 rfl ?_
      refine cs_get (i := 1) (pc := 127) dX7_send_127 rfl f_RX7_163 (by decide) rfl rfl ?_
      refine r_bipush (v := 10) (pc := 130) dX7_send_130 (by decide) ?_
      refine r_idiv (pc := 132) dX7_send_132 (by decide) ?_
      refine r_isub (pc := 133) dX7_send_133 ?_
      refine r_max (pc := 134) dX7_send_134 rfl l_RX7_166 (by decide) (Nat.le_of_ble_eq_true rfl) ?_
      rw [max_gr]
      refine q_callV (ci := 2) (T := TX3) (N := 5) (vs := [.int _, .int _, .int _]) (pc := 137) dX7_send_137 rfl l_RX7_155 rfl ⟨by decide, by decide⟩ rfl (Nat.le_of_ble_eq_true rfl) hl (sH_at (i := 8) (by decide)) rfl (Nat.le_of_ble_eq_true rfl) (s_X3_append hl e he (by omega) _ _ _) sH_22 ?_
      exact r_wkH J91 ⟨rfl, rfl, rfl, trivial⟩ (by first | (rw [show R_e3 d C = C from if_pos c98]; done) | (rw [R_e3, if_neg c98, mk_at he (by omega)]; done))
theorem s_X7_send {om : OM} {l : Launch} {B : Nat × Nat} {h0 : Hp} {b : Nat} {C : Nat → Int32} {W : Nat → Int64} (hl : l.stackTraces = false) (K4 K5 jn : Nat) (h4 : C 4 = nI K4) (hK4 : K4 ≤ 6) (h5 : C 5 = nI K5) (hK5 : K5 ≤ 6) (h13 : C 13 = nI jn) (hj20 : jn ≤ 20) : Runs om l M_X7_send B 0 (entL 4 [.ref b]) [] (sH h0 b C W) (Det (none) (sH h0 b (K_fires C) W)) := by
  show Runs om l M_X7_send B 0 [some (.ref b), none, none, none] [] _ _
  refine r_aload_n (pc := 0) dX7_send_0 rfl rfl ?_
  refine cs_get0 (pc := 1) dX7_send_1 rfl f_RX7_12 rfl ?_
  refine q_callV (ci := 7) (T := TX8) (N := 14) (vs := []) (pc := 4) dX7_send_4 rfl l_RX7_140 rfl ⟨by decide, by decide⟩ rfl (Nat.le_of_ble_eq_true rfl) hl (sH_at (i := 1) (by decide)) rfl (Nat.le_of_ble_eq_true rfl) (s_X8_moveOn) sH_22 ?_
  have h4m : K_move C 4 = nI K4 := (kmove_n (by decide) (by decide)).trans h4
  have h5m : K_move C 5 = nI K5 := (kmove_n (by decide) (by decide)).trans h5
  have h13m : K_move C 13 = nI jn := (kmove_n (by decide) (by decide)).trans h13
  have h12m : K_move C 12 = C 12 := kmove_n (by decide) (by decide)
  have h13n : K_move C 13 = C 13 := kmove_n (by decide) (by decide)
  rw [K_fires, ← h12m, ← h13n]
  generalize K_move C = X at *
  have hE0 : EI 0 X (upd X 41 0) := ⟨0, upd_s, by omega, fun j hj => upd_n (by omega)⟩
  have hE1 := (EI_e1 (d := X 0 - X 1) hE0 K4 hK4).weak hK4
  have hE2 := (EI_e2 (d := X 0 - X 1) (hd := 0) hE1 K5 hK5).weak (show 6 + K5 ≤ 12 by omega)
  have hR : R_echoes X = R_e4 (X 0 - X 1) (itN (R_e2b (X 0 - X 1)) K5 (itN (R_e1b (X 0 - X 1)) K4 (upd X 41 0), 0)).2 (R_e3 (X 0 - X 1) (itN (R_e2b (X 0 - X 1)) K5 (itN (R_e1b (X 0 - X 1)) K4 (upd X 41 0), 0)).1) := by unfold R_echoes R_e12; rw [cl_nI h4m (by omega), cl_nI h5m (by omega)]
  rw [hR]
  refine r_aload_n (pc := 7) dX7_send_7 rfl rfl ?_
  refine cs_get0 (pc := 8) dX7_send_8 rfl f_RX7_35 rfl ?_
  refine q_callV (ci := 2) (T := TX3) (N := 5) (vs := []) (pc := 11) dX7_send_11 rfl l_RX7_87 rfl ⟨by decide, by decide⟩ rfl (Nat.le_of_ble_eq_true rfl) hl (sH_at (i := 8) (by decide)) rfl (Nat.le_of_ble_eq_true rfl) (s_X3_reset) sH_22 ?_
  refine r_aload_n (pc := 14) dX7_send_14 rfl rfl ?_
  refine cs_get0 (pc := 15) dX7_send_15 rfl f_RX7_12 rfl ?_
  refine cs_get (i := 1) (pc := 18) dX7_send_18 rfl f_RX7_82 (by decide) rfl rfl ?_
  refine r_aload_n (pc := 21) dX7_send_21 rfl rfl ?_
  refine cs_get0 (pc := 22) dX7_send_22 rfl f_RX7_12 rfl ?_
  refine cs_get (i := 1) (pc := 25) dX7_send_25 rfl f_RX7_143 (by decide) rfl rfl ?_
  refine r_isub (pc := 28) dX7_send_28 ?_
  rw [show upd X 41 0 0 - upd X 41 0 1 = X 0 - X 1 by rw [upd_n (by decide), upd_n (by decide)]]
  refine q_istore_n [_, _, _, _] (pc := 29) dX7_send_29 rfl (by decide) rfl ?_
  refine r_iconst (v := 0) (pc := 30) dX7_send_30 (by decide) ?_
  refine q_istore_n [_, _, _, _] (pc := 31) dX7_send_31 rfl (by decide) rfl ?_
  refine lp_X7_things hl (C := X) (X 0 - X 1) (upd X 41 0) K4 hK4 h4m hE0 K4 0 _ (by omega) rfl ?_
  refine r_aload_n (pc := 85) dX7_send_85 rfl rfl ?_
  refine r_iload_n (pc := 86) dX7_send_86 rfl rfl ?_
  refine q_callV (ci := 6) (T := TX7) (N := 7) (vs := [.int _]) (pc := 87) dX7_send_87 rfl l_RX7_159 rfl ⟨by decide, by decide⟩ rfl (Nat.le_of_ble_eq_true rfl) hl sH_0 rfl (Nat.le_of_ble_eq_true rfl) (s_X7_sendBlades hl _ X K5 hK5 h5m hE1) sH_22 ?_
  refine q_istore_n [_, _, _, _] (pc := 90) dX7_send_90 rfl (by decide) rfl ?_
  exact sg_X7_send hl _ _ X jn h13m hj20 hE2
theorem lp_X7_find {om : OM} {l : Launch} {B : Nat × Nat} {h0 : Hp} {b : Nat} {C : Nat → Int32} {W : Nat → Int64} {Post : Out → Hp → Prop} (hl : l.stackTraces = false) (K D : Nat) (hK : C 41 = nI K) (hK15 : K ≤ 15) (hD : C 0 = nI D) (hD1 : D ≤ 10000) (hnn : ∀ e, e < K → 0 ≤ C (42 + 4 * e + 1)) : ∀ (n9 k : Nat) (g : Nat → Int32), k + n9 = K → g = itN (K_fcb W) k C → Runs om l M_X7_findCandidates B 78 [some (.ref b), some (.int (nI K)), none] [] (sH h0 b ((itN (K_fcb W) K C)) W) Post → Runs om l M_X7_findCandidates B 2 [some (.ref b), some (.int (nI k)), none] [] (sH h0 b g W) Post := by
  intro n9
  induction n9 with
  | zero =>
    intro k g hk e_g KK
    have hLI := KLI_fc (W := W) (A := C) k (by omega)
    rw [← e_g] at hLI
    have h41g : g 41 = nI K := (hLI 41 (by omega) (by omega)).trans hK
    have hDg : g 0 = nI D := (hLI 0 (by omega) (by omega)).trans hD
    have e9 : k = K := by omega
    refine r_iload_n (pc := 2) dX7_findCandidates_2 rfl rfl ?_
    refine r_aload_n (pc := 3) dX7_findCandidates_3 rfl rfl ?_
    refine cs_get0 (pc := 4) dX7_findCandidates_4 rfl f_RX7_35 rfl ?_
    refine cs_get (i := 8) (pc := 7) dX7_findCandidates_7 rfl f_RX7_131 (by decide) rfl rfl ?_
    refine r_icmp_ge 78 (pc := 10) dX7_findCandidates_10 (by decide) (fun c10 => ?_) (fun c10 => absurd (c_get rfl h41g (a := k) (b := K) (by omega) (by omega) (by omega)) c10)
    subst e9
    subst e_g
    exact KK
  | succ n9 ih =>
    intro k g hk e_g KK
    have hLI := KLI_fc (W := W) (A := C) k (by omega)
    rw [← e_g] at hLI
    have h41g : g 41 = nI K := (hLI 41 (by omega) (by omega)).trans hK
    have hDg : g 0 = nI D := (hLI 0 (by omega) (by omega)).trans hD
    have hgd : g (42 + 4 * k + 1) = C (42 + 4 * k + 1) := hLI _ (by omega) (by omega)
    obtain ⟨x, hx31, hx⟩ := nn_ex (hnn k (by omega))
    have hgx := hgd.trans hx
    refine r_iload_n (pc := 2) dX7_findCandidates_2 rfl rfl ?_
    refine r_aload_n (pc := 3) dX7_findCandidates_3 rfl rfl ?_
    refine cs_get0 (pc := 4) dX7_findCandidates_4 rfl f_RX7_35 rfl ?_
    refine cs_get (i := 8) (pc := 7) dX7_findCandidates_7 rfl f_RX7_131 (by decide) rfl rfl ?_
    refine r_icmp_ge 78 (pc := 10) dX7_findCandidates_10 (by decide) (fun c10 => absurd c10 (c_gef rfl h41g (a := k) (b := K) (by omega) (by omega) (by omega))) (fun c10 => ?_)
    refine r_aload_n (pc := 13) dX7_findCandidates_13 rfl rfl ?_
    refine cs_get0 (pc := 14) dX7_findCandidates_14 rfl f_RX7_35 rfl ?_
    refine r_iload_n (pc := 17) dX7_findCandidates_17 rfl rfl ?_
    refine q_callV (ci := 2) (T := TX3) (N := 5) (vs := [.int _]) (pc := 18) dX7_findCandidates_18 rfl l_RX7_124 rfl ⟨by decide, by decide⟩ rfl (Nat.le_of_ble_eq_true rfl) hl (sH_at (i := 8) (by decide)) rfl (Nat.le_of_ble_eq_true rfl) (s_X3_distance hl _ k K rfl h41g (by omega) hK15) sH_22 ?_
    refine q_istore_n [_, _, _] (pc := 21) dX7_findCandidates_21 rfl (by decide) rfl ?_
    refine r_iload_n (pc := 22) dX7_findCandidates_22 rfl rfl ?_
    refine r_aload_n (pc := 23) dX7_findCandidates_23 rfl rfl ?_
    refine cs_get0 (pc := 24) dX7_findCandidates_24 rfl f_RX7_12 rfl ?_
    refine cs_get (i := 1) (pc := 27) dX7_findCandidates_27 rfl f_RX7_82 (by decide) rfl rfl ?_
    refine r_icmp_gt 72 (pc := 30) dX7_findCandidates_30 (by decide) (fun c30 => ?_) (fun c30 => ?_)
    · refine q_iinc (nI (k + 1)) [_, _, _] (pc := 72) dX7_findCandidates_72 rfl (by decide) (ninc 1 rfl) rfl ?_
      refine r_goto 2 (pc := 75) dX7_findCandidates_75 (by decide) ?_
      refine r_wk [some _, some _, none] ⟨rfl, ⟨rfl, trivial⟩⟩ ?_
      exact ih (k + 1) _ (by omega) (by rw [itN_s, ← e_g, K_fcb]; first | (rw [if_pos c30]; done) | (rw [if_neg c30, cl_nI hgx hx31, if_neg c41]; done) | (rw [if_neg c30, cl_nI hgx hx31, if_pos c41, if_pos c60]; done) | (rw [if_neg c30, cl_nI hgx hx31, if_pos c41, if_neg c60]; done)) KK
    · have hxD : x ≤ D := n_nlt hgx hDg hx31 (by omega) c30
      refine r_aload_n (pc := 33) dX7_findCandidates_33 rfl rfl ?_
      refine cs_get0 (pc := 34) dX7_findCandidates_34 rfl f_RX7_28 rfl ?_
      refine r_iload_n (pc := 37) dX7_findCandidates_37 rfl rfl ?_
      refine q_callV (ci := 4) (T := TX5) (N := 2) (vs := [.int _]) (pc := 38) dX7_findCandidates_38 rfl l_RX7_187 rfl ⟨by decide, by decide⟩ rfl (Nat.le_of_ble_eq_true rfl) hl (sH_at (i := 6) (by decide)) rfl (Nat.le_of_ble_eq_true rfl) (s_X5_covers hl x _ hgx (by omega)) sH_22 ?_
      refine r_if_ne 72 (pc := 41) dX7_findCandidates_41 (by decide) (fun c41 => ?_) (fun c41 => ?_)
      · refine q_iinc (nI (k + 1)) [_, _, _] (pc := 72) dX7_findCandidates_72 rfl (by decide) (ninc 1 rfl) rfl ?_
        refine r_goto 2 (pc := 75) dX7_findCandidates_75 (by decide) ?_
        refine r_wk [some _, some _, none] ⟨rfl, ⟨rfl, trivial⟩⟩ ?_
        exact ih (k + 1) _ (by omega) (by rw [itN_s, ← e_g, K_fcb]; first | (rw [if_pos c30]; done) | (rw [if_neg c30, cl_nI hgx hx31, if_neg c41]; done) | (rw [if_neg c30, cl_nI hgx hx31, if_pos c41, if_pos c60]; done) | (rw [if_neg c30, cl_nI hgx hx31, if_pos c41, if_neg c60]; done)) KK
      · refine r_aload_n (pc := 44) dX7_findCandidates_44 rfl rfl ?_
        refine cs_get0 (pc := 45) dX7_findCandidates_45 rfl f_RX7_35 rfl ?_
        refine r_iload_n (pc := 48) dX7_findCandidates_48 rfl rfl ?_
        refine q_callV (ci := 2) (T := TX3) (N := 5) (vs := [.int _]) (pc := 49) dX7_findCandidates_49 rfl l_RX7_190 rfl ⟨by decide, by decide⟩ rfl (Nat.le_of_ble_eq_true rfl) hl (sH_at (i := 8) (by decide)) rfl (Nat.le_of_ble_eq_true rfl) (s_X3_strength hl _ k K rfl h41g (by omega) hK15) sH_22 ?_
        refine r_aload_n (pc := 52) dX7_findCandidates_52 rfl rfl ?_
        refine cs_get0 (pc := 53) dX7_findCandidates_53 rfl f_RX7_21 rfl ?_
        refine r_iload_n (pc := 56) dX7_findCandidates_56 rfl rfl ?_
        refine q_callV (ci := 5) (T := TX6) (N := 1) (vs := [.int _]) (pc := 57) dX7_findCandidates_57 rfl l_RX7_193 rfl ⟨by decide, by decide⟩ rfl (Nat.le_of_ble_eq_true rfl) hl (sH_at (i := 4) (by decide)) rfl (Nat.le_of_ble_eq_true rfl) (s_X6_needAt hl _) sH_22 ?_
        refine r_icmp_lt 72 (pc := 60) dX7_findCandidates_60 (by decide) (fun c60 => ?_) (fun c60 => ?_)
        · refine q_iinc (nI (k + 1)) [_, _, _] (pc := 72) dX7_findCandidates_72 rfl (by decide) (ninc 1 rfl) rfl ?_
          refine r_goto 2 (pc := 75) dX7_findCandidates_75 (by decide) ?_
          refine r_wk [some _, some _, none] ⟨rfl, ⟨rfl, trivial⟩⟩ ?_
          exact ih (k + 1) _ (by omega) (by rw [itN_s, ← e_g, K_fcb]; first | (rw [if_pos c30]; done) | (rw [if_neg c30, cl_nI hgx hx31, if_neg c41]; done) | (rw [if_neg c30, cl_nI hgx hx31, if_pos c41, if_pos c60]; done) | (rw [if_neg c30, cl_nI hgx hx31, if_pos c41, if_neg c60]; done)) KK
        · refine r_aload_n (pc := 63) dX7_findCandidates_63 rfl rfl ?_
          refine cs_get0 (pc := 64) dX7_findCandidates_64 rfl f_RX7_35 rfl ?_
          refine r_iload_n (pc := 67) dX7_findCandidates_67 rfl rfl ?_
          refine r_iconst (v := 1) (pc := 68) dX7_findCandidates_68 (by decide) ?_
          refine q_callV (ci := 2) (T := TX3) (N := 5) (vs := [.int _, .int _]) (pc := 69) dX7_findCandidates_69 rfl l_RX7_118 rfl ⟨by decide, by decide⟩ rfl (Nat.le_of_ble_eq_true rfl) hl (sH_at (i := 8) (by decide)) rfl (Nat.le_of_ble_eq_true rfl) (s_X3_mark hl _ k K rfl h41g (by omega) hK15 _) sH_22 ?_
          refine q_iinc (nI (k + 1)) [_, _, _] (pc := 72) dX7_findCandidates_72 rfl (by decide) (ninc 1 rfl) rfl ?_
          refine r_goto 2 (pc := 75) dX7_findCandidates_75 (by decide) ?_
          refine r_wk [some _, some _, none] ⟨rfl, ⟨rfl, trivial⟩⟩ ?_
          exact ih (k + 1) _ (by omega) (by rw [itN_s, ← e_g, K_fcb]; first | (rw [if_pos c30]; done) | (rw [if_neg c30, cl_nI hgx hx31, if_neg c41]; done) | (rw [if_neg c30, cl_nI hgx hx31, if_pos c41, if_pos c60]; done) | (rw [if_neg c30, cl_nI hgx hx31, if_pos c41, if_neg c60]; done)) KK
theorem s_X7_findCandidates {om : OM} {l : Launch} {B : Nat × Nat} {h0 : Hp} {b : Nat} {C : Nat → Int32} {W : Nat → Int64} (hl : l.stackTraces = false) (K D : Nat) (hK : C 41 = nI K) (hK15 : K ≤ 15) (hD : C 0 = nI D) (hD1 : D ≤ 10000) (hnn : ∀ e, e < K → 0 ≤ C (42 + 4 * e + 1)) : Runs om l M_X7_findCandidates B 0 (entL 3 [.ref b]) [] (sH h0 b C W) (Det (none) (sH h0 b (K_find W C) W)) := by
  show Runs om l M_X7_findCandidates B 0 [some (.ref b), none, none] [] _ _
  refine r_iconst (v := 0) (pc := 0) dX7_findCandidates_0 (by decide) ?_
  refine q_istore_n [_, _, _] (pc := 1) dX7_findCandidates_1 rfl (by decide) rfl ?_
  rw [show K_find W C = itN (K_fcb W) K C by rw [K_find, cl_nI hK (by omega)]]
  refine lp_X7_find hl K D hK hK15 hD hD1 hnn K 0 _ (by omega) rfl ?_
  exact r_return (S := []) (pc := 78) dX7_findCandidates_78 rfl ⟨rfl, rfl⟩
theorem lp_X7_drop {om : OM} {l : Launch} {B : Nat × Nat} {h0 : Hp} {b : Nat} {C : Nat → Int32} {W : Nat → Int64} {Post : Out → Hp → Prop} (hl : l.stackTraces = false) (K Ka Kb : Nat) (hK : C 41 = nI K) (hK15 : K ≤ 15) (ha : C 102 = nI Ka) (hKa : Ka ≤ 15) (hb : C 118 = nI Kb) (hKb : Kb ≤ 15) : ∀ (n9 k : Nat) (g : Nat → Int32), k + n9 = K → g = itN K_drb k C → Runs om l M_X7_dropBlades B 112 [some (.ref b), some (.int (nI K)), none] [] (sH h0 b ((itN K_drb K C)) W) Post → Runs om l M_X7_dropBlades B 2 [some (.ref b), some (.int (nI k)), none] [] (sH h0 b g W) Post := by
  intro n9
  induction n9 with
  | zero =>
    intro k g hk e_g KK
    have hLI := KLI_dr (A := C) k (by omega)
    rw [← e_g] at hLI
    have h41g : g 41 = nI K := (hLI 41 (by omega) (by omega)).trans hK
    have hag : g 102 = nI Ka := (hLI 102 (by omega) (by omega)).trans ha
    have hbg : g 118 = nI Kb := (hLI 118 (by omega) (by omega)).trans hb
    have e9 : k = K := by omega
    refine r_iload_n (pc := 2) dX7_dropBlades_2 rfl rfl ?_
    refine r_aload_n (pc := 3) dX7_dropBlades_3 rfl rfl ?_
    refine cs_get0 (pc := 4) dX7_dropBlades_4 rfl f_RX7_35 rfl ?_
    refine cs_get (i := 8) (pc := 7) dX7_dropBlades_7 rfl f_RX7_131 (by decide) rfl rfl ?_
    refine r_icmp_ge 112 (pc := 10) dX7_dropBlades_10 (by decide) (fun c10 => ?_) (fun c10 => absurd (c_get rfl h41g (a := k) (b := K) (by omega) (by omega) (by omega)) c10)
    subst e9
    subst e_g
    exact KK
  | succ n9 ih =>
    intro k g hk e_g KK
    have hLI := KLI_dr (A := C) k (by omega)
    rw [← e_g] at hLI
    have h41g : g 41 = nI K := (hLI 41 (by omega) (by omega)).trans hK
    have hag : g 102 = nI Ka := (hLI 102 (by omega) (by omega)).trans ha
    have hbg : g 118 = nI Kb := (hLI 118 (by omega) (by omega)).trans hb
    refine r_iload_n (pc := 2) dX7_dropBlades_2 rfl rfl ?_
    refine r_aload_n (pc := 3) dX7_dropBlades_3 rfl rfl ?_
    refine cs_get0 (pc := 4) dX7_dropBlades_4 rfl f_RX7_35 rfl ?_
    refine cs_get (i := 8) (pc := 7) dX7_dropBlades_7 rfl f_RX7_131 (by decide) rfl rfl ?_
    refine r_icmp_ge 112 (pc := 10) dX7_dropBlades_10 (by decide) (fun c10 => absurd c10 (c_gef rfl h41g (a := k) (b := K) (by omega) (by omega) (by omega))) (fun c10 => ?_)
    refine r_aload_n (pc := 13) dX7_dropBlades_13 rfl rfl ?_
    refine cs_get0 (pc := 14) dX7_dropBlades_14 rfl f_RX7_35 rfl ?_
    refine r_iload_n (pc := 17) dX7_dropBlades_17 rfl rfl ?_
    refine q_callV (ci := 2) (T := TX3) (N := 5) (vs := [.int _]) (pc := 18) dX7_dropBlades_18 rfl l_RX7_124 rfl ⟨by decide, by decide⟩ rfl (Nat.le_of_ble_eq_true rfl) hl (sH_at (i := 8) (by decide)) rfl (Nat.le_of_ble_eq_true rfl) (s_X3_distance hl _ k K rfl h41g (by omega) hK15) sH_22 ?_
    refine q_istore_n [_, _, _] (pc := 21) dX7_dropBlades_21 rfl (by decide) rfl ?_
    refine r_aload_n (pc := 22) dX7_dropBlades_22 rfl rfl ?_
    refine cs_get0 (pc := 23) dX7_dropBlades_23 rfl f_RX7_35 rfl ?_
    refine r_iload_n (pc := 26) dX7_dropBlades_26 rfl rfl ?_
    refine r_iconst (v := 1) (pc := 27) dX7_dropBlades_27 (by decide) ?_
    refine q_callV (ci := 2) (T := TX3) (N := 5) (vs := [.int _, .int _]) (pc := 28) dX7_dropBlades_28 rfl l_RX7_196 rfl ⟨by decide, by decide⟩ rfl (Nat.le_of_ble_eq_true rfl) hl (sH_at (i := 8) (by decide)) rfl (Nat.le_of_ble_eq_true rfl) (s_X3_isMarked hl _ k K rfl h41g (by omega) hK15 _) sH_22 ?_
    refine r_if_eq 106 (pc := 31) dX7_dropBlades_31 (by decide) (fun c31 => ?_) (fun c31 => ?_)
    · refine q_iinc (nI (k + 1)) [_, _, _] (pc := 106) dX7_dropBlades_106 rfl (by decide) (ninc 1 rfl) rfl ?_
      refine r_goto 2 (pc := 109) dX7_dropBlades_109 (by decide) ?_
      refine r_wk [some _, some _, none] ⟨rfl, ⟨rfl, trivial⟩⟩ ?_
      exact ih (k + 1) _ (by omega) (by rw [itN_s, ← e_g, K_drb, cl_nI hag (by omega), cl_nI hbg (by omega)]; first | (rw [if_pos c31]; done) | (rw [if_neg c31, if_pos c45]; done) | (rw [if_neg c31, if_neg c45, if_pos c59]; done) | (rw [if_neg c31, if_neg c45, if_neg c59, if_pos c70, K_drX]; done) | (rw [if_neg c31, if_neg c45, if_neg c59, if_neg c70, if_pos c81, K_drX]; done) | (rw [if_neg c31, if_neg c45, if_neg c59, if_neg c70, if_neg c81]; done)) KK
    · refine r_iload_n (pc := 34) dX7_dropBlades_34 rfl rfl ?_
      refine r_aload_n (pc := 35) dX7_dropBlades_35 rfl rfl ?_
      refine cs_get0 (pc := 36) dX7_dropBlades_36 rfl f_RX7_12 rfl ?_
      refine cs_get (i := 1) (pc := 39) dX7_dropBlades_39 rfl f_RX7_178 (by decide) rfl rfl ?_
      refine r_bipush (v := 40) (pc := 42) dX7_dropBlades_42 (by decide) ?_
      refine r_isub (pc := 44) dX7_dropBlades_44 ?_
      refine r_icmp_lt 106 (pc := 45) dX7_dropBlades_45 (by decide) (fun c45 => ?_) (fun c45 => ?_)
      · refine q_iinc (nI (k + 1)) [_, _, _] (pc := 106) dX7_dropBlades_106 rfl (by decide) (ninc 1 rfl) rfl ?_
        refine r_goto 2 (pc := 109) dX7_dropBlades_109 (by decide) ?_
        refine r_wk [some _, some _, none] ⟨rfl, ⟨rfl, trivial⟩⟩ ?_
        exact ih (k + 1) _ (by omega) (by rw [itN_s, ← e_g, K_drb, cl_nI hag (by omega), cl_nI hbg (by omega)]; first | (rw [if_pos c31]; done) | (rw [if_neg c31, if_pos c45]; done) | (rw [if_neg c31, if_neg c45, if_pos c59]; done) | (rw [if_neg c31, if_neg c45, if_neg c59, if_pos c70, K_drX]; done) | (rw [if_neg c31, if_neg c45, if_neg c59, if_neg c70, if_pos c81, K_drX]; done) | (rw [if_neg c31, if_neg c45, if_neg c59, if_neg c70, if_neg c81]; done)) KK
      · refine r_iload_n (pc := 48) dX7_dropBlades_48 rfl rfl ?_
        refine r_aload_n (pc := 49) dX7_dropBlades_49 rfl rfl ?_
        refine cs_get0 (pc := 50) dX7_dropBlades_50 rfl f_RX7_12 rfl ?_
        refine cs_get (i := 1) (pc := 53) dX7_dropBlades_53 rfl f_RX7_181 (by decide) rfl rfl ?_
        refine r_bipush (v := 40) (pc := 56) dX7_dropBlades_56 (by decide) ?_
        refine r_iadd (pc := 58) dX7_dropBlades_58 ?_
        refine r_icmp_gt 106 (pc := 59) dX7_dropBlades_59 (by decide) (fun c59 => ?_) (fun c59 => ?_)
        · refine q_iinc (nI (k + 1)) [_, _, _] (pc := 106) dX7_dropBlades_106 rfl (by decide) (ninc 1 rfl) rfl ?_
          refine r_goto 2 (pc := 109) dX7_dropBlades_109 (by decide) ?_
          refine r_wk [some _, some _, none] ⟨rfl, ⟨rfl, trivial⟩⟩ ?_
          exact ih (k + 1) _ (by omega) (by rw [itN_s, ← e_g, K_drb, cl_nI hag (by omega), cl_nI hbg (by omega)]; first | (rw [if_pos c31]; done) | (rw [if_neg c31, if_pos c45]; done) | (rw [if_neg c31, if_neg c45, if_pos c59]; done) | (rw [if_neg c31, if_neg c45, if_neg c59, if_pos c70, K_drX]; done) | (rw [if_neg c31, if_neg c45, if_neg c59, if_neg c70, if_pos c81, K_drX]; done) | (rw [if_neg c31, if_neg c45, if_neg c59, if_neg c70, if_neg c81]; done)) KK
        · refine r_aload_n (pc := 62) dX7_dropBlades_62 rfl rfl ?_
          refine cs_get0 (pc := 63) dX7_dropBlades_63 rfl f_RX7_49 rfl ?_
          refine r_iload_n (pc := 66) dX7_dropBlades_66 rfl rfl ?_
          refine q_callV (ci := 1) (T := TX2) (N := 2) (vs := [.int _]) (pc := 67) dX7_dropBlades_67 rfl l_RX7_200 rfl ⟨by decide, by decide⟩ rfl (Nat.le_of_ble_eq_true rfl) hl (sH_at (i := 15) (by decide)) rfl (Nat.le_of_ble_eq_true rfl) (s_X2_hasNear15 _ Ka hag hKa) sH_22 ?_
          refine r_if_eq 84 (pc := 70) dX7_dropBlades_70 (by decide) (fun c70 => ?_) (fun c70 => ?_)
          · refine r_aload_n (pc := 84) dX7_dropBlades_84 rfl rfl ?_
            refine cs_get0 (pc := 85) dX7_dropBlades_85 rfl f_RX7_35 rfl ?_
            refine r_iload_n (pc := 88) dX7_dropBlades_88 rfl rfl ?_
            refine r_iconst (v := 2) (pc := 89) dX7_dropBlades_89 (by decide) ?_
            refine q_callV (ci := 2) (T := TX3) (N := 5) (vs := [.int _, .int _]) (pc := 90) dX7_dropBlades_90 rfl l_RX7_118 rfl ⟨by decide, by decide⟩ rfl (Nat.le_of_ble_eq_true rfl) hl (sH_at (i := 8) (by decide)) rfl (Nat.le_of_ble_eq_true rfl) (s_X3_mark hl _ k K rfl h41g (by omega) hK15 _) sH_22 ?_
            refine r_aload_n (pc := 93) dX7_dropBlades_93 rfl rfl ?_
            refine cs_get0 (pc := 94) dX7_dropBlades_94 rfl f_RX7_42 rfl ?_
            refine r_dup (pc := 97) dX7_dropBlades_97 rfl ?_
            refine cs_get (i := 13) (pc := 98) dX7_dropBlades_98 rfl f_RX7_203 (by decide) rfl rfl ?_
            refine r_iconst (v := 1) (pc := 101) dX7_dropBlades_101 (by decide) ?_
            refine r_iadd (pc := 102) dX7_dropBlades_102 ?_
            refine cs_put (i := 13) 29 (pc := 103) dX7_dropBlades_103 rfl f_RX7_203 (by decide) rfl (Nat.le_of_ble_eq_true rfl) rfl rfl ?_
            refine q_iinc (nI (k + 1)) [_, _, _] (pc := 106) dX7_dropBlades_106 rfl (by decide) (ninc 1 rfl) rfl ?_
            refine r_goto 2 (pc := 109) dX7_dropBlades_109 (by decide) ?_
            refine r_wk [some _, some _, none] ⟨rfl, ⟨rfl, trivial⟩⟩ ?_
            exact ih (k + 1) _ (by omega) (by rw [itN_s, ← e_g, K_drb, cl_nI hag (by omega), cl_nI hbg (by omega)]; first | (rw [if_pos c31]; done) | (rw [if_neg c31, if_pos c45]; done) | (rw [if_neg c31, if_neg c45, if_pos c59]; done) | (rw [if_neg c31, if_neg c45, if_neg c59, if_pos c70, K_drX]; done) | (rw [if_neg c31, if_neg c45, if_neg c59, if_neg c70, if_pos c81, K_drX]; done) | (rw [if_neg c31, if_neg c45, if_neg c59, if_neg c70, if_neg c81]; done)) KK
          · refine r_aload_n (pc := 73) dX7_dropBlades_73 rfl rfl ?_
            refine cs_get0 (pc := 74) dX7_dropBlades_74 rfl f_RX7_53 rfl ?_
            refine r_iload_n (pc := 77) dX7_dropBlades_77 rfl rfl ?_
            refine q_callV (ci := 1) (T := TX2) (N := 2) (vs := [.int _]) (pc := 78) dX7_dropBlades_78 rfl l_RX7_200 rfl ⟨by decide, by decide⟩ rfl (Nat.le_of_ble_eq_true rfl) hl (sH_at (i := 17) (by decide)) rfl (Nat.le_of_ble_eq_true rfl) (s_X2_hasNear17 _ Kb hbg hKb) sH_22 ?_
            refine r_if_ne 106 (pc := 81) dX7_dropBlades_81 (by decide) (fun c81 => ?_) (fun c81 => ?_)
            · refine q_iinc (nI (k + 1)) [_, _, _] (pc := 106) dX7_dropBlades_106 rfl (by decide) (ninc 1 rfl) rfl ?_
              refine r_goto 2 (pc := 109) dX7_dropBlades_109 (by decide) ?_
              refine r_wk [some _, some _, none] ⟨rfl, ⟨rfl, trivial⟩⟩ ?_
              exact ih (k + 1) _ (by omega) (by rw [itN_s, ← e_g, K_drb, cl_nI hag (by omega), cl_nI hbg (by omega)]; first | (rw [if_pos c31]; done) | (rw [if_neg c31, if_pos c45]; done) | (rw [if_neg c31, if_neg c45, if_pos c59]; done) | (rw [if_neg c31, if_neg c45, if_neg c59, if_pos c70, K_drX]; done) | (rw [if_neg c31, if_neg c45, if_neg c59, if_neg c70, if_pos c81, K_drX]; done) | (rw [if_neg c31, if_neg c45, if_neg c59, if_neg c70, if_neg c81]; done)) KK
            · refine r_aload_n (pc := 84) dX7_dropBlades_84 rfl rfl ?_
              refine cs_get0 (pc := 85) dX7_dropBlades_85 rfl f_RX7_35 rfl ?_
              refine r_iload_n (pc := 88) dX7_dropBlades_88 rfl rfl ?_
              refine r_iconst (v := 2) (pc := 89) dX7_dropBlades_89 (by decide) ?_
              refine q_callV (ci := 2) (T := TX3) (N := 5) (vs := [.int _, .int _]) (pc := 90) dX7_dropBlades_90 rfl l_RX7_118 rfl ⟨by decide, by decide⟩ rfl (Nat.le_of_ble_eq_true rfl) hl (sH_at (i := 8) (by decide)) rfl (Nat.le_of_ble_eq_true rfl) (s_X3_mark hl _ k K rfl h41g (by omega) hK15 _) sH_22 ?_
              refine r_aload_n (pc := 93) dX7_dropBlades_93 rfl rfl ?_
              refine cs_get0 (pc := 94) dX7_dropBlades_94 rfl f_RX7_42 rfl ?_
              refine r_dup (pc := 97) dX7_dropBlades_97 rfl ?_
              refine cs_get (i := 13) (pc := 98) dX7_dropBlades_98 rfl f_RX7_203 (by decide) rfl rfl ?_
              refine r_iconst (v := 1) (pc := 101) dX7_dropBlades_101 (by decide) ?_
              refine r_iadd (pc := 102) dX7_dropBlades_102 ?_
              refine cs_put (i := 13) 29 (pc := 103) dX7_dropBlades_103 rfl f_RX7_203 (by decide) rfl (Nat.le_of_ble_eq_true rfl) rfl rfl ?_
              refine q_iinc (nI (k + 1)) [_, _, _] (pc := 106) dX7_dropBlades_106 rfl (by decide) (ninc 1 rfl) rfl ?_
              refine r_goto 2 (pc := 109) dX7_dropBlades_109 (by decide) ?_
              refine r_wk [some _, some _, none] ⟨rfl, ⟨rfl, trivial⟩⟩ ?_
              exact ih (k + 1) _ (by omega) (by rw [itN_s, ← e_g, K_drb, cl_nI hag (by omega), cl_nI hbg (by omega)]; first | (rw [if_pos c31]; done) | (rw [if_neg c31, if_pos c45]; done) | (rw [if_neg c31, if_neg c45, if_pos c59]; done) | (rw [if_neg c31, if_neg c45, if_neg c59, if_pos c70, K_drX]; done) | (rw [if_neg c31, if_neg c45, if_neg c59, if_neg c70, if_pos c81, K_drX]; done) | (rw [if_neg c31, if_neg c45, if_neg c59, if_neg c70, if_neg c81]; done)) KK
theorem s_X7_dropBlades {om : OM} {l : Launch} {B : Nat × Nat} {h0 : Hp} {b : Nat} {C : Nat → Int32} {W : Nat → Int64} (hl : l.stackTraces = false) (K Ka Kb : Nat) (hK : C 41 = nI K) (hK15 : K ≤ 15) (ha : C 102 = nI Ka) (hKa : Ka ≤ 15) (hb : C 118 = nI Kb) (hKb : Kb ≤ 15) : Runs om l M_X7_dropBlades B 0 (entL 3 [.ref b]) [] (sH h0 b C W) (Det (none) (sH h0 b (K_drop C) W)) := by
  show Runs om l M_X7_dropBlades B 0 [some (.ref b), none, none] [] _ _
  refine r_iconst (v := 0) (pc := 0) dX7_dropBlades_0 (by decide) ?_
  refine q_istore_n [_, _, _] (pc := 1) dX7_dropBlades_1 rfl (by decide) rfl ?_
  rw [show K_drop C = itN K_drb K C by rw [K_drop, cl_nI hK (by omega)]]
  refine lp_X7_drop hl K Ka Kb hK hK15 ha hKa hb hKb K 0 _ (by omega) rfl ?_
  exact r_return (S := []) (pc := 112) dX7_dropBlades_112 rfl ⟨rfl, rfl⟩
