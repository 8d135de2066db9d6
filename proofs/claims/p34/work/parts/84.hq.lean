/-! the gauge's constructor -/
def hZ : Hp := (fun _ => dead, 0, true)
theorem hZ_0 {e0 : va_E} {es : List va_E} : (hA hZ (e0 :: es)).1 0 = e0 := hA_0
theorem hZ_s {e e0 : va_E} {es : List va_E} : hs (hA hZ (e0 :: es)) 0 e = hA hZ (e :: es) := hA_hs0
def ctE : List va_E := [.inr (0, [.int 0, .ref 41, .int 0, .null, .ref 42]), .inl (1, 150, .inl (fun _ => 0)), .inl (0, 5, .inl (fun _ => 0))]
def h39 : Hp := hA hZ (.inr (8, gf 0 0) :: (stL 1 ++ stL 20))
def f4 : Nat → Option Nat := va_up (va_up (va_up (va_up (fun _ => none) 0 (some 43)) 1 (some 62)) 2 (some 81)) 3 (some 100)
def G118 : Hp := hA h39 (svE f4 :: ((((ctE ++ stL 43) ++ stL 62) ++ stL 81) ++ stL 100))
theorem h39_0 : h39.1 0 = .inr (8, gf 0 0) := hZ_0
theorem c_X10_init {om : OM} {l : Launch} (hl : l.stackTraces = false) : Runs om l M_X10_init (118, 1202) 0 (entL 2 [.ref 0]) [] (hA hZ [.inr (8, [.null, .null, .null, .int 0, .int 0, .null])]) (Det none G118) := by
  show Runs om l M_X10_init (118, 1202) 0 [some (.ref 0), none] [] _ _
  refine r_aload_n (pc := 0) dX10_init_0 rfl rfl ?_
  refine r_objinit (pc := 1) dX10_init_1 rfl l_RX10_3 oi_in oi_cd (by decide) (Nat.le_of_ble_eq_true rfl) ?_
  refine r_aload_n (pc := 4) dX10_init_4 rfl rfl ?_
  refine r_new (fs := [.null, .null, .null, .null, .null, .null, .null]) (pc := 5) dX10_init_5 rfl clf_6 c_RX10_9 n_RX7 i_RX7 df_X7 (fun _ => rfl) rfl (show 1 < 100000 by decide) (by decide) ?_
  rw [hA_one]
  refine r_dup (pc := 8) dX10_init_8 rfl ?_
  refine r_callIN (vs := []) 18 166 (pc := 9) dX10_init_9 rfl l_RX10_11 rfl rfl ⟨by decide, by decide⟩ rfl (Nat.le_of_ble_eq_true rfl) hl (by decide) (by decide) (Nat.le_of_ble_eq_true rfl) (c_X7_init hl rfl (show 1 < 800 by decide)) (fun E h1 z => by cases z.1) (fun o h1 z hq => by obtain ⟨-, rfl⟩ := z; exact ⟨rfl, rfl⟩) (fun o h1 z => ?_)
  obtain ⟨z1, rfl⟩ := z
  cases z1
  rw [hA_app]
  simp only [List.cons_append, List.nil_append]
  refine r_putfinal (pc := 12) dX10_init_12 rfl rfl (fun C T N z => by cases z; rfl) f_RX10_12 hZ_0 (fun _ => rfl) (fun _ => rfl) (Nat.le_of_ble_eq_true rfl) ?_
  rw [hZ_s]
  refine r_aload_n (pc := 15) dX10_init_15 rfl rfl ?_
  refine r_new (fs := [.null, .null, .null, .null, .null, .null, .null]) (pc := 16) dX10_init_16 rfl clf_6 c_RX10_9 n_RX7 i_RX7 df_X7 (fun _ => rfl) rfl (show 20 < 100000 by decide) (by decide) ?_
  rw [hA_one]
  refine r_dup (pc := 19) dX10_init_19 rfl ?_
  refine r_callIN (vs := []) 18 166 (pc := 20) dX10_init_20 rfl l_RX10_11 rfl rfl ⟨by decide, by decide⟩ rfl (Nat.le_of_ble_eq_true rfl) hl (by decide) (by decide) (Nat.le_of_ble_eq_true rfl) (c_X7_init hl rfl (show 20 < 800 by decide)) (fun E h1 z => by cases z.1) (fun o h1 z hq => by obtain ⟨-, rfl⟩ := z; exact ⟨rfl, rfl⟩) (fun o h1 z => ?_)
  obtain ⟨z1, rfl⟩ := z
  cases z1
  rw [hA_app]
  simp only [List.cons_append]
  refine r_putfinal (pc := 23) dX10_init_23 rfl rfl (fun C T N z => by cases z; rfl) f_RX10_16 hZ_0 (fun _ => rfl) (fun _ => rfl) (Nat.le_of_ble_eq_true rfl) ?_
  rw [hZ_s]
  refine r_aload_n (pc := 26) dX10_init_26 rfl rfl ?_
  refine r_iconst (v := 4) (pc := 27) dX10_init_27 rfl ?_
  refine r_anewarray (N := 4) (pc := 28) dX10_init_28 rfl c_RX10_9 ao_st (by decide) (by decide) (by decide) rfl (show 39 < 100000 by decide) (by decide) ?_
  rw [hA_push]
  simp only [List.cons_append]
  refine r_putfinal (pc := 31) dX10_init_31 rfl rfl (fun C T N z => by cases z; rfl) f_RX10_19 hZ_0 (fun _ => rfl) (fun _ => rfl) (Nat.le_of_ble_eq_true rfl) ?_
  rw [hZ_s]
  refine r_aload_n (pc := 34) dX10_init_34 rfl rfl ?_
  refine r_iconst (v := 0) (pc := 35) dX10_init_35 rfl ?_
  refine r_putfield (pc := 36) dX10_init_36 rfl f_RX10_23 hZ_0 (fun _ => rfl) (fun _ => rfl) (Nat.le_of_ble_eq_true rfl) ?_
  rw [hZ_s]
  refine r_aload_n (pc := 39) dX10_init_39 rfl rfl ?_
  refine r_iconst (v := 0) (pc := 40) dX10_init_40 rfl ?_
  refine r_putfield (pc := 41) dX10_init_41 rfl f_RX10_27 hZ_0 (fun _ => rfl) (fun _ => rfl) (Nat.le_of_ble_eq_true rfl) ?_
  rw [hZ_s]
  refine r_aload_n (pc := 44) dX10_init_44 rfl rfl ?_
  refine r_new (fs := [.int 0, .null, .int 0, .null, .null]) (pc := 45) dX10_init_45 rfl clf_0 c_RX10_30 n_RX1 i_RX1 df_X1 (fun _ => rfl) rfl (show 40 < 100000 by decide) (by decide) ?_
  rw [hA_one]
  refine r_dup (pc := 48) dX10_init_48 rfl ?_
  refine r_callIN (vs := []) 2 155 (pc := 49) dX10_init_49 rfl l_RX10_32 rfl rfl ⟨by decide, by decide⟩ rfl (Nat.le_of_ble_eq_true rfl) hl (by decide) (by decide) (Nat.le_of_ble_eq_true rfl) (c_X1_init hl rfl (show 40 < 1000 by decide)) (fun E h1 z => by cases z.1) (fun o h1 z hq => by obtain ⟨-, rfl⟩ := z; exact ⟨rfl, rfl⟩) (fun o h1 z => ?_)
  obtain ⟨z1, rfl⟩ := z
  cases z1
  rw [hA_app]
  simp only [List.cons_append]
  refine r_putfinal (pc := 52) dX10_init_52 rfl rfl (fun C T N z => by cases z; rfl) f_RX10_33 hZ_0 (fun _ => rfl) (fun _ => rfl) (Nat.le_of_ble_eq_true rfl) ?_
  rw [hZ_s]
  refine r_iconst (v := nI 0) (pc := 55) dX10_init_55 rfl ?_
  refine q_istore_n [_, _] (pc := 56) dX10_init_56 rfl (by decide) rfl ?_
  have e39 : hA h39 (svE (fun _ => none) :: ctE) = hA hZ ((.inr (8, gf 0 0) :: (stL 1 ++ stL 20)) ++ (svE (fun _ => none) :: ctE)) := hA_app
  have K : Runs om l M_X10_init (76, 692) 57 [some (.ref 0), some (.int (nI 0))] [] (hA h39 (svE (fun _ => none) :: ctE)) (Det none G118) := by
    refine x10_round (k := 0) hl rfl rfl h39_0 (by decide) (by decide) (by decide) ?_
    refine x10_round (k := 1) hl rfl rfl h39_0 (by decide) (by decide) (by decide) ?_
    refine x10_round (k := 2) hl rfl rfl h39_0 (by decide) (by decide) (by decide) ?_
    refine x10_round (k := 3) hl rfl rfl h39_0 (by decide) (by decide) (by decide) ?_
    refine r_iload_n (pc := 57) dX10_init_57 rfl rfl ?_
    refine r_aload_n (pc := 58) dX10_init_58 rfl rfl ?_
    refine r_getfield (pc := 59) dX10_init_59 rfl f_RX10_19 ((hA_lo (show 0 < 39 by decide)).trans h39_0) rfl ?_
    refine r_alen (v := nI 4) (pc := 62) dX10_init_62 (hA_0 (h := h39)) (by decide) rfl ?_
    refine r_icmp_ge 85 (pc := 63) dX10_init_63 (by decide) (fun _ => ?_) (fun z => absurd (Int32.le_refl _) z)
    exact r_return (S := []) (pc := 85) dX10_init_85 rfl ⟨rfl, rfl⟩
  rw [e39] at K
  exact K
