/-! what is made: cells added one after another; the leaf constructors -/
def hA (h : Hp) (es : List va_E) : Hp := (fun j => if h.2.1 ≤ j ∧ j < h.2.1 + es.length then es.getD (j - h.2.1) dead else h.1 j, h.2.1 + es.length, h.2.2)
section HA
variable {h : Hp} {es es2 : List va_E} {e e0 : va_E}
theorem hA_push : hpush (hA h es) e = hA h (es ++ [e]) := by
  refine hp_ext (fun j => ?_) ?_
  · show (if j = h.2.1 + es.length then e else (if h.2.1 ≤ j ∧ j < h.2.1 + es.length then es.getD (j - h.2.1) dead else h.1 j)) = (if h.2.1 ≤ j ∧ j < h.2.1 + (es ++ [e]).length then (es ++ [e]).getD (j - h.2.1) dead else h.1 j)
    rw [List.length_append, List.length_singleton]
    by_cases h1 : j = h.2.1 + es.length
    · subst h1
      rw [if_pos rfl, if_pos (by omega), Nat.add_sub_cancel_left, List.getD_eq_getElem?_getD, List.getElem?_append_right (Nat.le_refl _), Nat.sub_self]
      rfl
    · rw [if_neg h1]
      by_cases h2 : h.2.1 ≤ j ∧ j < h.2.1 + es.length
      · rw [if_pos h2, if_pos (by omega), List.getD_eq_getElem?_getD, List.getD_eq_getElem?_getD, List.getElem?_append_left (by omega)]
      · rw [if_neg h2, if_neg (by omega)]
  · show (h.2.1 + es.length + 1, h.2.2) = (h.2.1 + (es ++ [e]).length, h.2.2)
    rw [List.length_append, List.length_singleton, Nat.add_assoc]
theorem hA_0 : (hA h (e0 :: es)).1 h.2.1 = e0 := by
  show (if h.2.1 ≤ h.2.1 ∧ h.2.1 < h.2.1 + (es.length + 1) then (e0 :: es).getD (h.2.1 - h.2.1) dead else h.1 h.2.1) = e0
  rw [if_pos (by omega), Nat.sub_self]
  rfl
theorem hA_hs0 : hs (hA h (e0 :: es)) h.2.1 e = hA h (e :: es) := by
  refine hp_ext (fun j => ?_) rfl
  show (if j = h.2.1 then e else (if h.2.1 ≤ j ∧ j < h.2.1 + (es.length + 1) then (e0 :: es).getD (j - h.2.1) dead else h.1 j)) = (if h.2.1 ≤ j ∧ j < h.2.1 + (es.length + 1) then (e :: es).getD (j - h.2.1) dead else h.1 j)
  by_cases h1 : j = h.2.1
  · subst h1
    rw [if_pos rfl, if_pos (by omega), Nat.sub_self]
    rfl
  · rw [if_neg h1]
    by_cases h2 : h.2.1 ≤ j ∧ j < h.2.1 + (es.length + 1)
    · rw [if_pos h2, if_pos h2]
      obtain ⟨q, hq⟩ : ∃ q, j - h.2.1 = q + 1 := ⟨j - h.2.1 - 1, by omega⟩
      rw [hq]
      rfl
    · rw [if_neg h2, if_neg h2]
theorem hA_nil : hA h [] = h := by
  refine hp_ext (fun j => ?_) rfl
  show (if h.2.1 ≤ j ∧ j < h.2.1 + 0 then _ else h.1 j) = h.1 j
  rw [if_neg (by omega)]
theorem hA_one : hpush h e = hA h [e] := by
  have := hA_push (h := h) (es := []) (e := e)
  rw [hA_nil] at this
  exact this
end HA
theorem t_X8_reset {om : OM} {l : Launch} {B : Nat × Nat} {h : Hp} {es : List va_E} {p q : Value} : Runs om l M_X8_reset B 0 (entL 1 [.ref h.2.1]) [] (hA h (.inr (7, [.int 0, .int 0, .int 0, .int 0, .int 0, p, q, .int 0, .int 0, .int 0, .int 0, .int 0, .int 0, .int 0]) :: es)) (Det none (hA h (.inr (7, [.int 2000, .int 500, .int 0, .int 0, .int 0, p, q, .int 0, .int 300, .int 600, .int 0, .int 47, .int 20, .int 1]) :: es))) := by
  show Runs om l M_X8_reset B 0 [some (.ref h.2.1)] [] _ _
  refine r_aload_n (pc := 0) dX8_reset_0 rfl rfl ?_
  refine r_sipush (v := 2000) (pc := 1) dX8_reset_1 rfl ?_
  refine r_putfield (pc := 4) dX8_reset_4 rfl f_RX8_21 hA_0 (fun _ => rfl) (fun _ => rfl) (Nat.le_of_ble_eq_true rfl) ?_
  rw [hA_hs0]
  refine r_aload_n (pc := 7) dX8_reset_7 rfl rfl ?_
  refine r_sipush (v := 500) (pc := 8) dX8_reset_8 rfl ?_
  refine r_putfield (pc := 11) dX8_reset_11 rfl f_RX8_25 hA_0 (fun _ => rfl) (fun _ => rfl) (Nat.le_of_ble_eq_true rfl) ?_
  rw [hA_hs0]
  refine r_aload_n (pc := 14) dX8_reset_14 rfl rfl ?_
  refine r_iconst (v := 0) (pc := 15) dX8_reset_15 rfl ?_
  refine r_putfield (pc := 16) dX8_reset_16 rfl f_RX8_28 hA_0 (fun _ => rfl) (fun _ => rfl) (Nat.le_of_ble_eq_true rfl) ?_
  rw [hA_hs0]
  refine r_aload_n (pc := 19) dX8_reset_19 rfl rfl ?_
  refine r_iconst (v := 0) (pc := 20) dX8_reset_20 rfl ?_
  refine r_putfield (pc := 21) dX8_reset_21 rfl f_RX8_31 hA_0 (fun _ => rfl) (fun _ => rfl) (Nat.le_of_ble_eq_true rfl) ?_
  rw [hA_hs0]
  refine r_aload_n (pc := 24) dX8_reset_24 rfl rfl ?_
  refine r_iconst (v := 0) (pc := 25) dX8_reset_25 rfl ?_
  refine r_putfield (pc := 26) dX8_reset_26 rfl f_RX8_34 hA_0 (fun _ => rfl) (fun _ => rfl) (Nat.le_of_ble_eq_true rfl) ?_
  rw [hA_hs0]
  refine r_aload_n (pc := 29) dX8_reset_29 rfl rfl ?_
  refine r_iconst (v := 0) (pc := 30) dX8_reset_30 rfl ?_
  refine r_putfield (pc := 31) dX8_reset_31 rfl f_RX8_37 hA_0 (fun _ => rfl) (fun _ => rfl) (Nat.le_of_ble_eq_true rfl) ?_
  rw [hA_hs0]
  refine r_aload_n (pc := 34) dX8_reset_34 rfl rfl ?_
  refine r_sipush (v := 300) (pc := 35) dX8_reset_35 rfl ?_
  refine r_putfield (pc := 38) dX8_reset_38 rfl f_RX8_40 hA_0 (fun _ => rfl) (fun _ => rfl) (Nat.le_of_ble_eq_true rfl) ?_
  rw [hA_hs0]
  refine r_aload_n (pc := 41) dX8_reset_41 rfl rfl ?_
  refine r_sipush (v := 600) (pc := 42) dX8_reset_42 rfl ?_
  refine r_putfield (pc := 45) dX8_reset_45 rfl f_RX8_43 hA_0 (fun _ => rfl) (fun _ => rfl) (Nat.le_of_ble_eq_true rfl) ?_
  rw [hA_hs0]
  refine r_aload_n (pc := 48) dX8_reset_48 rfl rfl ?_
  refine r_iconst (v := 0) (pc := 49) dX8_reset_49 rfl ?_
  refine r_putfield (pc := 50) dX8_reset_50 rfl f_RX8_46 hA_0 (fun _ => rfl) (fun _ => rfl) (Nat.le_of_ble_eq_true rfl) ?_
  rw [hA_hs0]
  refine r_aload_n (pc := 53) dX8_reset_53 rfl rfl ?_
  refine r_bipush (v := 47) (pc := 54) dX8_reset_54 rfl ?_
  refine r_putfield (pc := 56) dX8_reset_56 rfl f_RX8_49 hA_0 (fun _ => rfl) (fun _ => rfl) (Nat.le_of_ble_eq_true rfl) ?_
  rw [hA_hs0]
  refine r_aload_n (pc := 59) dX8_reset_59 rfl rfl ?_
  refine r_bipush (v := 20) (pc := 60) dX8_reset_60 rfl ?_
  refine r_putfield (pc := 62) dX8_reset_62 rfl f_RX8_52 hA_0 (fun _ => rfl) (fun _ => rfl) (Nat.le_of_ble_eq_true rfl) ?_
  rw [hA_hs0]
  refine r_aload_n (pc := 65) dX8_reset_65 rfl rfl ?_
  refine r_iconst (v := 1) (pc := 66) dX8_reset_66 rfl ?_
  refine r_putfield (pc := 67) dX8_reset_67 rfl f_RX8_55 hA_0 (fun _ => rfl) (fun _ => rfl) (Nat.le_of_ble_eq_true rfl) ?_
  rw [hA_hs0]
  exact r_return (S := []) (pc := 70) dX8_reset_70 rfl ⟨rfl, rfl⟩
theorem t_X4_reset {om : OM} {l : Launch} {B : Nat × Nat} {h : Hp} {es : List va_E} {p : Value} : Runs om l M_X4_reset B 0 (entL 1 [.ref h.2.1]) [] (hA h (.inr (3, [p, .int 0, .int 0, .int 0, .int 0, .int 0, .int 0, .int 0, .int 0]) :: es)) (Det none (hA h (.inr (3, [p, .int 0, .int (-1), .int 0, .int 0, .int 0, .int 0, .int 0, .int 0]) :: es))) := by
  show Runs om l M_X4_reset B 0 [some (.ref h.2.1)] [] _ _
  refine r_aload_n (pc := 0) dX4_reset_0 rfl rfl ?_
  refine r_iconst (v := 0) (pc := 1) dX4_reset_1 rfl ?_
  refine r_putfield (pc := 2) dX4_reset_2 rfl f_RX4_18 hA_0 (fun _ => rfl) (fun _ => rfl) (Nat.le_of_ble_eq_true rfl) ?_
  rw [hA_hs0]
  refine r_aload_n (pc := 5) dX4_reset_5 rfl rfl ?_
  refine r_iconst (v := -1) (pc := 6) dX4_reset_6 rfl ?_
  refine r_putfield (pc := 7) dX4_reset_7 rfl f_RX4_22 hA_0 (fun _ => rfl) (fun _ => rfl) (Nat.le_of_ble_eq_true rfl) ?_
  rw [hA_hs0]
  refine r_aload_n (pc := 10) dX4_reset_10 rfl rfl ?_
  refine r_iconst (v := 0) (pc := 11) dX4_reset_11 rfl ?_
  refine r_putfield (pc := 12) dX4_reset_12 rfl f_RX4_25 hA_0 (fun _ => rfl) (fun _ => rfl) (Nat.le_of_ble_eq_true rfl) ?_
  rw [hA_hs0]
  refine r_aload_n (pc := 15) dX4_reset_15 rfl rfl ?_
  refine r_iconst (v := 0) (pc := 16) dX4_reset_16 rfl ?_
  refine r_putfield (pc := 17) dX4_reset_17 rfl f_RX4_28 hA_0 (fun _ => rfl) (fun _ => rfl) (Nat.le_of_ble_eq_true rfl) ?_
  rw [hA_hs0]
  refine r_aload_n (pc := 20) dX4_reset_20 rfl rfl ?_
  refine r_iconst (v := 0) (pc := 21) dX4_reset_21 rfl ?_
  refine r_putfield (pc := 22) dX4_reset_22 rfl f_RX4_31 hA_0 (fun _ => rfl) (fun _ => rfl) (Nat.le_of_ble_eq_true rfl) ?_
  rw [hA_hs0]
  refine r_aload_n (pc := 25) dX4_reset_25 rfl rfl ?_
  refine r_iconst (v := 0) (pc := 26) dX4_reset_26 rfl ?_
  refine r_putfield (pc := 27) dX4_reset_27 rfl f_RX4_34 hA_0 (fun _ => rfl) (fun _ => rfl) (Nat.le_of_ble_eq_true rfl) ?_
  rw [hA_hs0]
  refine r_aload_n (pc := 30) dX4_reset_30 rfl rfl ?_
  refine r_iconst (v := 0) (pc := 31) dX4_reset_31 rfl ?_
  refine r_putfield (pc := 32) dX4_reset_32 rfl f_RX4_37 hA_0 (fun _ => rfl) (fun _ => rfl) (Nat.le_of_ble_eq_true rfl) ?_
  rw [hA_hs0]
  refine r_aload_n (pc := 35) dX4_reset_35 rfl rfl ?_
  refine r_iconst (v := 0) (pc := 36) dX4_reset_36 rfl ?_
  refine r_putfield (pc := 37) dX4_reset_37 rfl f_RX4_40 hA_0 (fun _ => rfl) (fun _ => rfl) (Nat.le_of_ble_eq_true rfl) ?_
  rw [hA_hs0]
  exact r_return (S := []) (pc := 40) dX4_reset_40 rfl ⟨rfl, rfl⟩
theorem c_X8_init {om : OM} {l : Launch} {h : Hp} (hl : l.stackTraces = false) (hc : h.2.2 = true) (hn : h.2.1 < 1000) : Runs om l M_X8_init (2, 12) 0 (entL 1 [.ref h.2.1]) [] (hA h [.inr (7, [.int 0, .int 0, .int 0, .int 0, .int 0, .null, .null, .int 0, .int 0, .int 0, .int 0, .int 0, .int 0, .int 0])]) (Det none (hA h [.inr (7, [.int 2000, .int 500, .int 0, .int 0, .int 0, .ref (h.2.1 + 1), .ref (h.2.1 + 2), .int 0, .int 300, .int 600, .int 0, .int 47, .int 20, .int 1]), .inl (0, 6, .inl (fun _ => 0)), .inl (0, 6, .inl (fun _ => 0))])) := by
  show Runs om l M_X8_init (2, 12) 0 [some (.ref h.2.1)] [] _ _
  refine r_aload_n (pc := 0) dX8_init_0 rfl rfl ?_
  refine r_objinit (pc := 1) dX8_init_1 rfl l_RX8_3 oi_in oi_cd (by decide) (Nat.le_of_ble_eq_true rfl) ?_
  refine r_aload_n (pc := 4) dX8_init_4 rfl rfl ?_
  refine r_bipush (v := 6) (pc := 5) dX8_init_5 rfl ?_
  refine r_newarray (t := 0) (N := 6) (x := .inl (fun _ => 0)) (pc := 7) dX8_init_7 ac_int rfl (fun _ => rfl) (fun C0 z => by cases z) (fun _ => rfl) (fun _ => rfl) (by decide) (by decide) (by decide) hc (show h.2.1 + 1 < 100000 by omega) (by decide) ?_
  rw [hA_push]
  simp only [List.cons_append, List.nil_append]
  refine r_putfinal (pc := 9) dX8_init_9 rfl rfl (fun C T N z => by cases z; rfl) f_RX8_9 hA_0 (fun _ => rfl) (fun _ => rfl) (Nat.le_of_ble_eq_true rfl) ?_
  rw [hA_hs0]
  refine r_aload_n (pc := 12) dX8_init_12 rfl rfl ?_
  refine r_bipush (v := 6) (pc := 13) dX8_init_13 rfl ?_
  refine r_newarray (t := 0) (N := 6) (x := .inl (fun _ => 0)) (pc := 15) dX8_init_15 ac_int rfl (fun _ => rfl) (fun C0 z => by cases z) (fun _ => rfl) (fun _ => rfl) (by decide) (by decide) (by decide) hc (show h.2.1 + 2 < 100000 by omega) (by decide) ?_
  rw [hA_push]
  simp only [List.cons_append, List.nil_append]
  refine r_putfinal (pc := 17) dX8_init_17 rfl rfl (fun C T N z => by cases z; rfl) f_RX8_15 hA_0 (fun _ => rfl) (fun _ => rfl) (Nat.le_of_ble_eq_true rfl) ?_
  rw [hA_hs0]
  refine r_aload_n (pc := 20) dX8_init_20 rfl rfl ?_
  refine q_callV (ci := 7) (T := TX8) (N := 14) (vs := []) (pc := 21) dX8_init_21 rfl l_RX8_18 rfl ⟨by decide, by decide⟩ rfl (Nat.le_of_ble_eq_true rfl) hl hA_0 rfl (Nat.le_of_ble_eq_true rfl) t_X8_reset rfl ?_
  exact r_return (S := []) (pc := 24) dX8_init_24 rfl ⟨rfl, rfl⟩
theorem c_X5_init {om : OM} {l : Launch} {h : Hp} (hl : l.stackTraces = false) (hc : h.2.2 = true) (hn : h.2.1 < 1000) : Runs om l M_X5_init (1, 8) 0 (entL 1 [.ref h.2.1]) [] (hA h [.inr (4, [.null, .int 0])]) (Det none (hA h [.inr (4, [.ref (h.2.1 + 1), .int 0]), .inl (2, 8, .inr (.inl (fun _ => 0)))])) := by
  show Runs om l M_X5_init (1, 8) 0 [some (.ref h.2.1)] [] _ _
  refine r_aload_n (pc := 0) dX5_init_0 rfl rfl ?_
  refine r_objinit (pc := 1) dX5_init_1 rfl l_RX5_3 oi_in oi_cd (by decide) (Nat.le_of_ble_eq_true rfl) ?_
  refine r_aload_n (pc := 4) dX5_init_4 rfl rfl ?_
  refine r_bipush (v := 8) (pc := 5) dX5_init_5 rfl ?_
  refine r_newarray (t := 2) (N := 8) (x := .inr (.inl (fun _ => 0))) (pc := 7) dX5_init_7 ac_long rfl (fun _ => rfl) (fun C0 z => by cases z) (fun _ => rfl) (fun _ => rfl) (by decide) (by decide) (by decide) hc (show h.2.1 + 1 < 100000 by omega) (by decide) ?_
  rw [hA_push]
  simp only [List.cons_append, List.nil_append]
  refine r_putfinal (pc := 9) dX5_init_9 rfl rfl (fun C T N z => by cases z; rfl) f_RX5_11 hA_0 (fun _ => rfl) (fun _ => rfl) (Nat.le_of_ble_eq_true rfl) ?_
  rw [hA_hs0]
  refine r_aload_n (pc := 12) dX5_init_12 rfl rfl ?_
  refine r_iconst (v := 0) (pc := 13) dX5_init_13 rfl ?_
  refine r_putfield (pc := 14) dX5_init_14 rfl f_RX5_15 hA_0 (fun _ => rfl) (fun _ => rfl) (Nat.le_of_ble_eq_true rfl) ?_
  rw [hA_hs0]
  exact r_return (S := []) (pc := 17) dX5_init_17 rfl ⟨rfl, rfl⟩
theorem c_X3_init {om : OM} {l : Launch} {h : Hp} (hl : l.stackTraces = false) (hc : h.2.2 = true) (hn : h.2.1 < 1000) : Runs om l M_X3_init (4, 60) 0 (entL 1 [.ref h.2.1]) [] (hA h [.inr (2, [.int 0, .null, .null, .null, .null])]) (Det none (hA h [.inr (2, [.int 0, .ref (h.2.1 + 1), .ref (h.2.1 + 2), .ref (h.2.1 + 3), .ref (h.2.1 + 4)]), .inl (0, 15, .inl (fun _ => 0)), .inl (0, 15, .inl (fun _ => 0)), .inl (0, 15, .inl (fun _ => 0)), .inl (0, 15, .inl (fun _ => 0))])) := by
  show Runs om l M_X3_init (4, 60) 0 [some (.ref h.2.1)] [] _ _
  refine r_aload_n (pc := 0) dX3_init_0 rfl rfl ?_
  refine r_objinit (pc := 1) dX3_init_1 rfl l_RX3_3 oi_in oi_cd (by decide) (Nat.le_of_ble_eq_true rfl) ?_
  refine r_aload_n (pc := 4) dX3_init_4 rfl rfl ?_
  refine r_iconst (v := 0) (pc := 5) dX3_init_5 rfl ?_
  refine r_putfield (pc := 6) dX3_init_6 rfl f_RX3_9 hA_0 (fun _ => rfl) (fun _ => rfl) (Nat.le_of_ble_eq_true rfl) ?_
  rw [hA_hs0]
  refine r_aload_n (pc := 9) dX3_init_9 rfl rfl ?_
  refine r_bipush (v := 15) (pc := 10) dX3_init_10 rfl ?_
  refine r_newarray (t := 0) (N := 15) (x := .inl (fun _ => 0)) (pc := 12) dX3_init_12 ac_int rfl (fun _ => rfl) (fun C0 z => by cases z) (fun _ => rfl) (fun _ => rfl) (by decide) (by decide) (by decide) hc (show h.2.1 + 1 < 100000 by omega) (by decide) ?_
  rw [hA_push]
  simp only [List.cons_append, List.nil_append]
  refine r_putfinal (pc := 14) dX3_init_14 rfl rfl (fun C T N z => by cases z; rfl) f_RX3_15 hA_0 (fun _ => rfl) (fun _ => rfl) (Nat.le_of_ble_eq_true rfl) ?_
  rw [hA_hs0]
  refine r_aload_n (pc := 17) dX3_init_17 rfl rfl ?_
  refine r_bipush (v := 15) (pc := 18) dX3_init_18 rfl ?_
  refine r_newarray (t := 0) (N := 15) (x := .inl (fun _ => 0)) (pc := 20) dX3_init_20 ac_int rfl (fun _ => rfl) (fun C0 z => by cases z) (fun _ => rfl) (fun _ => rfl) (by decide) (by decide) (by decide) hc (show h.2.1 + 2 < 100000 by omega) (by decide) ?_
  rw [hA_push]
  simp only [List.cons_append, List.nil_append]
  refine r_putfinal (pc := 22) dX3_init_22 rfl rfl (fun C T N z => by cases z; rfl) f_RX3_19 hA_0 (fun _ => rfl) (fun _ => rfl) (Nat.le_of_ble_eq_true rfl) ?_
  rw [hA_hs0]
  refine r_aload_n (pc := 25) dX3_init_25 rfl rfl ?_
  refine r_bipush (v := 15) (pc := 26) dX3_init_26 rfl ?_
  refine r_newarray (t := 0) (N := 15) (x := .inl (fun _ => 0)) (pc := 28) dX3_init_28 ac_int rfl (fun _ => rfl) (fun C0 z => by cases z) (fun _ => rfl) (fun _ => rfl) (by decide) (by decide) (by decide) hc (show h.2.1 + 3 < 100000 by omega) (by decide) ?_
  rw [hA_push]
  simp only [List.cons_append, List.nil_append]
  refine r_putfinal (pc := 30) dX3_init_30 rfl rfl (fun C T N z => by cases z; rfl) f_RX3_22 hA_0 (fun _ => rfl) (fun _ => rfl) (Nat.le_of_ble_eq_true rfl) ?_
  rw [hA_hs0]
  refine r_aload_n (pc := 33) dX3_init_33 rfl rfl ?_
  refine r_bipush (v := 15) (pc := 34) dX3_init_34 rfl ?_
  refine r_newarray (t := 0) (N := 15) (x := .inl (fun _ => 0)) (pc := 36) dX3_init_36 ac_int rfl (fun _ => rfl) (fun C0 z => by cases z) (fun _ => rfl) (fun _ => rfl) (by decide) (by decide) (by decide) hc (show h.2.1 + 4 < 100000 by omega) (by decide) ?_
  rw [hA_push]
  simp only [List.cons_append, List.nil_append]
  refine r_putfinal (pc := 38) dX3_init_38 rfl rfl (fun C T N z => by cases z; rfl) f_RX3_25 hA_0 (fun _ => rfl) (fun _ => rfl) (Nat.le_of_ble_eq_true rfl) ?_
  rw [hA_hs0]
  exact r_return (S := []) (pc := 41) dX3_init_41 rfl ⟨rfl, rfl⟩
theorem c_X4_init {om : OM} {l : Launch} {h : Hp} (hl : l.stackTraces = false) (hc : h.2.2 = true) (hn : h.2.1 < 1000) : Runs om l M_X4_init (1, 9) 0 (entL 1 [.ref h.2.1]) [] (hA h [.inr (3, [.null, .int 0, .int 0, .int 0, .int 0, .int 0, .int 0, .int 0, .int 0])]) (Det none (hA h [.inr (3, [.ref (h.2.1 + 1), .int 0, .int (-1), .int 0, .int 0, .int 0, .int 0, .int 0, .int 0]), .inl (0, 9, .inl (fun _ => 0))])) := by
  show Runs om l M_X4_init (1, 9) 0 [some (.ref h.2.1)] [] _ _
  refine r_aload_n (pc := 0) dX4_init_0 rfl rfl ?_
  refine r_objinit (pc := 1) dX4_init_1 rfl l_RX4_3 oi_in oi_cd (by decide) (Nat.le_of_ble_eq_true rfl) ?_
  refine r_aload_n (pc := 4) dX4_init_4 rfl rfl ?_
  refine r_bipush (v := 9) (pc := 5) dX4_init_5 rfl ?_
  refine r_newarray (t := 0) (N := 9) (x := .inl (fun _ => 0)) (pc := 7) dX4_init_7 ac_int rfl (fun _ => rfl) (fun C0 z => by cases z) (fun _ => rfl) (fun _ => rfl) (by decide) (by decide) (by decide) hc (show h.2.1 + 1 < 100000 by omega) (by decide) ?_
  rw [hA_push]
  simp only [List.cons_append, List.nil_append]
  refine r_putfinal (pc := 9) dX4_init_9 rfl rfl (fun C T N z => by cases z; rfl) f_RX4_9 hA_0 (fun _ => rfl) (fun _ => rfl) (Nat.le_of_ble_eq_true rfl) ?_
  rw [hA_hs0]
  refine r_aload_n (pc := 12) dX4_init_12 rfl rfl ?_
  refine q_callV (ci := 3) (T := TX4) (N := 9) (vs := []) (pc := 13) dX4_init_13 rfl l_RX4_15 rfl ⟨by decide, by decide⟩ rfl (Nat.le_of_ble_eq_true rfl) hl hA_0 rfl (Nat.le_of_ble_eq_true rfl) t_X4_reset rfl ?_
  exact r_return (S := []) (pc := 16) dX4_init_16 rfl ⟨rfl, rfl⟩
theorem c_X2_init {om : OM} {l : Launch} {h : Hp} (hl : l.stackTraces = false) (hc : h.2.2 = true) (hn : h.2.1 < 1000) : Runs om l M_X2_init (1, 15) 0 (entL 1 [.ref h.2.1]) [] (hA h [.inr (1, [.int 0, .null])]) (Det none (hA h [.inr (1, [.int 0, .ref (h.2.1 + 1)]), .inl (0, 15, .inl (fun _ => 0))])) := by
  show Runs om l M_X2_init (1, 15) 0 [some (.ref h.2.1)] [] _ _
  refine r_aload_n (pc := 0) dX2_init_0 rfl rfl ?_
  refine r_objinit (pc := 1) dX2_init_1 rfl l_RX2_3 oi_in oi_cd (by decide) (Nat.le_of_ble_eq_true rfl) ?_
  refine r_aload_n (pc := 4) dX2_init_4 rfl rfl ?_
  refine r_iconst (v := 0) (pc := 5) dX2_init_5 rfl ?_
  refine r_putfield (pc := 6) dX2_init_6 rfl f_RX2_9 hA_0 (fun _ => rfl) (fun _ => rfl) (Nat.le_of_ble_eq_true rfl) ?_
  rw [hA_hs0]
  refine r_aload_n (pc := 9) dX2_init_9 rfl rfl ?_
  refine r_bipush (v := 15) (pc := 10) dX2_init_10 rfl ?_
  refine r_newarray (t := 0) (N := 15) (x := .inl (fun _ => 0)) (pc := 12) dX2_init_12 ac_int rfl (fun _ => rfl) (fun C0 z => by cases z) (fun _ => rfl) (fun _ => rfl) (by decide) (by decide) (by decide) hc (show h.2.1 + 1 < 100000 by omega) (by decide) ?_
  rw [hA_push]
  simp only [List.cons_append, List.nil_append]
  refine r_putfinal (pc := 14) dX2_init_14 rfl rfl (fun C T N z => by cases z; rfl) f_RX2_15 hA_0 (fun _ => rfl) (fun _ => rfl) (Nat.le_of_ble_eq_true rfl) ?_
  rw [hA_hs0]
  exact r_return (S := []) (pc := 17) dX2_init_17 rfl ⟨rfl, rfl⟩
theorem c_X1_init {om : OM} {l : Launch} {h : Hp} (hl : l.stackTraces = false) (hc : h.2.2 = true) (hn : h.2.1 < 1000) : Runs om l M_X1_init (2, 155) 0 (entL 1 [.ref h.2.1]) [] (hA h [.inr (0, [.int 0, .null, .int 0, .null, .null])]) (Det none (hA h [.inr (0, [.int 0, .ref (h.2.1 + 1), .int 0, .null, .ref (h.2.1 + 2)]), .inl (1, 150, .inl (fun _ => 0)), .inl (0, 5, .inl (fun _ => 0))])) := by
  show Runs om l M_X1_init (2, 155) 0 [some (.ref h.2.1)] [] _ _
  refine r_aload_n (pc := 0) dX1_init_0 rfl rfl ?_
  refine r_objinit (pc := 1) dX1_init_1 rfl l_RX1_3 oi_in oi_cd (by decide) (Nat.le_of_ble_eq_true rfl) ?_
  refine r_aload_n (pc := 4) dX1_init_4 rfl rfl ?_
  refine r_iconst (v := 0) (pc := 5) dX1_init_5 rfl ?_
  refine r_putfield (pc := 6) dX1_init_6 rfl f_RX1_9 hA_0 (fun _ => rfl) (fun _ => rfl) (Nat.le_of_ble_eq_true rfl) ?_
  rw [hA_hs0]
  refine r_aload_n (pc := 9) dX1_init_9 rfl rfl ?_
  refine r_sipush (v := 150) (pc := 10) dX1_init_10 rfl ?_
  refine r_newarray (t := 1) (N := 150) (x := .inl (fun _ => 0)) (pc := 13) dX1_init_13 ac_byte rfl (fun _ => rfl) (fun C0 z => by cases z) (fun _ => rfl) (fun _ => rfl) (by decide) (by decide) (by decide) hc (show h.2.1 + 1 < 100000 by omega) (by decide) ?_
  rw [hA_push]
  simp only [List.cons_append, List.nil_append]
  refine r_putfinal (pc := 15) dX1_init_15 rfl rfl (fun C T N z => by cases z; rfl) f_RX1_15 hA_0 (fun _ => rfl) (fun _ => rfl) (Nat.le_of_ble_eq_true rfl) ?_
  rw [hA_hs0]
  refine r_aload_n (pc := 18) dX1_init_18 rfl rfl ?_
  refine r_iconst (v := 0) (pc := 19) dX1_init_19 rfl ?_
  refine r_putfield (pc := 20) dX1_init_20 rfl f_RX1_19 hA_0 (fun _ => rfl) (fun _ => rfl) (Nat.le_of_ble_eq_true rfl) ?_
  rw [hA_hs0]
  refine r_aload_n (pc := 23) dX1_init_23 rfl rfl ?_
  refine r_null (pc := 24) dX1_init_24 ?_
  refine r_putfield (pc := 25) dX1_init_25 rfl f_RX1_22 hA_0 (fun _ => rfl) (fun _ => rfl) (Nat.le_of_ble_eq_true rfl) ?_
  rw [hA_hs0]
  refine r_aload_n (pc := 28) dX1_init_28 rfl rfl ?_
  refine r_iconst (v := 5) (pc := 29) dX1_init_29 rfl ?_
  refine r_newarray (t := 0) (N := 5) (x := .inl (fun _ => 0)) (pc := 30) dX1_init_30 ac_int rfl (fun _ => rfl) (fun C0 z => by cases z) (fun _ => rfl) (fun _ => rfl) (by decide) (by decide) (by decide) hc (show h.2.1 + 2 < 100000 by omega) (by decide) ?_
  rw [hA_push]
  simp only [List.cons_append, List.nil_append]
  refine r_putfinal (pc := 32) dX1_init_32 rfl rfl (fun C T N z => by cases z; rfl) f_RX1_26 hA_0 (fun _ => rfl) (fun _ => rfl) (Nat.le_of_ble_eq_true rfl) ?_
  rw [hA_hs0]
  exact r_return (S := []) (pc := 35) dX1_init_35 rfl ⟨rfl, rfl⟩
