/-! settings made, a state made -/
theorem hA_app {h : Hp} {es es2 : List va_E} : hA (hA h es) es2 = hA h (es ++ es2) := by
  refine hp_ext (fun j => ?_) ?_
  · show (if h.2.1 + es.length ≤ j ∧ j < h.2.1 + es.length + es2.length then es2.getD (j - (h.2.1 + es.length)) dead else (if h.2.1 ≤ j ∧ j < h.2.1 + es.length then es.getD (j - h.2.1) dead else h.1 j)) = (if h.2.1 ≤ j ∧ j < h.2.1 + (es ++ es2).length then (es ++ es2).getD (j - h.2.1) dead else h.1 j)
    rw [List.length_append]
    by_cases h1 : h.2.1 + es.length ≤ j ∧ j < h.2.1 + es.length + es2.length
    · rw [if_pos h1, if_pos (by omega), List.getD_eq_getElem?_getD, List.getD_eq_getElem?_getD, List.getElem?_append_right (by omega), show j - h.2.1 - es.length = j - (h.2.1 + es.length) by omega]
    · rw [if_neg h1]
      by_cases h2 : h.2.1 ≤ j ∧ j < h.2.1 + es.length
      · rw [if_pos h2, if_pos (by omega), List.getD_eq_getElem?_getD, List.getD_eq_getElem?_getD, List.getElem?_append_left (by omega)]
      · rw [if_neg h2, if_neg (by omega)]
  · show (h.2.1 + es.length + es2.length, h.2.2) = (h.2.1 + (es ++ es2).length, h.2.2)
    rw [List.length_append, Nat.add_assoc]
theorem hA_1 {h : Hp} {e0 e1 : va_E} {es : List va_E} : (hA h (e0 :: e1 :: es)).1 (h.2.1 + 1) = e1 := by
  show (if h.2.1 ≤ h.2.1 + 1 ∧ h.2.1 + 1 < h.2.1 + (es.length + 1 + 1) then (e0 :: e1 :: es).getD (h.2.1 + 1 - h.2.1) dead else h.1 (h.2.1 + 1)) = e1
  rw [if_pos (by omega), Nat.add_sub_cancel_left]
  rfl
theorem hA_hs1 {h : Hp} {e e0 e1 : va_E} : hs (hA h [e0, e1]) (h.2.1 + 1) e = hA h [e0, e] := by
  refine hp_ext (fun j => ?_) rfl
  show (if j = h.2.1 + 1 then e else (if h.2.1 ≤ j ∧ j < h.2.1 + 2 then [e0, e1].getD (j - h.2.1) dead else h.1 j)) = (if h.2.1 ≤ j ∧ j < h.2.1 + 2 then [e0, e].getD (j - h.2.1) dead else h.1 j)
  by_cases h1 : j = h.2.1 + 1
  · subst h1
    rw [if_pos rfl, if_pos (by omega), Nat.add_sub_cancel_left]
    rfl
  · rw [if_neg h1]
    by_cases h2 : h.2.1 ≤ j ∧ j < h.2.1 + 2
    · have h3 : j = h.2.1 := by omega
      subst h3
      rw [if_pos h2, if_pos h2, Nat.sub_self]
      rfl
    · rw [if_neg h2, if_neg h2]
theorem z_ar {n : Nat} {f : Nat → Int32} (h : ∀ j, j < n → f j = 0) : (.inl (0, n, .inl (fun _ => 0)) : va_E) = ar n f := by
  have e : tr n f = fun _ => 0 := funext fun j => by
    unfold tr
    by_cases hj : j < n
    · rw [if_pos hj, h j hj]
    · rw [if_neg hj]
  show _ = (.inl (0, n, .inl (tr n f)) : va_E)
  rw [e]
/-- the row at the beginning -/
def A0 : Nat → Int32 := R_begins (upd (fun _ => 0) 11 1) 2000
def W0 : Nat → Int64 := fun _ => 0
def stL (b : Nat) : List va_E := [.inr (6, stf b), .inr (7, [.int 2000, .int 500, .int 0, .int 0, .int 0, .ref (b + 2), .ref (b + 3), .int 0, .int 300, .int 600, .int 0, .int 47, .int 20, .int 1]), .inl (0, 6, .inl (fun _ => 0)), .inl (0, 6, .inl (fun _ => 0)), .inr (5, [.ref (b + 5)]), ar 12 (fun j => c_first.getD j 0), .inr (4, [.ref (b + 7), .int 0]), .inl (2, 8, .inr (.inl (fun _ => 0))), .inr (2, [.int 0, .ref (b + 9), .ref (b + 10), .ref (b + 11), .ref (b + 12)]), .inl (0, 15, .inl (fun _ => 0)), .inl (0, 15, .inl (fun _ => 0)), .inl (0, 15, .inl (fun _ => 0)), .inl (0, 15, .inl (fun _ => 0)), .inr (3, [.ref (b + 14), .int 0, .int (-1), .int 0, .int 0, .int 0, .int 0, .int 0, .int 0]), .inl (0, 9, .inl (fun _ => 0)), .inr (1, [.int 0, .ref (b + 16)]), .inl (0, 15, .inl (fun _ => 0)), .inr (1, [.int 0, .ref (b + 18)]), .inl (0, 15, .inl (fun _ => 0))]
theorem A0_z {j : Nat} (h : 27 ≤ j ∧ j < 647) : A0 j = 0 := begins_lo (by omega)
theorem stL_ok {b : Nat} : ∀ i, i < 19 → (stL b).getD i dead = sc b A0 W0 i := by
  intro i hi
  have h19 : i = 0 ∨ i = 1 ∨ i = 2 ∨ i = 3 ∨ i = 4 ∨ i = 5 ∨ i = 6 ∨ i = 7 ∨ i = 8 ∨ i = 9 ∨ i = 10 ∨ i = 11 ∨ i = 12 ∨ i = 13 ∨ i = 14 ∨ i = 15 ∨ i = 16 ∨ i = 17 ∨ i = 18 := by omega
  rcases h19 with rfl | rfl | rfl | rfl | rfl | rfl | rfl | rfl | rfl | rfl | rfl | rfl | rfl | rfl | rfl | rfl | rfl | rfl | rfl
  · rfl
  · rfl
  · exact z_ar (fun j hj => A0_z (by omega))
  · exact z_ar (fun j hj => A0_z (by omega))
  · rfl
  · refine ar_congr (fun j hj => ?_)
    have h12 : j = 0 ∨ j = 1 ∨ j = 2 ∨ j = 3 ∨ j = 4 ∨ j = 5 ∨ j = 6 ∨ j = 7 ∨ j = 8 ∨ j = 9 ∨ j = 10 ∨ j = 11 := by omega
    rcases h12 with rfl | rfl | rfl | rfl | rfl | rfl | rfl | rfl | rfl | rfl | rfl | rfl <;> rfl
  · rfl
  · have e : trL 8 W0 = fun _ => 0 := funext fun j => by
      unfold trL W0
      split <;> rfl
    show (.inl (2, 8, .inr (.inl (fun _ => 0))) : va_E) = .inl (2, 8, .inr (.inl (trL 8 W0)))
    rw [e]
  · rfl
  · exact z_ar (fun j hj => A0_z (by omega))
  · exact z_ar (fun j hj => A0_z (by omega))
  · exact z_ar (fun j hj => A0_z (by omega))
  · exact z_ar (fun j hj => A0_z (by omega))
  · rfl
  · exact z_ar (fun j hj => A0_z (by omega))
  · rfl
  · exact z_ar (fun j hj => A0_z (by omega))
  · rfl
  · exact z_ar (fun j hj => A0_z (by omega))
theorem t_X6_reset {om : OM} {l : Launch} {B : Nat × Nat} {h : Hp} (hl : l.stackTraces = false) : Runs om l M_X6_reset B 0 (entL 1 [.ref h.2.1]) [] (hA h [.inr (5, [.ref (h.2.1 + 1)]), .inl (0, 12, .inl (fun _ => 0))]) (Det none (hA h [.inr (5, [.ref (h.2.1 + 1)]), ar 12 (fun j => c_first.getD j 0)])) := by
  show Runs om l M_X6_reset B 0 [some (.ref h.2.1)] [] _ _
  refine r_getstatic (pc := 0) dX6_reset_0 rfl (.head _) g_RX6_18 ?_
  refine r_aload_n (pc := 3) dX6_reset_3 rfl rfl ?_
  refine r_getfield (pc := 4) dX6_reset_4 rfl f_RX6_9 hA_0 rfl ?_
  refine q_callSN (vs := [.ref _, .ref _]) (pc := 7) dX6_reset_7 rfl l_RX6_21 rfl ⟨by decide, by decide⟩ rfl (Nat.le_of_ble_eq_true rfl) hl (Nat.le_of_ble_eq_true rfl) (s_copyRowF (hA_1.trans (z_ar (f := fun _ => 0) (fun _ _ => rfl)))) rfl ?_
  rw [hA_hs1]
  exact r_return (S := []) (pc := 10) dX6_reset_10 rfl ⟨rfl, rfl⟩
theorem c_X6_init {om : OM} {l : Launch} {h : Hp} (hl : l.stackTraces = false) (hc : h.2.2 = true) (hn : h.2.1 < 1000) : Runs om l M_X6_init (1, 12) 0 (entL 1 [.ref h.2.1]) [] (hA h [.inr (5, [.null])]) (Det none (hA h [.inr (5, [.ref (h.2.1 + 1)]), ar 12 (fun j => c_first.getD j 0)])) := by
  show Runs om l M_X6_init (1, 12) 0 [some (.ref h.2.1)] [] _ _
  refine r_aload_n (pc := 0) dX6_init_0 rfl rfl ?_
  refine r_objinit (pc := 1) dX6_init_1 rfl l_RX6_3 oi_in oi_cd (by decide) (Nat.le_of_ble_eq_true rfl) ?_
  refine r_aload_n (pc := 4) dX6_init_4 rfl rfl ?_
  refine r_bipush (v := 12) (pc := 5) dX6_init_5 rfl ?_
  refine r_newarray (t := 0) (N := 12) (x := .inl (fun _ => 0)) (pc := 7) dX6_init_7 ac_int rfl (fun _ => rfl) (fun C0 z => by cases z) (fun _ => rfl) (fun _ => rfl) (by decide) (by decide) (by decide) hc (show h.2.1 + 1 < 100000 by omega) (by decide) ?_
  rw [hA_push]
  simp only [List.cons_append, List.nil_append]
  refine r_putfinal (pc := 9) dX6_init_9 rfl rfl (fun C T N z => by cases z; rfl) f_RX6_9 hA_0 (fun _ => rfl) (fun _ => rfl) (Nat.le_of_ble_eq_true rfl) ?_
  rw [hA_hs0]
  refine r_aload_n (pc := 12) dX6_init_12 rfl rfl ?_
  refine q_callV (ci := 5) (T := TX6) (N := 1) (vs := []) (pc := 13) dX6_init_13 rfl l_RX6_15 rfl ⟨by decide, by decide⟩ rfl (Nat.le_of_ble_eq_true rfl) hl hA_0 rfl (Nat.le_of_ble_eq_true rfl) (t_X6_reset hl) rfl ?_
  exact r_return (S := []) (pc := 16) dX6_init_16 rfl ⟨rfl, rfl⟩
theorem df_X8 : ∀ j, j < 14 → defaultValue (tyX8 j) = vp_V [.int 0, .int 0, .int 0, .int 0, .int 0, .null, .null, .int 0, .int 0, .int 0, .int 0, .int 0, .int 0, .int 0] j := by
  intro j hj
  have hj2 : j = 0 ∨ j = 1 ∨ j = 2 ∨ j = 3 ∨ j = 4 ∨ j = 5 ∨ j = 6 ∨ j = 7 ∨ j = 8 ∨ j = 9 ∨ j = 10 ∨ j = 11 ∨ j = 12 ∨ j = 13 := by omega
  rcases hj2 with rfl | rfl | rfl | rfl | rfl | rfl | rfl | rfl | rfl | rfl | rfl | rfl | rfl | rfl <;> rfl
theorem df_X6 : ∀ j, j < 1 → defaultValue (tyX6 j) = vp_V [.null] j := by
  intro j hj
  have hj2 : j = 0 := by omega
  subst hj2; rfl
theorem df_X5 : ∀ j, j < 2 → defaultValue (tyX5 j) = vp_V [.null, .int 0] j := by
  intro j hj
  have hj2 : j = 0 ∨ j = 1 := by omega
  rcases hj2 with rfl | rfl <;> rfl
theorem df_X3 : ∀ j, j < 5 → defaultValue (tyX3 j) = vp_V [.int 0, .null, .null, .null, .null] j := by
  intro j hj
  have hj2 : j = 0 ∨ j = 1 ∨ j = 2 ∨ j = 3 ∨ j = 4 := by omega
  rcases hj2 with rfl | rfl | rfl | rfl | rfl <;> rfl
theorem df_X4 : ∀ j, j < 9 → defaultValue (tyX4 j) = vp_V [.null, .int 0, .int 0, .int 0, .int 0, .int 0, .int 0, .int 0, .int 0] j := by
  intro j hj
  have hj2 : j = 0 ∨ j = 1 ∨ j = 2 ∨ j = 3 ∨ j = 4 ∨ j = 5 ∨ j = 6 ∨ j = 7 ∨ j = 8 := by omega
  rcases hj2 with rfl | rfl | rfl | rfl | rfl | rfl | rfl | rfl | rfl <;> rfl
theorem df_X2 : ∀ j, j < 2 → defaultValue (tyX2 j) = vp_V [.int 0, .null] j := by
  intro j hj
  have hj2 : j = 0 ∨ j = 1 := by omega
  rcases hj2 with rfl | rfl <;> rfl
theorem df_X7 : ∀ j, j < 7 → defaultValue (tyX7 j) = vp_V [.null, .null, .null, .null, .null, .null, .null] j := by
  intro j hj
  have hj2 : j = 0 ∨ j = 1 ∨ j = 2 ∨ j = 3 ∨ j = 4 ∨ j = 5 ∨ j = 6 := by omega
  rcases hj2 with rfl | rfl | rfl | rfl | rfl | rfl | rfl <;> rfl
theorem df_X1 : ∀ j, j < 5 → defaultValue (tyX1 j) = vp_V [.int 0, .null, .int 0, .null, .null] j := by
  intro j hj
  have hj2 : j = 0 ∨ j = 1 ∨ j = 2 ∨ j = 3 ∨ j = 4 := by omega
  rcases hj2 with rfl | rfl | rfl | rfl | rfl <;> rfl
theorem c_X7_init {om : OM} {l : Launch} {h : Hp} (hl : l.stackTraces = false) (hc : h.2.2 = true) (hn : h.2.1 < 800) : Runs om l M_X7_init (18, 166) 0 (entL 1 [.ref h.2.1]) [] (hA h [.inr (6, [.null, .null, .null, .null, .null, .null, .null])]) (Det none (hA h (stL h.2.1))) := by
  show Runs om l M_X7_init (18, 166) 0 [some (.ref h.2.1)] [] _ _
  refine r_aload_n (pc := 0) dX7_init_0 rfl rfl ?_
  refine r_objinit (pc := 1) dX7_init_1 rfl l_RX7_3 oi_in oi_cd (by decide) (Nat.le_of_ble_eq_true rfl) ?_
  refine r_aload_n (pc := 4) dX7_init_4 rfl rfl ?_
  refine r_new (fs := [.int 0, .int 0, .int 0, .int 0, .int 0, .null, .null, .int 0, .int 0, .int 0, .int 0, .int 0, .int 0, .int 0]) (pc := 5) dX7_init_5 rfl clf_7 c_RX7_9 n_RX8 i_RX8 df_X8 (fun _ => rfl) hc (show h.2.1 + 1 < 100000 by omega) (by decide) ?_
  rw [hA_one]
  refine r_dup (pc := 8) dX7_init_8 rfl ?_
  refine r_callI (vs := []) 2 12 (pc := 9) dX7_init_9 rfl l_RX7_11 rfl rfl ⟨by decide, by decide⟩ rfl (Nat.le_of_ble_eq_true rfl) hl (by decide) (by decide) (Nat.le_of_ble_eq_true rfl) (c_X8_init hl hc (show h.2.1 + 1 < 1000 by omega)) (fun E h1 z => by cases z.1) (fun o h1 z hq => by obtain ⟨-, rfl⟩ := z; exact ⟨hc, rfl⟩) (fun o h1 z => ?_)
  obtain ⟨z1, rfl⟩ := z
  cases z1
  rw [hA_app]
  simp only [List.cons_append, List.nil_append]
  refine r_putfinal (pc := 12) dX7_init_12 rfl rfl (fun C T N z => by cases z; rfl) f_RX7_12 hA_0 (fun _ => rfl) (fun _ => rfl) (Nat.le_of_ble_eq_true rfl) ?_
  rw [hA_hs0]
  refine r_aload_n (pc := 15) dX7_init_15 rfl rfl ?_
  refine r_new (fs := [.null]) (pc := 16) dX7_init_16 rfl clf_5 c_RX7_18 n_RX6 i_RX6 df_X6 (fun _ => rfl) hc (show h.2.1 + 4 < 100000 by omega) (by decide) ?_
  rw [hA_one]
  refine r_dup (pc := 19) dX7_init_19 rfl ?_
  refine r_callI (vs := []) 1 12 (pc := 20) dX7_init_20 rfl l_RX7_20 rfl rfl ⟨by decide, by decide⟩ rfl (Nat.le_of_ble_eq_true rfl) hl (by decide) (by decide) (Nat.le_of_ble_eq_true rfl) (c_X6_init hl hc (show h.2.1 + 4 < 1000 by omega)) (fun E h1 z => by cases z.1) (fun o h1 z hq => by obtain ⟨-, rfl⟩ := z; exact ⟨hc, rfl⟩) (fun o h1 z => ?_)
  obtain ⟨z1, rfl⟩ := z
  cases z1
  rw [hA_app]
  simp only [List.cons_append, List.nil_append]
  refine r_putfinal (pc := 23) dX7_init_23 rfl rfl (fun C T N z => by cases z; rfl) f_RX7_21 hA_0 (fun _ => rfl) (fun _ => rfl) (Nat.le_of_ble_eq_true rfl) ?_
  rw [hA_hs0]
  refine r_aload_n (pc := 26) dX7_init_26 rfl rfl ?_
  refine r_new (fs := [.null, .int 0]) (pc := 27) dX7_init_27 rfl clf_4 c_RX7_25 n_RX5 i_RX5 df_X5 (fun _ => rfl) hc (show h.2.1 + 6 < 100000 by omega) (by decide) ?_
  rw [hA_one]
  refine r_dup (pc := 30) dX7_init_30 rfl ?_
  refine r_callIN (vs := []) 1 8 (pc := 31) dX7_init_31 rfl l_RX7_27 rfl rfl ⟨by decide, by decide⟩ rfl (Nat.le_of_ble_eq_true rfl) hl (by decide) (by decide) (Nat.le_of_ble_eq_true rfl) (c_X5_init hl hc (show h.2.1 + 6 < 1000 by omega)) (fun E h1 z => by cases z.1) (fun o h1 z hq => by obtain ⟨-, rfl⟩ := z; exact ⟨hc, rfl⟩) (fun o h1 z => ?_)
  obtain ⟨z1, rfl⟩ := z
  cases z1
  rw [hA_app]
  simp only [List.cons_append, List.nil_append]
  refine r_putfinal (pc := 34) dX7_init_34 rfl rfl (fun C T N z => by cases z; rfl) f_RX7_28 hA_0 (fun _ => rfl) (fun _ => rfl) (Nat.le_of_ble_eq_true rfl) ?_
  rw [hA_hs0]
  refine r_aload_n (pc := 37) dX7_init_37 rfl rfl ?_
  refine r_new (fs := [.int 0, .null, .null, .null, .null]) (pc := 38) dX7_init_38 rfl clf_2 c_RX7_32 n_RX3 i_RX3 df_X3 (fun _ => rfl) hc (show h.2.1 + 8 < 100000 by omega) (by decide) ?_
  rw [hA_one]
  refine r_dup (pc := 41) dX7_init_41 rfl ?_
  refine r_callIN (vs := []) 4 60 (pc := 42) dX7_init_42 rfl l_RX7_34 rfl rfl ⟨by decide, by decide⟩ rfl (Nat.le_of_ble_eq_true rfl) hl (by decide) (by decide) (Nat.le_of_ble_eq_true rfl) (c_X3_init hl hc (show h.2.1 + 8 < 1000 by omega)) (fun E h1 z => by cases z.1) (fun o h1 z hq => by obtain ⟨-, rfl⟩ := z; exact ⟨hc, rfl⟩) (fun o h1 z => ?_)
  obtain ⟨z1, rfl⟩ := z
  cases z1
  rw [hA_app]
  simp only [List.cons_append, List.nil_append]
  refine r_putfinal (pc := 45) dX7_init_45 rfl rfl (fun C T N z => by cases z; rfl) f_RX7_35 hA_0 (fun _ => rfl) (fun _ => rfl) (Nat.le_of_ble_eq_true rfl) ?_
  rw [hA_hs0]
  refine r_aload_n (pc := 48) dX7_init_48 rfl rfl ?_
  refine r_new (fs := [.null, .int 0, .int 0, .int 0, .int 0, .int 0, .int 0, .int 0, .int 0]) (pc := 49) dX7_init_49 rfl clf_3 c_RX7_39 n_RX4 i_RX4 df_X4 (fun _ => rfl) hc (show h.2.1 + 13 < 100000 by omega) (by decide) ?_
  rw [hA_one]
  refine r_dup (pc := 52) dX7_init_52 rfl ?_
  refine r_callI (vs := []) 1 9 (pc := 53) dX7_init_53 rfl l_RX7_41 rfl rfl ⟨by decide, by decide⟩ rfl (Nat.le_of_ble_eq_true rfl) hl (by decide) (by decide) (Nat.le_of_ble_eq_true rfl) (c_X4_init hl hc (show h.2.1 + 13 < 1000 by omega)) (fun E h1 z => by cases z.1) (fun o h1 z hq => by obtain ⟨-, rfl⟩ := z; exact ⟨hc, rfl⟩) (fun o h1 z => ?_)
  obtain ⟨z1, rfl⟩ := z
  cases z1
  rw [hA_app]
  simp only [List.cons_append, List.nil_append]
  refine r_putfinal (pc := 56) dX7_init_56 rfl rfl (fun C T N z => by cases z; rfl) f_RX7_42 hA_0 (fun _ => rfl) (fun _ => rfl) (Nat.le_of_ble_eq_true rfl) ?_
  rw [hA_hs0]
  refine r_aload_n (pc := 59) dX7_init_59 rfl rfl ?_
  refine r_new (fs := [.int 0, .null]) (pc := 60) dX7_init_60 rfl clf_1 c_RX7_46 n_RX2 i_RX2 df_X2 (fun _ => rfl) hc (show h.2.1 + 15 < 100000 by omega) (by decide) ?_
  rw [hA_one]
  refine r_dup (pc := 63) dX7_init_63 rfl ?_
  refine r_callIN (vs := []) 1 15 (pc := 64) dX7_init_64 rfl l_RX7_48 rfl rfl ⟨by decide, by decide⟩ rfl (Nat.le_of_ble_eq_true rfl) hl (by decide) (by decide) (Nat.le_of_ble_eq_true rfl) (c_X2_init hl hc (show h.2.1 + 15 < 1000 by omega)) (fun E h1 z => by cases z.1) (fun o h1 z hq => by obtain ⟨-, rfl⟩ := z; exact ⟨hc, rfl⟩) (fun o h1 z => ?_)
  obtain ⟨z1, rfl⟩ := z
  cases z1
  rw [hA_app]
  simp only [List.cons_append, List.nil_append]
  refine r_putfinal (pc := 67) dX7_init_67 rfl rfl (fun C T N z => by cases z; rfl) f_RX7_49 hA_0 (fun _ => rfl) (fun _ => rfl) (Nat.le_of_ble_eq_true rfl) ?_
  rw [hA_hs0]
  refine r_aload_n (pc := 70) dX7_init_70 rfl rfl ?_
  refine r_new (fs := [.int 0, .null]) (pc := 71) dX7_init_71 rfl clf_1 c_RX7_46 n_RX2 i_RX2 df_X2 (fun _ => rfl) hc (show h.2.1 + 17 < 100000 by omega) (by decide) ?_
  rw [hA_one]
  refine r_dup (pc := 74) dX7_init_74 rfl ?_
  refine r_callIN (vs := []) 1 15 (pc := 75) dX7_init_75 rfl l_RX7_48 rfl rfl ⟨by decide, by decide⟩ rfl (Nat.le_of_ble_eq_true rfl) hl (by decide) (by decide) (Nat.le_of_ble_eq_true rfl) (c_X2_init hl hc (show h.2.1 + 17 < 1000 by omega)) (fun E h1 z => by cases z.1) (fun o h1 z hq => by obtain ⟨-, rfl⟩ := z; exact ⟨hc, rfl⟩) (fun o h1 z => ?_)
  obtain ⟨z1, rfl⟩ := z
  cases z1
  rw [hA_app]
  simp only [List.cons_append, List.nil_append]
  refine r_putfinal (pc := 78) dX7_init_78 rfl rfl (fun C T N z => by cases z; rfl) f_RX7_53 hA_0 (fun _ => rfl) (fun _ => rfl) (Nat.le_of_ble_eq_true rfl) ?_
  rw [hA_hs0]
  exact r_return (S := []) (pc := 81) dX7_init_81 rfl ⟨rfl, rfl⟩
