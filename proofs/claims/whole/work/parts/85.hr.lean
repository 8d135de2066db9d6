/-! the model's constructor -/
def Zi : Nat → Int32 := fun _ => 0
def Zl : Nat → Int64 := fun _ => 0
theorem hA_rH {h : Hp} {I A a v t n : Nat → Int32} {J : Nat → Int64} (hb : h.2.1 = 119) : hA h [.inr (9, mfs I J), .inl (0, 647, .inl A), .inl (0, 647, .inl a), .inl (0, 2588, .inl v), .inl (1, 150, .inl t), .inl (0, 5, .inl n)] = rH (h.1, 125, h.2.2) I J A a v t n := by
  refine hp_ext (fun j => ?_) ?_
  · show (if h.2.1 ≤ j ∧ j < h.2.1 + 6 then [_, _, _, _, _, _].getD (j - h.2.1) dead else h.1 j) = (if j = 119 then _ else if j = 120 then _ else if j = 121 then _ else if j = 122 then _ else if j = 123 then _ else if j = 124 then _ else h.1 j)
    rw [hb]
    by_cases h1 : 119 ≤ j ∧ j < 125
    · rw [if_pos (by omega)]
      have h2 : j = 119 ∨ j = 120 ∨ j = 121 ∨ j = 122 ∨ j = 123 ∨ j = 124 := by omega
      rcases h2 with rfl | rfl | rfl | rfl | rfl | rfl <;> rfl
    · rw [if_neg (by omega), if_neg (by omega), if_neg (by omega), if_neg (by omega), if_neg (by omega), if_neg (by omega), if_neg (by omega)]
  · show (h.2.1 + 6, h.2.2) = (125, h.2.2)
    rw [hb]
section GM
variable {e e0 e1 : va_E} {es : List va_E}
theorem gm_n : G118.2.1 = 119 := by decide
theorem gm_0 : (hA G118 (e0 :: es)).1 119 = e0 := by
  have := hA_0 (h := G118) (e0 := e0) (es := es)
  rw [gm_n] at this
  exact this
theorem gm_s : hs (hA G118 (e0 :: es)) 119 e = hA G118 (e :: es) := by
  have := hA_hs0 (h := G118) (e := e) (e0 := e0) (es := es)
  rw [gm_n] at this
  exact this
theorem gm_1 : (hA G118 (e0 :: e1 :: es)).1 120 = e1 := by
  have := hA_1 (h := G118) (e0 := e0) (e1 := e1) (es := es)
  rw [gm_n] at this
  exact this
theorem gm_p : hpush (hA G118 es) e = hA G118 (es ++ [e]) := hA_push
theorem gm_k : (hA G118 es).2.1 = 119 + es.length := by
  show G118.2.1 + es.length = _
  rw [gm_n]
end GM
theorem c_X11_init {om : OM} {l : Launch} (hl : l.stackTraces = false) : Runs om l M_X11_init (5, 4037) 0 (entL 1 [.ref 119]) [] (hA G118 [.inr (9, [.int 0, .null, .null, .null, .int 0, .null, .int 0, .int 0, .long 0, .null, .long 0])]) (Det none (rH (G118.1, 125, true) Zi Zl A0 Zi Zi Zi Zi)) := by
  show Runs om l M_X11_init (5, 4037) 0 [some (.ref 119)] [] _ _
  have K : Runs om l M_X11_init (0, 0) 47 [some (.ref 119)] [] (rH (G118.1, 125, true) Zi Zl Zi Zi Zi Zi Zi) (Det none (rH (G118.1, 125, true) Zi Zl A0 Zi Zi Zi Zi)) := by
    refine r_aload_n (pc := 47) dX11_init_47 rfl rfl ?_
    refine rs_get (pc := 48) dX11_init_48 rfl f_RX11_7 rfl ?_
    refine r_bipush (v := 11) (pc := 51) dX11_init_51 rfl ?_
    refine r_iconst (v := 1) (pc := 53) dX11_init_53 rfl ?_
    refine r_iastore (n := 647) (f := Zi) (pc := 54) dX11_init_54 rfl (vin_n (k := 11) rfl (by decide) (by decide)) ?_
    rw [show Int32.toNatClampNeg 11 = 11 from by decide, rH_A]
    refine r_aload_n (pc := 55) dX11_init_55 rfl rfl ?_
    refine r_sipush (v := 2000) (pc := 56) dX11_init_56 rfl ?_
    refine q_callV (ci := 9) (T := TX11) (N := 11) (vs := [.int _]) (pc := 59) dX11_init_59 rfl l_RX11_26 rfl ⟨by decide, by decide⟩ rfl (Nat.le_of_ble_eq_true rfl) hl rfl rfl (Nat.le_of_ble_eq_true rfl) (s_X11_begins 2000) rfl ?_
    exact r_return (S := []) (pc := 62) dX11_init_62 rfl ⟨rfl, rfl⟩
  rw [← hA_rH (h := (G118.1, 119, true)) rfl] at K
  refine r_aload_n (pc := 0) dX11_init_0 rfl rfl ?_
  refine r_objinit (pc := 1) dX11_init_1 rfl l_RX11_1 oi_in oi_cd (by decide) (Nat.le_of_ble_eq_true rfl) ?_
  refine r_aload_n (pc := 4) dX11_init_4 rfl rfl ?_
  refine r_sipush (v := 647) (pc := 5) dX11_init_5 rfl ?_
  refine r_newarray (t := 0) (N := 647) (x := .inl Zi) (pc := 8) dX11_init_8 ac_int rfl (fun _ => rfl) (fun C0 z => by cases z) (fun _ => rfl) (fun _ => rfl) (by decide) (by decide) (by decide) rfl (by rw [gm_k]; decide) (by decide) ?_
  rw [gm_p, gm_k]
  simp only [List.cons_append, List.nil_append]
  refine r_putfinal (pc := 10) dX11_init_10 rfl rfl (fun C T N z => by cases z; rfl) f_RX11_7 gm_0 (fun _ => rfl) (fun _ => rfl) (Nat.le_of_ble_eq_true rfl) ?_
  rw [gm_s]
  refine r_aload_n (pc := 13) dX11_init_13 rfl rfl ?_
  refine r_sipush (v := 647) (pc := 14) dX11_init_14 rfl ?_
  refine r_newarray (t := 0) (N := 647) (x := .inl Zi) (pc := 17) dX11_init_17 ac_int rfl (fun _ => rfl) (fun C0 z => by cases z) (fun _ => rfl) (fun _ => rfl) (by decide) (by decide) (by decide) rfl (by rw [gm_k]; decide) (by decide) ?_
  rw [gm_p, gm_k]
  simp only [List.cons_append, List.nil_append]
  refine r_putfinal (pc := 19) dX11_init_19 rfl rfl (fun C T N z => by cases z; rfl) f_RX11_13 gm_0 (fun _ => rfl) (fun _ => rfl) (Nat.le_of_ble_eq_true rfl) ?_
  rw [gm_s]
  refine r_aload_n (pc := 22) dX11_init_22 rfl rfl ?_
  refine r_sipush (v := 2588) (pc := 23) dX11_init_23 rfl ?_
  refine r_newarray (t := 0) (N := 2588) (x := .inl Zi) (pc := 26) dX11_init_26 ac_int rfl (fun _ => rfl) (fun C0 z => by cases z) (fun _ => rfl) (fun _ => rfl) (by decide) (by decide) (by decide) rfl (by rw [gm_k]; decide) (by decide) ?_
  rw [gm_p, gm_k]
  simp only [List.cons_append, List.nil_append]
  refine r_putfinal (pc := 28) dX11_init_28 rfl rfl (fun C T N z => by cases z; rfl) f_RX11_16 gm_0 (fun _ => rfl) (fun _ => rfl) (Nat.le_of_ble_eq_true rfl) ?_
  rw [gm_s]
  refine r_aload_n (pc := 31) dX11_init_31 rfl rfl ?_
  refine r_sipush (v := 150) (pc := 32) dX11_init_32 rfl ?_
  refine r_newarray (t := 1) (N := 150) (x := .inl Zi) (pc := 35) dX11_init_35 ac_byte rfl (fun _ => rfl) (fun C0 z => by cases z) (fun _ => rfl) (fun _ => rfl) (by decide) (by decide) (by decide) rfl (by rw [gm_k]; decide) (by decide) ?_
  rw [gm_p, gm_k]
  simp only [List.cons_append, List.nil_append]
  refine r_putfinal (pc := 37) dX11_init_37 rfl rfl (fun C T N z => by cases z; rfl) f_RX11_19 gm_0 (fun _ => rfl) (fun _ => rfl) (Nat.le_of_ble_eq_true rfl) ?_
  rw [gm_s]
  refine r_aload_n (pc := 40) dX11_init_40 rfl rfl ?_
  refine r_iconst (v := 5) (pc := 41) dX11_init_41 rfl ?_
  refine r_newarray (t := 0) (N := 5) (x := .inl Zi) (pc := 42) dX11_init_42 ac_int rfl (fun _ => rfl) (fun C0 z => by cases z) (fun _ => rfl) (fun _ => rfl) (by decide) (by decide) (by decide) rfl (by rw [gm_k]; decide) (by decide) ?_
  rw [gm_p, gm_k]
  simp only [List.cons_append, List.nil_append]
  refine r_putfinal (pc := 44) dX11_init_44 rfl rfl (fun C T N z => by cases z; rfl) f_RX11_23 gm_0 (fun _ => rfl) (fun _ => rfl) (Nat.le_of_ble_eq_true rfl) ?_
  rw [gm_s]
  have eG : G118 = (G118.1, 119, true) := hp_ext (fun _ => rfl) (by show (G118.2.1, true) = (119, true); rw [gm_n])
  rw [eG]
  exact K
