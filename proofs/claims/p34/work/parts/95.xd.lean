/-! the law's own world; its methods low and cell; what the class is asked, and what its deeds leave -/
theorem law_a {om : OM} : (FieldType.int, 100000, om_L om, fun j => Value.int (om_xs om j)) ∈ sa_l om := .head _
abbrev EW (g : Hp) (C : Nat → Int32) (W : Nat → Int64) (S : Nat → Nat → Int32) (V : Nat → Nat → Int64) (p c : Nat) : Hp := EH g C W A0 W0 S V (nI p) (nI c) 0 0 .null Zi Zi
abbrev NV (g : Hp) (C : Nat → Int32) (W : Nat → Int64) (S : Nat → Nat → Int32) (V : Nat → Nat → Int64) (p c : Nat) (C' : Nat → Int32) (W' : Nat → Int64) : Hp := EW g C' W' (updS S ((p + 1) % 4) C) (updS V ((p + 1) % 4) W) ((p + 1) % 4) (min (c + 1) 4)
def lw (x n : Int32) : Int32 := (x &&& 2147483647) - (x &&& 2147483647) / n * n
theorem lw_ex (x : Int32) {n : Int32} {N : Nat} (hn : n = nI N) (h0 : 0 < N) (h1 : N < 2 ^ 31) : ∃ k, k < N ∧ lw x n = nI k := by
  obtain ⟨j, hj, e⟩ := pk_andE x (m := 2147483647) 31 (by decide +kernel)
  refine ⟨j % N, Nat.mod_lt _ h0, ?_⟩
  unfold lw
  rw [e, hn, pk_rem hj h0 h1]
theorem s_L_low {om : OM} {l : Launch} {B : Nat × Nat} {h : Hp} (x n : Int32) (hn : ¬ n = 0) : Runs om l M_L_low B 0 (entL 2 [.int x, .int n]) [] h (Det (some (.int (lw x n))) h) := by
  show Runs om l M_L_low B 0 [some (.int x), some (.int n)] [] _ _
  refine r_iload_n (pc := 0) dL_low_0 rfl rfl ?_
  refine r_ldc (pc := 1) dL_low_1 rfl k_RL_7 ?_
  refine r_iand (pc := 3) dL_low_3 ?_
  refine r_iload_n (pc := 4) dL_low_4 rfl rfl ?_
  refine r_irem (pc := 5) dL_low_5 hn ?_
  exact r_ireturn (S := []) (pc := 6) dL_low_6 rfl rfl ⟨rfl, rfl⟩
def cvv (om : OM) (i : Nat) : Int32 := if om_L om ≤ i then 7919 * (nI i + 3) * (nI i + 11) else om_xs om i
theorem s_L_cell {om : OM} {l : Launch} {B : Nat × Nat} {h : Hp} (i : Nat) (hi : i < 40) (hL : om_L om ≤ 260) : Runs om l M_L_cell B 0 (entL 2 [.ref 100000, .int (nI i)]) [] h (Det (some (.int (cvv om i))) h) := by
  show Runs om l M_L_cell B 0 [some (.ref 100000), some (.int (nI i))] [] _ _
  refine r_iload_n (pc := 0) dL_cell_0 rfl rfl ?_
  refine r_aload_n (pc := 1) dL_cell_1 rfl rfl ?_
  refine r_talen (v := nI (om_L om)) (pc := 2) dL_cell_2 law_a rfl ?_
  by_cases c : om_L om ≤ i
  · refine r_icmp_ge 12 (pc := 3) dL_cell_3 (by decide) (fun _ => ?_) (fun z => absurd (c_get rfl rfl (by omega) (by omega) c) z)
    refine r_sipush (v := 7919) (pc := 12) dL_cell_12 rfl ?_
    refine r_iload_n (pc := 15) dL_cell_15 rfl rfl ?_
    refine r_iconst (v := 3) (pc := 16) dL_cell_16 rfl ?_
    refine r_iadd (pc := 17) dL_cell_17 ?_
    refine r_imul (pc := 18) dL_cell_18 ?_
    refine r_iload_n (pc := 19) dL_cell_19 rfl rfl ?_
    refine r_bipush (v := 11) (pc := 20) dL_cell_20 rfl ?_
    refine r_iadd (pc := 22) dL_cell_22 ?_
    refine r_imul (pc := 23) dL_cell_23 ?_
    exact r_ireturn (S := []) (pc := 24) dL_cell_24 rfl rfl ⟨by rw [cvv, if_pos c], rfl⟩
  · refine r_icmp_ge 12 (pc := 3) dL_cell_3 (by decide) (fun z => absurd z (c_gef rfl rfl (by omega) (by omega) (by omega))) (fun _ => ?_)
    refine r_aload_n (pc := 6) dL_cell_6 rfl rfl ?_
    refine r_iload_n (pc := 7) dL_cell_7 rfl rfl ?_
    refine r_taload (n := om_L om) (pc := 8) dL_cell_8 law_a (vin_n (k := i) rfl (by omega) (by omega)) ?_
    rw [cl_n (k := i) (n := om_L om) rfl (by omega) (by omega)]
    refine r_goto 24 (pc := 9) dL_cell_9 (by decide) ?_
    exact r_ireturn (S := []) (pc := 24) dL_cell_24 rfl rfl ⟨by rw [cvv, if_neg c], rfl⟩
/-- what is saved is good too -/
def GD (m : Nat) (C : Nat → Int32) (W : Nat → Int64) : Prop := ∃ A, AG C W A ∧ OKA A ∧ XA m A
def SVG (m : Nat) (S : Nat → Nat → Int32) (V : Nat → Nat → Int64) (p c : Nat) : Prop := p < 4 ∧ c ≤ 4 ∧ ∀ i, i < c → GD m (S ((p + 4 - i) % 4)) (V ((p + 4 - i) % 4))
theorem GD.weak {m m' : Nat} {C : Nat → Int32} {W : Nat → Int64} (h : GD m C W) (hm : m ≤ m') : GD m' C W := by
  obtain ⟨A, a, b, c⟩ := h
  exact ⟨A, a, b, c.weak hm⟩
theorem SVG_save {m : Nat} {S : Nat → Nat → Int32} {V : Nat → Nat → Int64} {C : Nat → Int32} {W : Nat → Int64} {p c : Nat} (h : SVG m S V p c) (hg : GD m C W) : SVG (m + 4) (updS S ((p + 1) % 4) C) (updS V ((p + 1) % 4) W) ((p + 1) % 4) (min (c + 1) 4) := by
  obtain ⟨hp, hc, hs⟩ := h
  refine ⟨by omega, by omega, fun i hi => ?_⟩
  by_cases h0 : i = 0
  · subst h0
    have e : ((p + 1) % 4 + 4 - 0) % 4 = (p + 1) % 4 := by omega
    rw [e]
    unfold updS
    rw [if_pos rfl, if_pos rfl]
    exact hg.weak (by omega)
  · have e : ((p + 1) % 4 + 4 - i) % 4 = (p + 4 - (i - 1)) % 4 := by omega
    rw [e]
    unfold updS
    rw [if_neg (by omega), if_neg (by omega)]
    exact (hs (i - 1) (by omega)).weak (by omega)
theorem SVG_undo {m : Nat} {S : Nat → Nat → Int32} {V : Nat → Nat → Int64} {p c : Nat} (h : SVG m S V p (c + 1)) : SVG m S V ((p + 3) % 4) c := by
  obtain ⟨hp, hc, hs⟩ := h
  refine ⟨by omega, by omega, fun i hi => ?_⟩
  have e : ((p + 3) % 4 + 4 - i) % 4 = (p + 4 - (i + 1)) % 4 := by omega
  rw [e]
  exact hs (i + 1) (by omega)
section LQ
variable {om : OM} {l : Launch} {B : Nat × Nat} {g : Hp} {C : Nat → Int32} {W : Nat → Int64} {S : Nat → Nat → Int32} {V : Nat → Nat → Int64} {p c : Nat} {A : Nat → Int32}
theorem EW_0 : (EW g C W S V p c).1 0 = .inr (8, gf (nI p) (nI c)) := (sH_out (Or.inl (by decide))).trans EH_0
theorem qs_tank (hl : l.stackTraces = false) (x : Int32) (k : Nat) (hx : x = nI k) (hk : k ≤ 11) : Runs om l M_X10_tank B 0 (entL 3 [.ref 0, .int x]) [] (EW g C W S V p c) (Det (some (.int (C k))) (EW g C W S V p c)) := s_X10_tank_yes hl EH_0 x k hx hk
theorem qs_gauge (hl : l.stackTraces = false) (hA : AG C W A) (o : OKA A) (x : Int32) (k : Nat) (hx : x = nI k) (hk : k ≤ 12) : Runs om l M_X10_gauge B 0 (entL 3 [.ref 0, .int x]) [] (EW g C W S V p c) (Det (some (.int (R_gauge A k))) (EW g C W S V p c)) := by
  obtain ⟨K, h31, hK9⟩ := o.1.K31
  have z := s_X10_gauge_yes (om := om) (l := l) (B := B) (R := cH (gR g A0 W0 S V (nI p) (nI c)) 0 0 .null Zi Zi) (C := C) (W := W) hl EH_0 x k hx hk K ((hA.1.lo (by omega)).trans h31) hK9
  rw [kgau_ag hA o h31 hK9 hk] at z
  exact z
theorem qs_echo (hl : l.stackTraces = false) (hA : AG C W A) (o : OKA A) (x y : Int32) (k q K : Nat) (hx : x = nI k) (hy : y = nI q) (hq : q ≤ 5) (hK : A 41 = nI K) (hK15 : K ≤ 15) (hk : k < K) : Runs om l M_X10_echo B 0 (entL 3 [.ref 0, .int x, .int y]) [] (EW g C W S V p c) (Det (some (.int (R_echoOf A k q (nI q)))) (EW g C W S V p c)) := by
  have e41 : C 41 = nI K := (hA.1 41 (by unfold Lv; omega)).trans hK
  have z := s_X10_echo_yes (om := om) (l := l) (B := B) (R := cH (gR g A0 W0 S V (nI p) (nI c)) 0 0 .null Zi Zi) (C := C) (W := W) hl EH_0 x y k q K hx hy hq e41 hK15 hk
  rw [kval_ag hA o (by rw [cl_nI hK (by omega)]; exact hk) hq] at z
  exact z
theorem qs_isM (hl : l.stackTraces = false) (hA : AG C W A) (d : Int32) (x : Nat) (hd : d = nI x) (hx : x ≤ 10000) : Runs om l M_X10_isMasked B 0 (entL 2 [.ref 0, .int d]) [] (EW g C W S V p c) (Det (some (.int (R_isM A x))) (EW g C W S V p c)) := by
  have h1 : R_in d 0 10000 = 1 := by rw [hd]; exact rin_ok (n := 10000) hx (by omega)
  have z := s_X10_isMasked_yes (om := om) (l := l) (B := B) (R := cH (gR g A0 W0 S V (nI p) (nI c)) 0 0 .null Zi Zi) (C := C) (W := W) hl EH_0 d h1 x hd hx
  rw [isM_ag hA.2.1 hx] at z
  exact z
theorem qs_need (hl : l.stackTraces = false) (hA : AG C W A) (d : Int32) (x : Nat) (hd : d = nI x) (hx : x ≤ 10000) : Runs om l M_X10_need B 0 (entL 2 [.ref 0, .int d]) [] (EW g C W S V p c) (Det (some (.int (R_need A d))) (EW g C W S V p c)) := by
  have h1 : R_in d 0 10000 = 1 := by rw [hd]; exact rin_ok (n := 10000) hx (by omega)
  have z := s_X10_need_yes (om := om) (l := l) (B := B) (R := cH (gR g A0 W0 S V (nI p) (nI c)) 0 0 .null Zi Zi) (C := C) (W := W) hl EH_0 d h1
  rw [need_ag (fun j hj => hA.1.lo hj)] at z
  exact z
theorem qs_pick0 (hl : l.stackTraces = false) (hA : AG C W A) (o : OKA A) (x : Int32) (hx : x = nI 0) : Runs om l M_X10_pick B 0 (entL 2 [.ref 0, .int x]) [] (EW g C W S V p c) (Det (some (.int (R_pv A 0))) (EW g C W S V p c)) := by
  obtain ⟨K, h31, hK9⟩ := o.1.K31
  subst hx
  have z := pick_any (om := om) (l := l) (B := B) (R := cH (gR g A0 W0 S V (nI p) (nI c)) 0 0 .null Zi Zi) (C := C) (W := W) hl EH_0 0 K ((hA.1.lo (by omega)).trans h31) hK9 (by omega)
  rw [rpv_ag hA h31 hK9 (by omega)] at z
  exact z
theorem qs_setting (hl : l.stackTraces = false) (hA : AG C W A) (x : Int32) (hx : x = nI 6) : Runs om l M_X10_setting B 0 (entL 2 [.ref 0, .int x]) [] (EW g C W S V p c) (Det (some (.int (A 18))) (EW g C W S V p c)) := by
  have h1 : R_in x 0 11 = 1 := by rw [hx]; decide
  have z := s_X10_setting_yes (om := om) (l := l) (B := B) (R := cH (gR g A0 W0 S V (nI p) (nI c)) 0 0 .null Zi Zi) (C := C) (W := W) hl EH_0 x h1 6 hx (by omega)
  rw [hA.1.lo (j := 12 + 6) (by omega)] at z
  exact z
theorem qs_undo (hl : l.stackTraces = false) (hp : p < 4) (hc : c < 4) : Runs om l M_X10_undo B 0 (entL 1 [.ref 0]) [] (EW g C W S V p (c + 1)) (Det (some (.int (nI c))) (EW g (S p) (V p) S V ((p + 3) % 4) c)) := by
  have z := s_undo (om := om) (l := l) (B := B) (h0 := cH g 0 0 .null Zi Zi) (C := C) (T := A0) (W := W) (U := W0) (S := S) (V := V) (ns := nI p) (cnt := nI (c + 1)) hl p c rfl rfl hp hc
  rw [← EH_g, ← EH_g] at z
  exact z
def dgv (C : Nat → Int32) (W : Nat → Int64) (c : Nat) : Int64 := K_dig C W (nI c) 0 (cl (C 31)) (cl (C 4)) (cl (C 5)) (cl (C 41)) (cl (C 18))
theorem qs_digest (hl : l.stackTraces = false) (hA : AG C W A) (o : OKA A) : Runs om l M_X10_digest B 0 (entL 4 [.ref 0]) [] (EW g C W S V p c) (Det (some (.long (dgv C W c))) (EW g C W S V p c)) := by
  obtain ⟨K31, h31, b31⟩ := o.1.K31
  obtain ⟨K4, h4, b4⟩ := o.1.K4
  obtain ⟨K5, h5, b5⟩ := o.1.K5
  obtain ⟨K41, h41, b41⟩ := o.1.K41
  obtain ⟨L, h18, b18⟩ := o.1.L18
  have e31 : C 31 = nI K31 := (hA.1.lo (by omega)).trans h31
  have e4 : C 4 = nI K4 := (hA.1.lo (by omega)).trans h4
  have e5 : C 5 = nI K5 := (hA.1.lo (by omega)).trans h5
  have e41 : C 41 = nI K41 := (hA.1 41 (by unfold Lv; omega)).trans h41
  have e18 : C 18 = nI L := (hA.1.lo (by omega)).trans h18
  unfold dgv
  rw [cl_nI e31 (by omega), cl_nI e4 (by omega), cl_nI e5 (by omega), cl_nI e41 (by omega), cl_nI e18 (by omega)]
  exact s_X10_digest hl EH_0 EH_HC K31 K4 K5 K41 L e31 b31 e4 b4 e5 b5 e41 b41 e18 b18
end LQ
