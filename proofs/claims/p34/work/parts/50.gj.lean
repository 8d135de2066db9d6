/-! the gauge's own cells, its saved states; save, undo, what is tried -/
def qH (h0 : Hp) (ns cnt : Int32) : Hp := (fun j => if j = 0 then .inr (8, gf ns cnt) else if j = 39 then .inl (3, 4, .inr (.inr (.inr (.inr (fun i => if i < 4 then some (43 + 19 * i) else none))))) else h0.1 j, h0.2)
def vH (h0 : Hp) (S : Nat → Nat → Int32) (V : Nat → Nat → Int64) : Hp := (fun j => if 43 ≤ j ∧ j < 119 then sc (43 + 19 * ((j - 43) / 19)) (S ((j - 43) / 19)) (V ((j - 43) / 19)) ((j - 43) % 19) else h0.1 j, h0.2)
def cH (h0 : Hp) (ln po : Int32) (wd : Value) (by0 nu : Nat → Int32) : Hp := (fun j => if j = 40 then .inr (0, [.int ln, .ref 41, .int po, wd, .ref 42]) else if j = 41 then .inl (1, 150, .inl by0) else if j = 42 then .inl (0, 5, .inl nu) else h0.1 j, h0.2)
def updS {α : Type} (S : Nat → α) (p : Nat) (C : α) : Nat → α := fun i => if i = p then C else S i
section GW
variable {h0 : Hp} {b : Nat} {C T : Nat → Int32} {W U : Nat → Int64} {S : Nat → Nat → Int32} {V : Nat → Nat → Int64} {ns cnt ln po : Int32} {wd : Value} {by0 nu : Nat → Int32}
theorem sH_hsN {j : Nat} {e : va_E} (h : j < b ∨ b + 19 ≤ j) : hs (sH h0 b C W) j e = sH (hs h0 j e) b C W := by
  refine hp_ext (fun i => ?_) rfl
  show (if i = j then e else (if b ≤ i ∧ i < b + 19 then sc b C W (i - b) else h0.1 i)) = (if b ≤ i ∧ i < b + 19 then sc b C W (i - b) else (if i = j then e else h0.1 i))
  by_cases h1 : i = j
  · rw [if_pos h1, if_pos h1, if_neg (by omega)]
  · rw [if_neg h1, if_neg h1]
theorem vH_hsN {j : Nat} {e : va_E} (h : j < 43 ∨ 119 ≤ j) : hs (vH h0 S V) j e = vH (hs h0 j e) S V := by
  refine hp_ext (fun i => ?_) rfl
  show (if i = j then e else (vH h0 S V).1 i) = (vH (hs h0 j e) S V).1 i
  by_cases h1 : i = j
  · subst h1; rw [if_pos rfl]; simp only [vH, if_neg (show ¬ (43 ≤ i ∧ i < 119) by omega)]; exact (hs_same).symm
  · rw [if_neg h1]; simp only [vH]; rw [hs_ne h1]
theorem qH_hs {ns' cnt' : Int32} : hs (qH h0 ns cnt) 0 (.inr (8, gf ns' cnt')) = qH h0 ns' cnt' := by
  refine hp_ext (fun i => ?_) rfl
  show (if i = 0 then _ else (qH h0 ns cnt).1 i) = (qH h0 ns' cnt').1 i
  by_cases h1 : i = 0
  · subst h1; rfl
  · rw [if_neg h1]; simp only [qH, if_neg h1]
theorem vH_at {p i : Nat} (hp : p < 4) (hi : i < 19) : (vH h0 S V).1 (43 + 19 * p + i) = sc (43 + 19 * p) (S p) (V p) i := by
  show (if 43 ≤ 43 + 19 * p + i ∧ 43 + 19 * p + i < 119 then sc (43 + 19 * ((43 + 19 * p + i - 43) / 19)) (S ((43 + 19 * p + i - 43) / 19)) (V ((43 + 19 * p + i - 43) / 19)) ((43 + 19 * p + i - 43) % 19) else _) = _
  rw [if_pos (by omega), show (43 + 19 * p + i - 43) / 19 = p by omega, show (43 + 19 * p + i - 43) % 19 = i by omega]
theorem vH_out {j : Nat} (h : j < 43 ∨ 119 ≤ j) : (vH h0 S V).1 j = h0.1 j := if_neg (by omega)
theorem vH_self {p : Nat} (hp : p < 4) : sH (vH h0 S V) (43 + 19 * p) (S p) (V p) = vH h0 S V := sH_self fun _ hi => vH_at hp hi
theorem vH_upd {p : Nat} (hp : p < 4) : sH (vH h0 S V) (43 + 19 * p) C W = vH h0 (updS S p C) (updS V p W) := by
  refine hp_ext (fun j => ?_) rfl
  show (if 43 + 19 * p ≤ j ∧ j < 43 + 19 * p + 19 then sc (43 + 19 * p) C W (j - (43 + 19 * p)) else (vH h0 S V).1 j) = (vH h0 (updS S p C) (updS V p W)).1 j
  by_cases h : 43 + 19 * p ≤ j ∧ j < 43 + 19 * p + 19
  · rw [if_pos h]
    simp only [vH, if_pos (show 43 ≤ j ∧ j < 119 by omega), show (j - 43) / 19 = p by omega, updS, if_true, show (j - 43) % 19 = j - (43 + 19 * p) by omega]
  · rw [if_neg h]
    by_cases h2 : 43 ≤ j ∧ j < 119
    · simp only [vH, if_pos h2, updS, if_neg (show ¬ (j - 43) / 19 = p by omega)]
    · simp only [vH, if_neg h2]
end GW
/-- the whole of the gauge -/
abbrev gR (h0 : Hp) (T : Nat → Int32) (U : Nat → Int64) (S : Nat → Nat → Int32) (V : Nat → Nat → Int64) (ns cnt : Int32) : Hp := sH (vH (qH h0 ns cnt) S V) 20 T U
theorem gR_0 {h0 : Hp} {T : Nat → Int32} {U : Nat → Int64} {S : Nat → Nat → Int32} {V : Nat → Nat → Int64} {ns cnt : Int32} : (gR h0 T U S V ns cnt).1 0 = .inr (8, gf ns cnt) := (sH_out (Or.inl (by decide))).trans (vH_out (Or.inl (by decide)))
theorem gR_39 {h0 : Hp} {T : Nat → Int32} {U : Nat → Int64} {S : Nat → Nat → Int32} {V : Nat → Nat → Int64} {ns cnt : Int32} : (gR h0 T U S V ns cnt).1 39 = .inl (3, 4, .inr (.inr (.inr (.inr (fun i => if i < 4 then some (43 + 19 * i) else none))))) := (sH_out (Or.inr (by decide))).trans (vH_out (Or.inl (by decide)))
theorem gR_put {h0 : Hp} {C T : Nat → Int32} {W U : Nat → Int64} {S : Nat → Nat → Int32} {V : Nat → Nat → Int64} {ns cnt ns' cnt' : Int32} : hs (sH (gR h0 T U S V ns cnt) 1 C W) 0 (.inr (8, gf ns' cnt')) = sH (gR h0 T U S V ns' cnt') 1 C W := by
  rw [sH_hsN (Or.inl (by decide)), sH_hsN (Or.inl (by decide)), vH_hsN (Or.inl (by decide)), qH_hs]
theorem gR_save {h0 : Hp} {C T : Nat → Int32} {W U : Nat → Int64} {S : Nat → Nat → Int32} {V : Nat → Nat → Int64} {ns cnt : Int32} {p : Nat} {C' : Nat → Int32} {W' : Nat → Int64} (hp : p < 4) : sH (sH (gR h0 T U S V ns cnt) 1 C W) (43 + 19 * p) C' W' = sH (gR h0 T U (updS S p C') (updS V p W') ns cnt) 1 C W := by
  rw [← sH_comm (b := 1) (b2 := 43 + 19 * p) (by omega)]
  unfold gR
  rw [← sH_comm (b := 20) (b2 := 43 + 19 * p) (by omega), vH_upd hp]
theorem gR_self {h0 : Hp} {T : Nat → Int32} {U : Nat → Int64} {S : Nat → Nat → Int32} {V : Nat → Nat → Int64} {ns cnt : Int32} {p : Nat} (hp : p < 4) : sH (gR h0 T U S V ns cnt) (43 + 19 * p) (S p) (V p) = gR h0 T U S V ns cnt := by
  unfold gR
  rw [← sH_comm (b := 20) (b2 := 43 + 19 * p) (by omega), vH_self hp]
theorem s_savedAt {om : OM} {l : Launch} {B : Nat × Nat} {R : Hp} {C : Nat → Int32} {W : Nat → Int64} {ns cnt : Int32} (hg : R.1 0 = .inr (8, gf ns cnt)) (h39 : R.1 39 = .inl (3, 4, .inr (.inr (.inr (.inr (fun i => if i < 4 then some (43 + 19 * i) else none)))))) (p : Nat) (x : Int32) (hx : x = nI p) (hp : p < 4) : Runs om l M_X10_savedAt B 0 (entL 2 [.ref 0, .int x]) [] (sH R 1 C W) (Det (some (.ref (43 + 19 * p))) (sH R 1 C W)) := by
  show Runs om l M_X10_savedAt B 0 [some (.ref 0), some (.int x)] [] _ _
  have h39' : (sH R 1 C W).1 39 = _ := (sH_out (Or.inr (by decide))).trans h39
  refine r_iload_n (pc := 0) dX10_savedAt_0 rfl rfl ?_
  refine r_if_lt 22 (pc := 1) dX10_savedAt_1 (by decide) (fun c1 => absurd c1 (c_ltf hx rfl (a := p) (b := 0) (by omega) (by omega) (by omega))) (fun c1 => ?_)
  refine r_iload_n (pc := 4) dX10_savedAt_4 rfl rfl ?_
  refine r_aload_n (pc := 5) dX10_savedAt_5 rfl rfl ?_
  refine r_getfield (pc := 6) dX10_savedAt_6 rfl f_RX10_19 ((sH_out (Or.inl (by decide))).trans hg) rfl ?_
  refine r_alen (v := nI 4) (pc := 9) dX10_savedAt_9 h39' (by decide) rfl ?_
  refine r_icmp_ge 22 (pc := 10) dX10_savedAt_10 (by decide) (fun c10 => absurd c10 (c_gef hx rfl (a := p) (b := 4) (by omega) (by omega) (by omega))) (fun c10 => ?_)
  refine r_aload_n (pc := 13) dX10_savedAt_13 rfl rfl ?_
  refine r_getfield (pc := 14) dX10_savedAt_14 rfl f_RX10_19 ((sH_out (Or.inl (by decide))).trans hg) rfl ?_
  refine r_iload_n (pc := 17) dX10_savedAt_17 rfl rfl ?_
  refine r_aaload (pc := 18) dX10_savedAt_18 h39' (vin_n hx hp (by decide)) ?_
  rw [cl_n hx hp (by decide)]
  show Runs om l M_X10_savedAt B 19 _ (va_rf (if p < 4 then some (43 + 19 * p) else none) :: _) _ _
  rw [if_pos hp]
  refine r_goto 23 (pc := 19) dX10_savedAt_19 (by decide) ?_
  exact r_areturn (S := []) (pc := 23) dX10_savedAt_23 rfl ⟨rfl, rfl⟩
theorem s_copyIf {om : OM} {l : Launch} {B : Nat × Nat} {h0 : Hp} {b b2 : Nat} {C C2 : Nat → Int32} {W W2 : Nat → Int64} (hl : l.stackTraces = false) (hd : b + 19 ≤ b2 ∨ b2 + 19 ≤ b) : Runs om l M_X10_copyIfThere B 0 (entL 2 [.ref b2, .ref b]) [] (sH (sH h0 b2 C2 W2) b C W) (Det none (sH (sH h0 b2 C2 W2) b C2 W2)) := by
  show Runs om l M_X10_copyIfThere B 0 [some (.ref b2), some (.ref b)] [] _ _
  refine r_aload_n (pc := 0) dX10_copyIfThere_0 rfl rfl ?_
  refine r_ifnull (pc := 1) dX10_copyIfThere_1 ?_
  refine r_aload_n (pc := 4) dX10_copyIfThere_4 rfl rfl ?_
  refine r_ifnull (pc := 5) dX10_copyIfThere_5 ?_
  refine r_aload_n (pc := 8) dX10_copyIfThere_8 rfl rfl ?_
  refine r_aload_n (pc := 9) dX10_copyIfThere_9 rfl rfl ?_
  refine q_callV (ci := 6) (T := TX7) (N := 7) (vs := [.ref _]) (pc := 10) dX10_copyIfThere_10 rfl l_RX10_291 rfl ⟨by decide, by decide⟩ rfl (Nat.le_of_ble_eq_true rfl) hl sH_0 rfl (Nat.le_of_ble_eq_true rfl) (s_X7_copyFrom hl hd) sH_22 ?_
  exact r_return (S := []) (pc := 13) dX10_copyIfThere_13 rfl ⟨rfl, rfl⟩
theorem updS_id {α : Type} {S : Nat → α} {p : Nat} : updS S p (S p) = S := by
  funext i
  unfold updS
  by_cases h : i = p
  · subst h; rw [if_pos rfl]
  · rw [if_neg h]
theorem s_X10_save_aa {om : OM} {l : Launch} {B : Nat × Nat} {h0 : Hp} {C T : Nat → Int32} {W U : Nat → Int64} {S : Nat → Nat → Int32} {V : Nat → Nat → Int64} {ns cnt : Int32} (hl : l.stackTraces = false) (p c : Nat) (hn : ns = nI p) (hc : cnt = nI c) (hp : p + 1 < 4) (hc4 : c < 4) : Runs om l M_X10_save B 0 (entL 1 [.ref 0]) [] (sH (gR h0 T U S V ns cnt) 1 C W) (Det (none) (sH (gR h0 T U (updS S (p + 1) C) (updS V (p + 1) W) (nI (p + 1)) (nI (c + 1))) 1 C W)) := by
  show Runs om l M_X10_save B 0 [some (.ref 0)] [] _ _
  refine r_aload_n (pc := 0) dX10_save_0 rfl rfl ?_
  refine r_aload_n (pc := 1) dX10_save_1 rfl rfl ?_
  refine r_getfield (pc := 2) dX10_save_2 rfl f_RX10_23 ((sH_out (Or.inl (by decide))).trans gR_0) rfl ?_
  refine r_iconst (v := 1) (pc := 5) dX10_save_5 (by decide) ?_
  refine r_iadd (pc := 6) dX10_save_6 ?_
  refine r_aload_n (pc := 7) dX10_save_7 rfl rfl ?_
  refine r_getfield (pc := 8) dX10_save_8 rfl f_RX10_19 ((sH_out (Or.inl (by decide))).trans gR_0) rfl ?_
  refine r_alen (v := nI 4) (pc := 11) dX10_save_11 ((sH_out (Or.inr (by decide))).trans gR_39) (by decide) rfl ?_
  refine r_icmp_ge 24 (pc := 12) dX10_save_12 (by decide) (fun c12 => absurd c12 (c_gef (nadd hn rfl) rfl (a := p + 1) (b := 4) (by omega) (by omega) (by omega))) (fun c12 => ?_)
  refine r_aload_n (pc := 15) dX10_save_15 rfl rfl ?_
  refine r_getfield (pc := 16) dX10_save_16 rfl f_RX10_23 ((sH_out (Or.inl (by decide))).trans gR_0) rfl ?_
  refine r_iconst (v := 1) (pc := 19) dX10_save_19 (by decide) ?_
  refine r_iadd (pc := 20) dX10_save_20 ?_
  refine r_goto 25 (pc := 21) dX10_save_21 (by decide) ?_
  refine r_putfield (fs := gf _ _) (pc := 25) dX10_save_25 rfl f_RX10_23 ((sH_out (Or.inl (by decide))).trans gR_0) (fun _ => rfl) (fun _ => rfl) (Nat.le_of_ble_eq_true rfl) ?_
  rw [show ((gf _ _).set 3 (.int _) : List Value) = gf _ _ from rfl, gR_put]
  refine r_aload_n (pc := 28) dX10_save_28 rfl rfl ?_
  refine r_getfield (pc := 29) dX10_save_29 rfl f_RX10_12 ((sH_out (Or.inl (by decide))).trans gR_0) rfl ?_
  refine r_aload_n (pc := 32) dX10_save_32 rfl rfl ?_
  refine r_aload_n (pc := 33) dX10_save_33 rfl rfl ?_
  refine r_getfield (pc := 34) dX10_save_34 rfl f_RX10_23 ((sH_out (Or.inl (by decide))).trans gR_0) rfl ?_
  refine q_callV (ci := 8) (T := TX10) (N := 6) (vs := [.int _]) (pc := 37) dX10_save_37 rfl l_RX10_331 rfl ⟨by decide, by decide⟩ rfl (Nat.le_of_ble_eq_true rfl) hl ((sH_out (Or.inl (by decide))).trans gR_0) rfl (Nat.le_of_ble_eq_true rfl) (s_savedAt gR_0 gR_39 (p + 1) _ (nadd hn rfl) (by omega)) rfl ?_
  rw [show sH (gR h0 T U S V _ cnt) 1 C W = sH (sH (gR h0 T U S V _ cnt) 1 C W) (43 + 19 * (p + 1)) (S (p + 1)) (V (p + 1)) by rw [gR_save (p := p + 1) (by omega)]; rw [show updS S (p + 1) (S (p + 1)) = S from updS_id, show updS V (p + 1) (V (p + 1)) = V from updS_id]]
  refine q_callS (vs := [.ref _, .ref _]) (pc := 40) dX10_save_40 rfl l_RX10_335 rfl ⟨by decide, by decide⟩ rfl (Nat.le_of_ble_eq_true rfl) hl (Nat.le_of_ble_eq_true rfl) (s_copyIf hl (by omega)) sH_22 ?_
  rw [gR_save (p := p + 1) (by omega)]
  refine r_aload_n (pc := 43) dX10_save_43 rfl rfl ?_
  refine r_getfield (pc := 44) dX10_save_44 rfl f_RX10_27 ((sH_out (Or.inl (by decide))).trans gR_0) rfl ?_
  refine r_aload_n (pc := 47) dX10_save_47 rfl rfl ?_
  refine r_getfield (pc := 48) dX10_save_48 rfl f_RX10_19 ((sH_out (Or.inl (by decide))).trans gR_0) rfl ?_
  refine r_alen (v := nI 4) (pc := 51) dX10_save_51 ((sH_out (Or.inr (by decide))).trans gR_39) (by decide) rfl ?_
  refine r_icmp_ge 65 (pc := 52) dX10_save_52 (by decide) (fun c52 => absurd c52 (c_gef hc rfl (a := c) (b := 4) (by omega) (by omega) (by omega))) (fun c52 => ?_)
  refine r_aload_n (pc := 55) dX10_save_55 rfl rfl ?_
  refine r_dup (pc := 56) dX10_save_56 rfl ?_
  refine r_getfield (pc := 57) dX10_save_57 rfl f_RX10_27 ((sH_out (Or.inl (by decide))).trans gR_0) rfl ?_
  refine r_iconst (v := 1) (pc := 60) dX10_save_60 (by decide) ?_
  refine r_iadd (pc := 61) dX10_save_61 ?_
  refine r_putfield (fs := gf _ _) (pc := 62) dX10_save_62 rfl f_RX10_27 ((sH_out (Or.inl (by decide))).trans gR_0) (fun _ => rfl) (fun _ => rfl) (Nat.le_of_ble_eq_true rfl) ?_
  rw [show ((gf _ _).set 4 (.int _) : List Value) = gf _ _ from rfl, gR_put]
  exact r_return (S := []) (pc := 65) dX10_save_65 rfl ⟨rfl, by (try simp only [hn, hc, nI_succ]); try rfl⟩
theorem s_X10_save_ab {om : OM} {l : Launch} {B : Nat × Nat} {h0 : Hp} {C T : Nat → Int32} {W U : Nat → Int64} {S : Nat → Nat → Int32} {V : Nat → Nat → Int64} {ns cnt : Int32} (hl : l.stackTraces = false) (p c : Nat) (hn : ns = nI p) (hc : cnt = nI c) (hp : p + 1 < 4) (hc4 : c = 4) : Runs om l M_X10_save B 0 (entL 1 [.ref 0]) [] (sH (gR h0 T U S V ns cnt) 1 C W) (Det (none) (sH (gR h0 T U (updS S (p + 1) C) (updS V (p + 1) W) (nI (p + 1)) (nI c)) 1 C W)) := by
  show Runs om l M_X10_save B 0 [some (.ref 0)] [] _ _
  refine r_aload_n (pc := 0) dX10_save_0 rfl rfl ?_
  refine r_aload_n (pc := 1) dX10_save_1 rfl rfl ?_
  refine r_getfield (pc := 2) dX10_save_2 rfl f_RX10_23 ((sH_out (Or.inl (by decide))).trans gR_0) rfl ?_
  refine r_iconst (v := 1) (pc := 5) dX10_save_5 (by decide) ?_
  refine r_iadd (pc := 6) dX10_save_6 ?_
  refine r_aload_n (pc := 7) dX10_save_7 rfl rfl ?_
  refine r_getfield (pc := 8) dX10_save_8 rfl f_RX10_19 ((sH_out (Or.inl (by decide))).trans gR_0) rfl ?_
  refine r_alen (v := nI 4) (pc := 11) dX10_save_11 ((sH_out (Or.inr (by decide))).trans gR_39) (by decide) rfl ?_
  refine r_icmp_ge 24 (pc := 12) dX10_save_12 (by decide) (fun c12 => absurd c12 (c_gef (nadd hn rfl) rfl (a := p + 1) (b := 4) (by omega) (by omega) (by omega))) (fun c12 => ?_)
  refine r_aload_n (pc := 15) dX10_save_15 rfl rfl ?_
  refine r_getfield (pc := 16) dX10_save_16 rfl f_RX10_23 ((sH_out (Or.inl (by decide))).trans gR_0) rfl ?_
  refine r_iconst (v := 1) (pc := 19) dX10_save_19 (by decide) ?_
  refine r_iadd (pc := 20) dX10_save_20 ?_
  refine r_goto 25 (pc := 21) dX10_save_21 (by decide) ?_
  refine r_putfield (fs := gf _ _) (pc := 25) dX10_save_25 rfl f_RX10_23 ((sH_out (Or.inl (by decide))).trans gR_0) (fun _ => rfl) (fun _ => rfl) (Nat.le_of_ble_eq_true rfl) ?_
  rw [show ((gf _ _).set 3 (.int _) : List Value) = gf _ _ from rfl, gR_put]
  refine r_aload_n (pc := 28) dX10_save_28 rfl rfl ?_
  refine r_getfield (pc := 29) dX10_save_29 rfl f_RX10_12 ((sH_out (Or.inl (by decide))).trans gR_0) rfl ?_
  refine r_aload_n (pc := 32) dX10_save_32 rfl rfl ?_
  refine r_aload_n (pc := 33) dX10_save_33 rfl rfl ?_
  refine r_getfield (pc := 34) dX10_save_34 rfl f_RX10_23 ((sH_out (Or.inl (by decide))).trans gR_0) rfl ?_
  refine q_callV (ci := 8) (T := TX10) (N := 6) (vs := [.int _]) (pc := 37) dX10_save_37 rfl l_RX10_331 rfl ⟨by decide, by decide⟩ rfl (Nat.le_of_ble_eq_true rfl) hl ((sH_out (Or.inl (by decide))).trans gR_0) rfl (Nat.le_of_ble_eq_true rfl) (s_savedAt gR_0 gR_39 (p + 1) _ (nadd hn rfl) (by omega)) rfl ?_
  rw [show sH (gR h0 T U S V _ cnt) 1 C W = sH (sH (gR h0 T U S V _ cnt) 1 C W) (43 + 19 * (p + 1)) (S (p + 1)) (V (p + 1)) by rw [gR_save (p := p + 1) (by omega)]; rw [show updS S (p + 1) (S (p + 1)) = S from updS_id, show updS V (p + 1) (V (p + 1)) = V from updS_id]]
  refine q_callS (vs := [.ref _, .ref _]) (pc := 40) dX10_save_40 rfl l_RX10_335 rfl ⟨by decide, by decide⟩ rfl (Nat.le_of_ble_eq_true rfl) hl (Nat.le_of_ble_eq_true rfl) (s_copyIf hl (by omega)) sH_22 ?_
  rw [gR_save (p := p + 1) (by omega)]
  refine r_aload_n (pc := 43) dX10_save_43 rfl rfl ?_
  refine r_getfield (pc := 44) dX10_save_44 rfl f_RX10_27 ((sH_out (Or.inl (by decide))).trans gR_0) rfl ?_
  refine r_aload_n (pc := 47) dX10_save_47 rfl rfl ?_
  refine r_getfield (pc := 48) dX10_save_48 rfl f_RX10_19 ((sH_out (Or.inl (by decide))).trans gR_0) rfl ?_
  refine r_alen (v := nI 4) (pc := 51) dX10_save_51 ((sH_out (Or.inr (by decide))).trans gR_39) (by decide) rfl ?_
  refine r_icmp_ge 65 (pc := 52) dX10_save_52 (by decide) (fun c52 => ?_) (fun c52 => absurd (c_get hc rfl (a := c) (b := 4) (by omega) (by omega) (by omega)) c52)
  exact r_return (S := []) (pc := 65) dX10_save_65 rfl ⟨rfl, by (try simp only [hn, hc, nI_succ]); try rfl⟩
theorem s_X10_save_ba {om : OM} {l : Launch} {B : Nat × Nat} {h0 : Hp} {C T : Nat → Int32} {W U : Nat → Int64} {S : Nat → Nat → Int32} {V : Nat → Nat → Int64} {ns cnt : Int32} (hl : l.stackTraces = false) (p c : Nat) (hn : ns = nI p) (hc : cnt = nI c) (hp : p = 3) (hc4 : c < 4) : Runs om l M_X10_save B 0 (entL 1 [.ref 0]) [] (sH (gR h0 T U S V ns cnt) 1 C W) (Det (none) (sH (gR h0 T U (updS S (0) C) (updS V (0) W) (nI (0)) (nI (c + 1))) 1 C W)) := by
  show Runs om l M_X10_save B 0 [some (.ref 0)] [] _ _
  refine r_aload_n (pc := 0) dX10_save_0 rfl rfl ?_
  refine r_aload_n (pc := 1) dX10_save_1 rfl rfl ?_
  refine r_getfield (pc := 2) dX10_save_2 rfl f_RX10_23 ((sH_out (Or.inl (by decide))).trans gR_0) rfl ?_
  refine r_iconst (v := 1) (pc := 5) dX10_save_5 (by decide) ?_
  refine r_iadd (pc := 6) dX10_save_6 ?_
  refine r_aload_n (pc := 7) dX10_save_7 rfl rfl ?_
  refine r_getfield (pc := 8) dX10_save_8 rfl f_RX10_19 ((sH_out (Or.inl (by decide))).trans gR_0) rfl ?_
  refine r_alen (v := nI 4) (pc := 11) dX10_save_11 ((sH_out (Or.inr (by decide))).trans gR_39) (by decide) rfl ?_
  refine r_icmp_ge 24 (pc := 12) dX10_save_12 (by decide) (fun c12 => ?_) (fun c12 => absurd (c_get (nadd hn rfl) rfl (a := p + 1) (b := 4) (by omega) (by omega) (by omega)) c12)
  refine r_iconst (v := 0) (pc := 24) dX10_save_24 (by decide) ?_
  refine r_putfield (fs := gf _ _) (pc := 25) dX10_save_25 rfl f_RX10_23 ((sH_out (Or.inl (by decide))).trans gR_0) (fun _ => rfl) (fun _ => rfl) (Nat.le_of_ble_eq_true rfl) ?_
  rw [show ((gf _ _).set 3 (.int _) : List Value) = gf _ _ from rfl, gR_put]
  refine r_aload_n (pc := 28) dX10_save_28 rfl rfl ?_
  refine r_getfield (pc := 29) dX10_save_29 rfl f_RX10_12 ((sH_out (Or.inl (by decide))).trans gR_0) rfl ?_
  refine r_aload_n (pc := 32) dX10_save_32 rfl rfl ?_
  refine r_aload_n (pc := 33) dX10_save_33 rfl rfl ?_
  refine r_getfield (pc := 34) dX10_save_34 rfl f_RX10_23 ((sH_out (Or.inl (by decide))).trans gR_0) rfl ?_
  refine q_callV (ci := 8) (T := TX10) (N := 6) (vs := [.int _]) (pc := 37) dX10_save_37 rfl l_RX10_331 rfl ⟨by decide, by decide⟩ rfl (Nat.le_of_ble_eq_true rfl) hl ((sH_out (Or.inl (by decide))).trans gR_0) rfl (Nat.le_of_ble_eq_true rfl) (s_savedAt gR_0 gR_39 (0) _ rfl (by omega)) rfl ?_
  rw [show sH (gR h0 T U S V _ cnt) 1 C W = sH (sH (gR h0 T U S V _ cnt) 1 C W) (43 + 19 * (0)) (S (0)) (V (0)) by rw [gR_save (p := 0) (by omega)]; rw [show updS S (0) (S (0)) = S from updS_id, show updS V (0) (V (0)) = V from updS_id]]
  refine q_callS (vs := [.ref _, .ref _]) (pc := 40) dX10_save_40 rfl l_RX10_335 rfl ⟨by decide, by decide⟩ rfl (Nat.le_of_ble_eq_true rfl) hl (Nat.le_of_ble_eq_true rfl) (s_copyIf hl (by omega)) sH_22 ?_
  rw [gR_save (p := 0) (by omega)]
  refine r_aload_n (pc := 43) dX10_save_43 rfl rfl ?_
  refine r_getfield (pc := 44) dX10_save_44 rfl f_RX10_27 ((sH_out (Or.inl (by decide))).trans gR_0) rfl ?_
  refine r_aload_n (pc := 47) dX10_save_47 rfl rfl ?_
  refine r_getfield (pc := 48) dX10_save_48 rfl f_RX10_19 ((sH_out (Or.inl (by decide))).trans gR_0) rfl ?_
  refine r_alen (v := nI 4) (pc := 51) dX10_save_51 ((sH_out (Or.inr (by decide))).trans gR_39) (by decide) rfl ?_
  refine r_icmp_ge 65 (pc := 52) dX10_save_52 (by decide) (fun c52 => absurd c52 (c_gef hc rfl (a := c) (b := 4) (by omega) (by omega) (by omega))) (fun c52 => ?_)
  refine r_aload_n (pc := 55) dX10_save_55 rfl rfl ?_
  refine r_dup (pc := 56) dX10_save_56 rfl ?_
  refine r_getfield (pc := 57) dX10_save_57 rfl f_RX10_27 ((sH_out (Or.inl (by decide))).trans gR_0) rfl ?_
  refine r_iconst (v := 1) (pc := 60) dX10_save_60 (by decide) ?_
  refine r_iadd (pc := 61) dX10_save_61 ?_
  refine r_putfield (fs := gf _ _) (pc := 62) dX10_save_62 rfl f_RX10_27 ((sH_out (Or.inl (by decide))).trans gR_0) (fun _ => rfl) (fun _ => rfl) (Nat.le_of_ble_eq_true rfl) ?_
  rw [show ((gf _ _).set 4 (.int _) : List Value) = gf _ _ from rfl, gR_put]
  exact r_return (S := []) (pc := 65) dX10_save_65 rfl ⟨rfl, by (try simp only [hn, hc, nI_succ]); try rfl⟩
theorem s_X10_save_bb {om : OM} {l : Launch} {B : Nat × Nat} {h0 : Hp} {C T : Nat → Int32} {W U : Nat → Int64} {S : Nat → Nat → Int32} {V : Nat → Nat → Int64} {ns cnt : Int32} (hl : l.stackTraces = false) (p c : Nat) (hn : ns = nI p) (hc : cnt = nI c) (hp : p = 3) (hc4 : c = 4) : Runs om l M_X10_save B 0 (entL 1 [.ref 0]) [] (sH (gR h0 T U S V ns cnt) 1 C W) (Det (none) (sH (gR h0 T U (updS S (0) C) (updS V (0) W) (nI (0)) (nI c)) 1 C W)) := by
  show Runs om l M_X10_save B 0 [some (.ref 0)] [] _ _
  refine r_aload_n (pc := 0) dX10_save_0 rfl rfl ?_
  refine r_aload_n (pc := 1) dX10_save_1 rfl rfl ?_
  refine r_getfield (pc := 2) dX10_save_2 rfl f_RX10_23 ((sH_out (Or.inl (by decide))).trans gR_0) rfl ?_
  refine r_iconst (v := 1) (pc := 5) dX10_save_5 (by decide) ?_
  refine r_iadd (pc := 6) dX10_save_6 ?_
  refine r_aload_n (pc := 7) dX10_save_7 rfl rfl ?_
  refine r_getfield (pc := 8) dX10_save_8 rfl f_RX10_19 ((sH_out (Or.inl (by decide))).trans gR_0) rfl ?_
  refine r_alen (v := nI 4) (pc := 11) dX10_save_11 ((sH_out (Or.inr (by decide))).trans gR_39) (by decide) rfl ?_
  refine r_icmp_ge 24 (pc := 12) dX10_save_12 (by decide) (fun c12 => ?_) (fun c12 => absurd (c_get (nadd hn rfl) rfl (a := p + 1) (b := 4) (by omega) (by omega) (by omega)) c12)
  refine r_iconst (v := 0) (pc := 24) dX10_save_24 (by decide) ?_
  refine r_putfield (fs := gf _ _) (pc := 25) dX10_save_25 rfl f_RX10_23 ((sH_out (Or.inl (by decide))).trans gR_0) (fun _ => rfl) (fun _ => rfl) (Nat.le_of_ble_eq_true rfl) ?_
  rw [show ((gf _ _).set 3 (.int _) : List Value) = gf _ _ from rfl, gR_put]
  refine r_aload_n (pc := 28) dX10_save_28 rfl rfl ?_
  refine r_getfield (pc := 29) dX10_save_29 rfl f_RX10_12 ((sH_out (Or.inl (by decide))).trans gR_0) rfl ?_
  refine r_aload_n (pc := 32) dX10_save_32 rfl rfl ?_
  refine r_aload_n (pc := 33) dX10_save_33 rfl rfl ?_
  refine r_getfield (pc := 34) dX10_save_34 rfl f_RX10_23 ((sH_out (Or.inl (by decide))).trans gR_0) rfl ?_
  refine q_callV (ci := 8) (T := TX10) (N := 6) (vs := [.int _]) (pc := 37) dX10_save_37 rfl l_RX10_331 rfl ⟨by decide, by decide⟩ rfl (Nat.le_of_ble_eq_true rfl) hl ((sH_out (Or.inl (by decide))).trans gR_0) rfl (Nat.le_of_ble_eq_true rfl) (s_savedAt gR_0 gR_39 (0) _ rfl (by omega)) rfl ?_
  rw [show sH (gR h0 T U S V _ cnt) 1 C W = sH (sH (gR h0 T U S V _ cnt) 1 C W) (43 + 19 * (0)) (S (0)) (V (0)) by rw [gR_save (p := 0) (by omega)]; rw [show updS S (0) (S (0)) = S from updS_id, show updS V (0) (V (0)) = V from updS_id]]
  refine q_callS (vs := [.ref _, .ref _]) (pc := 40) dX10_save_40 rfl l_RX10_335 rfl ⟨by decide, by decide⟩ rfl (Nat.le_of_ble_eq_true rfl) hl (Nat.le_of_ble_eq_true rfl) (s_copyIf hl (by omega)) sH_22 ?_
  rw [gR_save (p := 0) (by omega)]
  refine r_aload_n (pc := 43) dX10_save_43 rfl rfl ?_
  refine r_getfield (pc := 44) dX10_save_44 rfl f_RX10_27 ((sH_out (Or.inl (by decide))).trans gR_0) rfl ?_
  refine r_aload_n (pc := 47) dX10_save_47 rfl rfl ?_
  refine r_getfield (pc := 48) dX10_save_48 rfl f_RX10_19 ((sH_out (Or.inl (by decide))).trans gR_0) rfl ?_
  refine r_alen (v := nI 4) (pc := 51) dX10_save_51 ((sH_out (Or.inr (by decide))).trans gR_39) (by decide) rfl ?_
  refine r_icmp_ge 65 (pc := 52) dX10_save_52 (by decide) (fun c52 => ?_) (fun c52 => absurd (c_get hc rfl (a := c) (b := 4) (by omega) (by omega) (by omega)) c52)
  exact r_return (S := []) (pc := 65) dX10_save_65 rfl ⟨rfl, by (try simp only [hn, hc, nI_succ]); try rfl⟩
