/-! save at once, undo; what is tried -/
theorem s_save {om : OM} {l : Launch} {B : Nat × Nat} {h0 : Hp} {C T : Nat → Int32} {W U : Nat → Int64} {S : Nat → Nat → Int32} {V : Nat → Nat → Int64} {ns cnt : Int32} (hl : l.stackTraces = false) (p c : Nat) (hn : ns = nI p) (hc : cnt = nI c) (hp : p < 4) (hc4 : c ≤ 4) : Runs om l M_X10_save B 0 (entL 1 [.ref 0]) [] (sH (gR h0 T U S V ns cnt) 1 C W) (Det none (sH (gR h0 T U (updS S ((p + 1) % 4) C) (updS V ((p + 1) % 4) W) (nI ((p + 1) % 4)) (nI (min (c + 1) 4))) 1 C W)) := by
  by_cases h1 : p + 1 < 4
  · rw [show (p + 1) % 4 = p + 1 by omega]
    by_cases h2 : c < 4
    · rw [show min (c + 1) 4 = c + 1 by omega]; exact s_X10_save_aa hl p c hn hc h1 h2
    · rw [show min (c + 1) 4 = c by omega]; exact s_X10_save_ab hl p c hn hc h1 (by omega)
  · rw [show (p + 1) % 4 = 0 by omega]
    by_cases h2 : c < 4
    · rw [show min (c + 1) 4 = c + 1 by omega]; exact s_X10_save_ba hl p c hn hc (by omega) h2
    · rw [show min (c + 1) 4 = c by omega]; exact s_X10_save_bb hl p c hn hc (by omega) (by omega)
theorem s_X10_undo_a {om : OM} {l : Launch} {B : Nat × Nat} {h0 : Hp} {C T : Nat → Int32} {W U : Nat → Int64} {S : Nat → Nat → Int32} {V : Nat → Nat → Int64} {ns cnt : Int32} (hl : l.stackTraces = false) (p c : Nat) (hn : ns = nI p) (hc : cnt = nI (c + 1)) (hp0 : 0 < p) (hp : p < 4) (hc4 : c < 4) : Runs om l M_X10_undo B 0 (entL 1 [.ref 0]) [] (sH (gR h0 T U S V ns cnt) 1 C W) (Det (some (.int (nI c))) (sH (gR h0 T U S V (nI (p - 1)) (nI c)) 1 (S p) (V p))) := by
  show Runs om l M_X10_undo B 0 [some (.ref 0)] [] _ _
  refine r_aload_n (pc := 0) dX10_undo_0 rfl rfl ?_
  refine r_getfield (pc := 1) dX10_undo_1 rfl f_RX10_27 ((sH_out (Or.inl (by decide))).trans gR_0) rfl ?_
  refine r_iconst (v := 1) (pc := 4) dX10_undo_4 (by decide) ?_
  refine r_icmp_ge 19 (pc := 5) dX10_undo_5 (by decide) (fun c5 => ?_) (fun c5 => absurd (c_get hc rfl (a := c + 1) (b := 1) (by omega) (by omega) (by omega)) c5)
  refine r_aload_n (pc := 19) dX10_undo_19 rfl rfl ?_
  refine r_aload_n (pc := 20) dX10_undo_20 rfl rfl ?_
  refine r_getfield (pc := 21) dX10_undo_21 rfl f_RX10_23 ((sH_out (Or.inl (by decide))).trans gR_0) rfl ?_
  refine q_callV (ci := 8) (T := TX10) (N := 6) (vs := [.int _]) (pc := 24) dX10_undo_24 rfl l_RX10_331 rfl ⟨by decide, by decide⟩ rfl (Nat.le_of_ble_eq_true rfl) hl ((sH_out (Or.inl (by decide))).trans gR_0) rfl (Nat.le_of_ble_eq_true rfl) (s_savedAt gR_0 gR_39 p _ hn (by omega)) rfl ?_
  refine r_aload_n (pc := 27) dX10_undo_27 rfl rfl ?_
  refine r_getfield (pc := 28) dX10_undo_28 rfl f_RX10_12 ((sH_out (Or.inl (by decide))).trans gR_0) rfl ?_
  rw [show sH (gR h0 T U S V ns cnt) 1 C W = sH (sH (gR h0 T U S V ns cnt) (43 + 19 * p) (S p) (V p)) 1 C W by rw [gR_self (by omega)]]
  refine q_callS (vs := [.ref _, .ref _]) (pc := 31) dX10_undo_31 rfl l_RX10_335 rfl ⟨by decide, by decide⟩ rfl (Nat.le_of_ble_eq_true rfl) hl (Nat.le_of_ble_eq_true rfl) (s_copyIf hl (by omega)) sH_22 ?_
  rw [gR_self (p := p) (by omega)]
  refine r_aload_n (pc := 34) dX10_undo_34 rfl rfl ?_
  refine r_aload_n (pc := 35) dX10_undo_35 rfl rfl ?_
  refine r_getfield (pc := 36) dX10_undo_36 rfl f_RX10_23 ((sH_out (Or.inl (by decide))).trans gR_0) rfl ?_
  refine r_if_le 51 (pc := 39) dX10_undo_39 (by decide) (fun c39 => absurd c39 (c_lef hn rfl (a := p) (b := 0) (by omega) (by omega) (by omega))) (fun c39 => ?_)
  refine r_aload_n (pc := 42) dX10_undo_42 rfl rfl ?_
  refine r_getfield (pc := 43) dX10_undo_43 rfl f_RX10_23 ((sH_out (Or.inl (by decide))).trans gR_0) rfl ?_
  refine r_iconst (v := 1) (pc := 46) dX10_undo_46 (by decide) ?_
  refine r_isub (pc := 47) dX10_undo_47 ?_
  refine r_goto 58 (pc := 48) dX10_undo_48 (by decide) ?_
  refine r_putfield (fs := gf _ _) (pc := 58) dX10_undo_58 rfl f_RX10_23 ((sH_out (Or.inl (by decide))).trans gR_0) (fun _ => rfl) (fun _ => rfl) (Nat.le_of_ble_eq_true rfl) ?_
  rw [show ((gf _ _).set 3 (.int _) : List Value) = gf _ _ from rfl, gR_put]
  refine r_aload_n (pc := 61) dX10_undo_61 rfl rfl ?_
  refine r_dup (pc := 62) dX10_undo_62 rfl ?_
  refine r_getfield (pc := 63) dX10_undo_63 rfl f_RX10_27 ((sH_out (Or.inl (by decide))).trans gR_0) rfl ?_
  refine r_iconst (v := 1) (pc := 66) dX10_undo_66 (by decide) ?_
  refine r_isub (pc := 67) dX10_undo_67 ?_
  refine r_putfield (fs := gf _ _) (pc := 68) dX10_undo_68 rfl f_RX10_27 ((sH_out (Or.inl (by decide))).trans gR_0) (fun _ => rfl) (fun _ => rfl) (Nat.le_of_ble_eq_true rfl) ?_
  rw [show ((gf _ _).set 4 (.int _) : List Value) = gf _ _ from rfl, gR_put]
  refine r_aload_n (pc := 71) dX10_undo_71 rfl rfl ?_
  refine r_getfield (pc := 72) dX10_undo_72 rfl f_RX10_27 ((sH_out (Or.inl (by decide))).trans gR_0) rfl ?_
  exact r_ireturn (S := []) (pc := 75) dX10_undo_75 rfl rfl ⟨by rw [hc, nI_pred], by simp only [hc, nI_pred]; try rw [hn, show nI p - 1 = nI (p - 1) from nsub rfl rfl (by omega)]⟩
theorem s_X10_undo_b {om : OM} {l : Launch} {B : Nat × Nat} {h0 : Hp} {C T : Nat → Int32} {W U : Nat → Int64} {S : Nat → Nat → Int32} {V : Nat → Nat → Int64} {ns cnt : Int32} (hl : l.stackTraces = false) (p c : Nat) (hn : ns = nI p) (hc : cnt = nI (c + 1)) (hp : p = 0) (hc4 : c < 4) : Runs om l M_X10_undo B 0 (entL 1 [.ref 0]) [] (sH (gR h0 T U S V ns cnt) 1 C W) (Det (some (.int (nI c))) (sH (gR h0 T U S V (nI (3)) (nI c)) 1 (S p) (V p))) := by
  show Runs om l M_X10_undo B 0 [some (.ref 0)] [] _ _
  refine r_aload_n (pc := 0) dX10_undo_0 rfl rfl ?_
  refine r_getfield (pc := 1) dX10_undo_1 rfl f_RX10_27 ((sH_out (Or.inl (by decide))).trans gR_0) rfl ?_
  refine r_iconst (v := 1) (pc := 4) dX10_undo_4 (by decide) ?_
  refine r_icmp_ge 19 (pc := 5) dX10_undo_5 (by decide) (fun c5 => ?_) (fun c5 => absurd (c_get hc rfl (a := c + 1) (b := 1) (by omega) (by omega) (by omega)) c5)
  refine r_aload_n (pc := 19) dX10_undo_19 rfl rfl ?_
  refine r_aload_n (pc := 20) dX10_undo_20 rfl rfl ?_
  refine r_getfield (pc := 21) dX10_undo_21 rfl f_RX10_23 ((sH_out (Or.inl (by decide))).trans gR_0) rfl ?_
  refine q_callV (ci := 8) (T := TX10) (N := 6) (vs := [.int _]) (pc := 24) dX10_undo_24 rfl l_RX10_331 rfl ⟨by decide, by decide⟩ rfl (Nat.le_of_ble_eq_true rfl) hl ((sH_out (Or.inl (by decide))).trans gR_0) rfl (Nat.le_of_ble_eq_true rfl) (s_savedAt gR_0 gR_39 p _ hn (by omega)) rfl ?_
  refine r_aload_n (pc := 27) dX10_undo_27 rfl rfl ?_
  refine r_getfield (pc := 28) dX10_undo_28 rfl f_RX10_12 ((sH_out (Or.inl (by decide))).trans gR_0) rfl ?_
  rw [show sH (gR h0 T U S V ns cnt) 1 C W = sH (sH (gR h0 T U S V ns cnt) (43 + 19 * p) (S p) (V p)) 1 C W by rw [gR_self (by omega)]]
  refine q_callS (vs := [.ref _, .ref _]) (pc := 31) dX10_undo_31 rfl l_RX10_335 rfl ⟨by decide, by decide⟩ rfl (Nat.le_of_ble_eq_true rfl) hl (Nat.le_of_ble_eq_true rfl) (s_copyIf hl (by omega)) sH_22 ?_
  rw [gR_self (p := p) (by omega)]
  refine r_aload_n (pc := 34) dX10_undo_34 rfl rfl ?_
  refine r_aload_n (pc := 35) dX10_undo_35 rfl rfl ?_
  refine r_getfield (pc := 36) dX10_undo_36 rfl f_RX10_23 ((sH_out (Or.inl (by decide))).trans gR_0) rfl ?_
  refine r_if_le 51 (pc := 39) dX10_undo_39 (by decide) (fun c39 => ?_) (fun c39 => absurd (c_let hn rfl (a := p) (b := 0) (by omega) (by omega) (by omega)) c39)
  refine r_aload_n (pc := 51) dX10_undo_51 rfl rfl ?_
  refine r_getfield (pc := 52) dX10_undo_52 rfl f_RX10_19 ((sH_out (Or.inl (by decide))).trans gR_0) rfl ?_
  refine r_alen (v := nI 4) (pc := 55) dX10_undo_55 ((sH_out (Or.inr (by decide))).trans gR_39) (by decide) rfl ?_
  refine r_iconst (v := 1) (pc := 56) dX10_undo_56 (by decide) ?_
  refine r_isub (pc := 57) dX10_undo_57 ?_
  refine r_putfield (fs := gf _ _) (pc := 58) dX10_undo_58 rfl f_RX10_23 ((sH_out (Or.inl (by decide))).trans gR_0) (fun _ => rfl) (fun _ => rfl) (Nat.le_of_ble_eq_true rfl) ?_
  rw [show ((gf _ _).set 3 (.int _) : List Value) = gf _ _ from rfl, gR_put]
  refine r_aload_n (pc := 61) dX10_undo_61 rfl rfl ?_
  refine r_dup (pc := 62) dX10_undo_62 rfl ?_
  refine r_getfield (pc := 63) dX10_undo_63 rfl f_RX10_27 ((sH_out (Or.inl (by decide))).trans gR_0) rfl ?_
  refine r_iconst (v := 1) (pc := 66) dX10_undo_66 (by decide) ?_
  refine r_isub (pc := 67) dX10_undo_67 ?_
  refine r_putfield (fs := gf _ _) (pc := 68) dX10_undo_68 rfl f_RX10_27 ((sH_out (Or.inl (by decide))).trans gR_0) (fun _ => rfl) (fun _ => rfl) (Nat.le_of_ble_eq_true rfl) ?_
  rw [show ((gf _ _).set 4 (.int _) : List Value) = gf _ _ from rfl, gR_put]
  refine r_aload_n (pc := 71) dX10_undo_71 rfl rfl ?_
  refine r_getfield (pc := 72) dX10_undo_72 rfl f_RX10_27 ((sH_out (Or.inl (by decide))).trans gR_0) rfl ?_
  exact r_ireturn (S := []) (pc := 75) dX10_undo_75 rfl rfl ⟨by rw [hc, nI_pred], by simp only [hc, nI_pred]; try rw [hn, show nI p - 1 = nI (p - 1) from nsub rfl rfl (by omega)]⟩
theorem s_undo {om : OM} {l : Launch} {B : Nat × Nat} {h0 : Hp} {C T : Nat → Int32} {W U : Nat → Int64} {S : Nat → Nat → Int32} {V : Nat → Nat → Int64} {ns cnt : Int32} (hl : l.stackTraces = false) (p c : Nat) (hn : ns = nI p) (hc : cnt = nI (c + 1)) (hp : p < 4) (hc4 : c < 4) : Runs om l M_X10_undo B 0 (entL 1 [.ref 0]) [] (sH (gR h0 T U S V ns cnt) 1 C W) (Det (some (.int (nI c))) (sH (gR h0 T U S V (nI ((p + 3) % 4)) (nI c)) 1 (S p) (V p))) := by
  by_cases h1 : 0 < p
  · rw [show (p + 3) % 4 = p - 1 by omega]; exact s_X10_undo_a hl p c hn hc h1 hp hc4
  · rw [show (p + 3) % 4 = 3 by omega]; exact s_X10_undo_b hl p c hn hc (by omega) hc4
