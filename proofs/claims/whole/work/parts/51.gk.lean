/-! save at once, undo; what is tried -/
theorem s_save {om : OM} {l : Launch} {B : Nat × Nat} {h0 : Hp} {C T : Nat → Int32} {W U : Nat → Int64} {S : Nat → Nat → Int32} {V : Nat → Nat → Int64} {ns cnt : Int32} (hl : l.stackTraces = false) (p c : Nat) (hn : ns = nI p) (hc : cnt = nI c) (hp : p < 4) (hc4 : c ≤ 4) : Runs om l M_X10_save B 0 (entL 1 [.ref 0]) [] (sH (gR h0 T U S V ns cnt) 1 C W) (Det none (sH (gR h0 T U (updS S ((p + 1) % 4) C) (updS V ((p + 1) % 4) W) (nI ((p + 1) % 4)) (nI (min (c + 1) 4))) 1 C W)) := by
  by_cases h1 : p + 1 < 4
  · rw [show (p + 1) % 4 = p + 1 by omega]
    by_cases h2 : c < 4
    · rw [show min (c + 1) 4 = c + 1 by omega]; exact s_X10_save_aa hl p c hn hc h1 h2
    · rw [show min (c + 1) 4 = c by omega]; exact s_X10_save_ab hl p c hn hc h1 (by omega)
  · rw [show (p + 1) % 4 = 0 by omega]
    by_cases h2 : c < 4
    · rw [show min (c + 1) 4 = c + 1 by omega]; exact s_X10_save_ba hl p c hn hc (by omega) h2
    · rw [show min (c + 1) 4 = c by omega]; exact s_X10_save_bb hl p c hn hc (by omega) (by omega)
theorem s_X10_undo_a {om : OM} {l : Launch} {B : Nat × Nat} {h0 : Hp} {C T : Nat → Int32} {W U : Nat → Int64} {S : Nat → Nat → Int32} {V : Nat → Nat → Int64} {ns cnt : Int32} (hl : l.stackTraces = false) (p c : Nat) (hn : ns = nI p) (hc : cnt = nI (c + 1)) (hp0 : 0 < p) (hp : p < 4) (hc4 : c < 4) : Runs om l M_X10_undo B 0 (entL 1 [.ref 0]) [] (sH (gR h0 T U S V ns cnt) 1 C W) (Det (some (.int (nI c))) (sH (gR h0 T U S V (nI (p - 1)) (nI c)) 1 (S p) (V p))) := by
  show Runs om l M_X10_undo B 0 [some (.ref 0)] [] _ _
  refine r_aload_n (pc := 0) dX10_undo_0 rfl rfl ?_
  refine r_getfield (pc := 1) dX10_undo_1 rfl f_RX10_27 ((sH_out (Or.inl (by decide))).trans gR_0) rfl ?_
  refine r_iconst (v := 1) (pc := 4) dX10_undo_4 (by decide) ?_
  refine r_icmp_ge 19 (pc := 5) dX10_undo_5 (by decide) (fun c5 => ?_) (fun c5 => absurd (c_get hc rfl (a := c + 1) (b := 1) (by omega) (by omega) (by omega)) c5)
  refine r_aload_n (pc := 19) dX10_undo_19 rfl rfl ?_
  refine r_aload_n (pc := 20) dX10_undo_20 rfl rfl ?_
  refine r_getfield (pc := 21) dX10_undo_21 rfl f_RX10_23 ((sH_out (Or.inl (by decide))).trans gR_0) rfl ?_
  refine q_callV (ci := 8) (T := TX10) (N := 6) (vs := [.int _]) (pc := 24) dX10_undo_24 rfl l_RX10_331 rfl ⟨by decide, by decide⟩ rfl (Nat.le_of_ble_eq_true rfl) hl ((sH_out (Or.inl (by decide))).trans gR_0) rfl (Nat.le_of_ble_eq_true rfl) (s_savedAt gR_0 gR_39 p _ hn (by omega)) rfl ?_
  refine r_aload_n (pc := 27) dX10_undo_27 rfl rfl ?_
  refine r_getfield (pc := 28) dX10_undo_28 rfl f_RX10_12 ((sH_out (Or.inl (by decide))).trans gR_0) rfl ?_
  rw [show sH (gR h0 T U S V ns cnt) 1 C W = sH (sH (gR h0 T U S V ns cnt) (43 + 19 * p) (S p) (V p)) 1 C W by rw [gR_self (by omega)]]
  refine q_callS (vs := [.ref _, .ref _]) (pc := 31) dX10_undo_31 rfl l_RX10_335 rfl ⟨by decide, by decide⟩ rfl (Nat.le_of_ble_eq_true rfl) hl (Nat.le_of_ble_eq_true rfl) (s_copyIf hl (by omega)) sH_22 ?_
  rw [gR_self (p := p) (by omega)]
  refine r_aload_n (pc := 34) dX10_undo_34 rfl rfl ?_
  refine r_aload_n (pc := 35) dX10_undo_35 rfl rfl ?_
  refine r_getfield (pc := 36) dX10_undo_36 rfl f_RX10_23 ((sH_out (Or.inl (by decide))).trans gR_0) rfl ?_
  refine r_if_le 51 (pc := 39) dX10_undo_39 (by decide) (fun c39 => absurd c39 (c_lef hn rfl (a := p) (b := 0) (by omega) (by omega) (by omega))) (fun c39 => ?_)
  refine r_aload_n (pc := 42) dX10_undo_42 rfl rfl ?_
  refine r_getfield (pc := 43) dX10_undo_43 rfl f_RX10_23 ((sH_out (Or.inl (by decide))).trans gR_0) rfl ?_
  refine r_iconst (v := 1) (pc := 46) dX10_undo_46 (by decide) ?_
  refine r_isub (pc := 47) dX10_undo_47 ?_
  refine r_goto 58 (pc := 48) dX10_undo_48 (by decide) ?_
  refine r_putfield (fs := gf _ _) (pc := 58) dX10_undo_58 rfl f_RX10_23 ((sH_out (Or.inl (by decide))).trans gR_0) (fun _ => rfl) (fun _ => rfl) (Nat.le_of_ble_eq_true rfl) ?_
  rw [show ((gf _ _).set 3 (.int _) : List Value) = gf _ _ from rfl, gR_put]
  refine r_aload_n (pc := 61) dX10_undo_61 rfl rfl ?_
  refine r_dup (pc := 62) dX10_undo_62 rfl ?_
  refine r_getfield (pc := 63) dX10_undo_63 rfl f_RX10_27 ((sH_out (Or.inl (by decide))).trans gR_0) rfl ?_
  refine r_iconst (v := 1) (pc := 66) dX10_undo_66 (by decide) ?_
  refine r_isub (pc := 67) dX10_undo_67 ?_
  refine r_putfield (fs := gf _ _) (pc := 68) dX10_undo_68 rfl f_RX10_27 ((sH_out (Or.inl (by decide))).trans gR_0) (fun _ => rfl) (fun _ => rfl) (Nat.le_of_ble_eq_true rfl) ?_
  rw [show ((gf _ _).set 4 (.int _) : List Value) = gf _ _ from rfl, gR_put]
  refine r_aload_n (pc := 71) dX10_undo_71 rfl rfl ?_
  refine r_getfield (pc := 72) dX10_undo_72 rfl f_RX10_27 ((sH_out (Or.inl (by decide))).trans gR_0) rfl ?_
  exact r_ireturn (S := []) (pc := 75) dX10_undo_75 rfl rfl ⟨by rw [hc, nI_pred], by simp only [hc, nI_pred]; try rw [hn, show nI p - 1 = nI (p - 1) from nsub rfl rfl (by omega)]⟩
theorem s_X10_undo_b {om : OM} {l : Launch} {B : Nat × Nat} {h0 : Hp} {C T : Nat → Int32} {W U : Nat → Int64} {S : Nat → Nat → Int32} {V : Nat → Nat → Int64} {ns cnt : Int32} (hl : l.stackTraces = false) (p c : Nat) (hn : ns = nI p) (hc : cnt = nI (c + 1)) (hp : p = 0) (hc4 : c < 4) : Runs om l M_X10_undo B 0 (entL 1 [.ref 0]) [] (sH (gR h0 T U S V ns cnt) 1 C W) (Det (some (.int (nI c))) (sH (gR h0 T U S V (nI (3)) (nI c)) 1 (S p) (V p))) := by
  show Runs om l M_X10_undo B 0 [some (.ref 0)] [] _ _
  refine r_aload_n (pc := 0) dX10_undo_0 rfl rfl ?_
  refine r_getfield (pc := 1) dX10_undo_1 rfl f_RX10_27 ((sH_out (Or.inl (by decide))).trans gR_0) rfl ?_
  refine r_iconst (v := 1) (pc := 4) dX10_undo_4 (by decide) ?_
  refine r_icmp_ge 19 (pc := 5) dX10_undo_5 (by decide) (fun c5 => ?_) (fun c5 => absurd (c_get hc rfl (a := c + 1) (b := 1) (by omega) (by omega) (by omega)) c5)
  refine r_aload_n (pc := 19) dX10_undo_19 rfl rfl ?_
  refine r_aload_n (pc := 20) dX10_undo_20 rfl rfl ?_
  refine r_getfield (pc := 21) dX10_undo_21 rfl f_RX10_23 ((sH_out (Or.inl (by decide))).trans gR_0) rfl ?_
  refine q_callV (ci := 8) (T := TX10) (N := 6) (vs := [.int _]) (pc := 24) dX10_undo_24 rfl l_RX10_331 rfl ⟨by decide, by decide⟩ rfl (Nat.le_of_ble_eq_true rfl) hl ((sH_out (Or.inl (by decide))).trans gR_0) rfl (Nat.le_of_ble_eq_true rfl) (s_savedAt gR_0 gR_39 p _ hn (by omega)) rfl ?_
  refine r_aload_n (pc := 27) dX10_undo_27 rfl rfl ?_
  refine r_getfield (pc := 28) dX10_undo_28 rfl f_RX10_12 ((sH_out (Or.inl (by decide))).trans gR_0) rfl ?_
  rw [show sH (gR h0 T U S V ns cnt) 1 C W = sH (sH (gR h0 T U S V ns cnt) (43 + 19 * p) (S p) (V p)) 1 C W by rw [gR_self (by omega)]]
  refine q_callS (vs := [.ref _, .ref _]) (pc := 31) dX10_undo_31 rfl l_RX10_335 rfl ⟨by decide, by decide⟩ rfl (Nat.le_of_ble_eq_true rfl) hl (Nat.le_of_ble_eq_true rfl) (s_copyIf hl (by omega)) sH_22 ?_
  rw [gR_self (p := p) (by omega)]
  refine r_aload_n (pc := 34) dX10_undo_34 rfl rfl ?_
  refine r_aload_n (pc := 35) dX10_undo_35 rfl rfl ?_
  refine r_getfield (pc := 36) dX10_undo_36 rfl f_RX10_23 ((sH_out (Or.inl (by decide))).trans gR_0) rfl ?_
  refine r_if_le 51 (pc := 39) dX10_undo_39 (by decide) (fun c39 => ?_) (fun c39 => absurd (c_let hn rfl (a := p) (b := 0) (by omega) (by omega) (by omega)) c39)
  refine r_aload_n (pc := 51) dX10_undo_51 rfl rfl ?_
  refine r_getfield (pc := 52) dX10_undo_52 rfl f_RX10_19 ((sH_out (Or.inl (by decide))).trans gR_0) rfl ?_
  refine r_alen (v := nI 4) (pc := 55) dX10_undo_55 ((sH_out (Or.inr (by decide))).trans gR_39) (by decide) rfl ?_
  refine r_iconst (v := 1) (pc := 56) dX10_undo_56 (by decide) ?_
  refine r_isub (pc := 57) dX10_undo_57 ?_
  refine r_putfield (fs := gf _ _) (pc := 58) dX10_undo_58 rfl f_RX10_23 ((sH_out (Or.inl (by decide))).trans gR_0) (fun _ => rfl) (fun _ => rfl) (Nat.le_of_ble_eq_true rfl) ?_
  rw [show ((gf _ _).set 3 (.int _) : List Value) = gf _ _ from rfl, gR_put]
  refine r_aload_n (pc := 61) dX10_undo_61 rfl rfl ?_
  refine r_dup (pc := 62) dX10_undo_62 rfl ?_
  refine r_getfield (pc := 63) dX10_undo_63 rfl f_RX10_27 ((sH_out (Or.inl (by decide))).trans gR_0) rfl ?_
  refine r_iconst (v := 1) (pc := 66) dX10_undo_66 (by decide) ?_
  refine r_isub (pc := 67) dX10_undo_67 ?_
  refine r_putfield (fs := gf _ _) (pc := 68) dX10_undo_68 rfl f_RX10_27 ((sH_out (Or.inl (by decide))).trans gR_0) (fun _ => rfl) (fun _ => rfl) (Nat.le_of_ble_eq_true rfl) ?_
  rw [show ((gf _ _).set 4 (.int _) : List Value) = gf _ _ from rfl, gR_put]
  refine r_aload_n (pc := 71) dX10_undo_71 rfl rfl ?_
  refine r_getfield (pc := 72) dX10_undo_72 rfl f_RX10_27 ((sH_out (Or.inl (by decide))).trans gR_0) rfl ?_
  exact r_ireturn (S := []) (pc := 75) dX10_undo_75 rfl rfl ⟨by rw [hc, nI_pred], by simp only [hc, nI_pred]; try rw [hn, show nI p - 1 = nI (p - 1) from nsub rfl rfl (by omega)]⟩
theorem s_undo {om : OM} {l : Launch} {B : Nat × Nat} {h0 : Hp} {C T : Nat → Int32} {W U : Nat → Int64} {S : Nat → Nat → Int32} {V : Nat → Nat → Int64} {ns cnt : Int32} (hl : l.stackTraces = false) (p c : Nat) (hn : ns = nI p) (hc : cnt = nI (c + 1)) (hp : p < 4) (hc4 : c < 4) : Runs om l M_X10_undo B 0 (entL 1 [.ref 0]) [] (sH (gR h0 T U S V ns cnt) 1 C W) (Det (some (.int (nI c))) (sH (gR h0 T U S V (nI ((p + 3) % 4)) (nI c)) 1 (S p) (V p))) := by
  by_cases h1 : 0 < p
  · rw [show (p + 3) % 4 = p - 1 by omega]; exact s_X10_undo_a hl p c hn hc h1 hp hc4
  · rw [show (p + 3) % 4 = 3 by omega]; exact s_X10_undo_b hl p c hn hc (by omega) hc4
theorem s_X10_undo_no {om : OM} {l : Launch} {B : Nat × Nat} {R : Hp} {C : Nat → Int32} {W : Nat → Int64} {ns cnt : Int32} (hl : l.stackTraces = false) (hB : 1 ≤ B.1 ∧ 6 ≤ B.2) (hg : R.1 0 = .inr (8, gf ns cnt)) (hc : cnt = 0) : Runs om l M_X10_undo B 0 (entL 1 [.ref 0]) [] (sH R 1 C W) (Exc "java/lang/IllegalStateException" (sH R 1 C W)) := by
  show Runs om l M_X10_undo B 0 [some (.ref 0)] [] _ _
  refine r_aload_n (pc := 0) dX10_undo_0 rfl rfl ?_
  refine r_getfield (pc := 1) dX10_undo_1 rfl f_RX10_27 ((sH_out (Or.inl (by decide))).trans hg) rfl ?_
  refine r_iconst (v := 1) (pc := 4) dX10_undo_4 (by decide) ?_
  refine r_icmp_ge 19 (pc := 5) dX10_undo_5 (by decide) (fun c5 => absurd c5 (c_gef hc rfl (a := 0) (b := 1) (by omega) (by omega) (by omega))) (fun c5 => ?_)
  exact r_throwW (pc := 8) dX10_undo_8 dX10_undo_11 dX10_undo_12 dX10_undo_15 dX10_undo_18 rfl rfl th_104_329_108 (by decide) (Nat.le_of_ble_eq_true rfl) hl hB ⟨rfl, rfl⟩
theorem kshots_1 {W : Nat → Int64} {C : Nat → Int32} : K_shots W C 1 = K_shot W C := by
  unfold K_shots
  rw [itN_s]
  rfl
def K_wb (W : Nat → Int64) (p : (Nat → Int32) × Int32) : (Nat → Int32) × Int32 := (K_shot W p.1, if K_shot W p.1 26 = -1 then p.2 else R_greater p.2 (K_abs (K_shot W p.1 1 - K_tl (K_shot W p.1) (K_shot W p.1 0))))
def K_wo (W : Nat → Int64) (C : Nat → Int32) (k : Nat) : (Nat → Int32) × Int32 := itN (fun _ p => K_wb W p) k (C, 0)
theorem kwo_s {W : Nat → Int64} {C : Nat → Int32} {k : Nat} : K_wo W C (k + 1) = K_wb W (K_wo W C k) := by unfold K_wo; rw [itN_s]
def K_ta (W : Nat → Int64) : Nat → Nat → (Nat → Int32) → (Nat → Int32) × Nat
  | 0, k, X => (X, k)
  | m + 1, k, X => if X 26 = -1 then K_ta W m (k + 1) (K_shot W X) else (X, k)
def K_tac (r : (Nat → Int32) × Nat) : Int32 := if r.1 26 = -1 then -1 else nI r.2
theorem kwb_1 {W : Nat → Int64} {p : (Nat → Int32) × Int32} : (K_wb W p).1 = K_shot W p.1 := by rw [K_wb]
theorem kwb_2 {W : Nat → Int64} {p : (Nat → Int32) × Int32} : (K_wb W p).2 = if K_shot W p.1 26 = -1 then p.2 else R_greater p.2 (K_abs (K_shot W p.1 1 - K_tl (K_shot W p.1) (K_shot W p.1 0))) := by rw [K_wb]
theorem rwb_1 {p : (Nat → Int32) × Int32 × Int32} : (R_wb p).1 = (R_shot p.1).1 := by rw [R_wb]
theorem rwb_2 {p : (Nat → Int32) × Int32 × Int32} : (R_wb p).2.1 = R_greater p.2.1 (R_err (R_shot p.1).1) := by rw [R_wb]
theorem lev_le {A : Nat → Int32} (h : WF A) : ∃ v D, R_lev A = nI v ∧ A 0 = nI D ∧ v ≤ D ∧ D ≤ 10000 := by
  obtain ⟨D, hD, hD1⟩ := h.D
  unfold R_lev
  by_cases h0 : 0 ≤ A 1 + A 2
  · rw [if_pos h0]
    by_cases h2 : A 1 + A 2 ≤ A 0
    · rw [if_pos h2]
      obtain ⟨k, hk, e⟩ := nn_ex h0
      refine ⟨k, D, e, hD, ?_, hD1⟩
      rw [e, hD] at h2
      exact (nI_leI hk (by omega)).mp h2
    · rw [if_neg h2]; exact ⟨D, D, hD, hD, Nat.le_refl _, hD1⟩
  · rw [if_neg h0]; exact ⟨0, D, rfl, hD, Nat.zero_le _, hD1⟩
theorem shot_lev {A : Nat → Int32} (h : WF A) : (R_shot A).1 1 = R_lev A := by
  obtain ⟨n, h41, hn⟩ := fires_41 h
  have e1 : R_looks (R_fires A) 41 = nI n := (looks_st h41 hn (by omega)).trans h41
  have e2 : R_remembers (R_looks (R_fires A)) 41 = nI n := (rem_st e1 hn (by omega)).trans e1
  rw [shot_hist rfl]
  unfold R_hist
  rw [alarms_st (by omega), tells_st (by omega), keeps_st (by omega), cnt_st (by omega), picks_st e2 hn (by omega), rem_st e1 hn (by omega), looks_st h41 hn (by omega)]
  exact fires_1 h
theorem greater_0 {x : Int32} (h : 0 ≤ x) : R_greater x 0 = x := by
  unfold R_greater
  by_cases h1 : x ≤ 0
  · rw [if_pos h1]; exact Int32.le_antisymm h h1
  · rw [if_neg h1]
theorem greater_ge {x y : Int32} (h : 0 ≤ x) : 0 ≤ R_greater x y := by
  unfold R_greater
  split
  · rename_i h1; exact Int32.le_trans h h1
  · exact h
theorem AG_wo {C A : Nat → Int32} {W : Nat → Int64} (h : AG C W A) (hw : WF A) (hx : WX A) (k : Nat) : AG (K_wo W C k).1 W (R_wo A k).1 ∧ WX (R_wo A k).1 ∧ (K_wo W C k).2 = (R_wo A k).2.1 ∧ 0 ≤ (R_wo A k).2.1 := by
  induction k with
  | zero => exact ⟨h, hx, rfl, Int32.le_refl _⟩
  | succ k ih =>
    obtain ⟨i1, i2, i3, i4⟩ := ih
    have wf := WF_wo hw k
    rw [kwo_s, wo_s, kwb_1, kwb_2, rwb_1, rwb_2]
    generalize K_wo W C k = p at i1 i3 ⊢
    generalize R_wo A k = q at i1 i2 i3 i4 wf ⊢
    obtain ⟨j1, j2⟩ := AG_shot i1 wf i2
    refine ⟨j1, j2, ?_, ?_⟩
    · unfold R_err K_tl
      rw [j1.1.lo (j := 26) (by omega), j1.1.lo (j := 1) (by omega), j1.1.lo (j := 0) (by omega), i3]
      by_cases h1 : (R_shot q.1).1 26 = -1
      · rw [if_pos h1, if_pos h1]; exact (greater_0 i4).symm
      · rw [if_neg h1, if_neg h1, if_neg h1]
        obtain ⟨v, D, ev, eD, hv, hD1⟩ := lev_le wf
        have e0 : (R_shot q.1).1 0 = nI D := by
          obtain ⟨D', hD', -⟩ := (WF_shot wf).D
          rw [shot_st wf (by omega)]; exact eD
        obtain ⟨t, ht, et⟩ := ((j2.2.2.2.1 D e0 hD1).1).resolve_left h1
        rw [shot_lev wf, ev, e0, et, pk_sub ht, abs_apart (by omega) (by omega)]
    · exact greater_ge i4
theorem lp_X10_worst {om : OM} {l : Launch} {B : Nat × Nat} {Q : Hp} {C T : Nat → Int32} {W U : Nat → Int64} {ns cnt : Int32} {Post : Out → Hp → Prop} (hl : l.stackTraces = false) (hg : Q.1 0 = .inr (8, gf ns cnt)) (A : Nat → Int32) (y md : Int32) (s : Nat) (hy : y = nI s) (hs : s ≤ 500) {C0 : Nat → Int32} (hA : AG C0 W A) (hw : WF A) (hx : WX A) : ∀ (n9 k : Nat) (g : Nat → Int32) (wr : Int32), k + n9 = s → g = (K_wo W C0 k).1 → wr = (K_wo W C0 k).2 → Runs om l M_X10_worstErrorByMode B 102 [some (.ref 0), some (.int y), some (.int md), some (.int ((K_wo W C0 s).2)), some (.int (nI s)), none] [] (sH (sH Q 1 C W) 20 (((K_wo W C0 s).1)) W) Post → Runs om l M_X10_worstErrorByMode B 25 [some (.ref 0), some (.int y), some (.int md), some (.int wr), some (.int (nI k)), none] [] (sH (sH Q 1 C W) 20 g W) Post := by
  intro n9
  induction n9 with
  | zero =>
    intro k g wr hk e_g e_wr KK
    have e9 : k = s := by omega
    refine r_iload (pc := 25) dX10_worstErrorByMode_25 rfl ?_
    refine r_iload_n (pc := 27) dX10_worstErrorByMode_27 rfl rfl ?_
    refine r_icmp_ge 102 (pc := 28) dX10_worstErrorByMode_28 (by decide) (fun c28 => ?_) (fun c28 => absurd (c_get rfl hy (a := k) (b := s) (by omega) (by omega) (by omega)) c28)
    subst e9
    subst e_g
    subst e_wr
    exact KK
  | succ n9 ih =>
    intro k g wr hk e_g e_wr KK
    have hAG := AG_wo hA hw hx k
    rw [← e_g] at hAG
    refine r_iload (pc := 25) dX10_worstErrorByMode_25 rfl ?_
    refine r_iload_n (pc := 27) dX10_worstErrorByMode_27 rfl rfl ?_
    refine r_icmp_ge 102 (pc := 28) dX10_worstErrorByMode_28 (by decide) (fun c28 => absurd c28 (c_gef rfl hy (a := k) (b := s) (by omega) (by omega) (by omega))) (fun c28 => ?_)
    refine r_aload_n (pc := 31) dX10_worstErrorByMode_31 rfl rfl ?_
    refine r_getfield (pc := 32) dX10_worstErrorByMode_32 rfl f_RX10_16 ((sH_out (Or.inl (by decide))).trans ((sH_out (Or.inl (by decide))).trans hg)) rfl ?_
    refine r_iconst (v := 1) (pc := 35) dX10_worstErrorByMode_35 (by decide) ?_
    refine q_callV (ci := 6) (T := TX7) (N := 7) (vs := [.int _]) (pc := 36) dX10_worstErrorByMode_36 rfl l_RX10_201 rfl ⟨by decide, by decide⟩ rfl (Nat.le_of_ble_eq_true rfl) hl sH_0 rfl (Nat.le_of_ble_eq_true rfl) (s_X7_takeShots hl (R_wo A k).1 1 1 rfl (by decide) hAG.1 (WF_wo hw k) hAG.2.1) sH_22 ?_
    rw [kshots_1]
    refine r_aload_n (pc := 39) dX10_worstErrorByMode_39 rfl rfl ?_
    refine r_getfield (pc := 40) dX10_worstErrorByMode_40 rfl f_RX10_16 ((sH_out (Or.inl (by decide))).trans ((sH_out (Or.inl (by decide))).trans hg)) rfl ?_
    refine cs_get0 (pc := 43) dX10_worstErrorByMode_43 rfl f_RX10_53 rfl ?_
    refine cs_get (i := 13) (pc := 46) dX10_worstErrorByMode_46 rfl f_RX10_257 (by decide) rfl rfl ?_
    refine r_iconst (v := (-1)) (pc := 49) dX10_worstErrorByMode_49 (by decide) ?_
    refine r_icmp_eq 96 (pc := 50) dX10_worstErrorByMode_50 (by decide) (fun c50 => ?_) (fun c50 => ?_)
    · refine q_iinc (nI (k + 1)) [_, _, _, _, _, _] (pc := 96) dX10_worstErrorByMode_96 rfl (by decide) (ninc 1 rfl) rfl ?_
      refine r_goto 25 (pc := 99) dX10_worstErrorByMode_99 (by decide) ?_
      exact ih (k + 1) _ _ (by omega) (by rw [kwo_s, kwb_1, ← e_g]) (by rw [kwo_s, kwb_2, ← e_g, ← e_wr]; first | (rw [if_pos c50]; done) | (rw [if_neg c50, K_abs]; done)) KK
    · refine r_aload_n (pc := 53) dX10_worstErrorByMode_53 rfl rfl ?_
      refine r_getfield (pc := 54) dX10_worstErrorByMode_54 rfl f_RX10_16 ((sH_out (Or.inl (by decide))).trans ((sH_out (Or.inl (by decide))).trans hg)) rfl ?_
      refine cs_get0 (pc := 57) dX10_worstErrorByMode_57 rfl f_RX10_66 rfl ?_
      refine cs_get (i := 1) (pc := 60) dX10_worstErrorByMode_60 rfl f_RX10_75 (by decide) rfl rfl ?_
      refine r_aload_n (pc := 63) dX10_worstErrorByMode_63 rfl rfl ?_
      refine r_getfield (pc := 64) dX10_worstErrorByMode_64 rfl f_RX10_16 ((sH_out (Or.inl (by decide))).trans ((sH_out (Or.inl (by decide))).trans hg)) rfl ?_
      refine cs_get0 (pc := 67) dX10_worstErrorByMode_67 rfl f_RX10_53 rfl ?_
      refine r_aload_n (pc := 70) dX10_worstErrorByMode_70 rfl rfl ?_
      refine r_getfield (pc := 71) dX10_worstErrorByMode_71 rfl f_RX10_16 ((sH_out (Or.inl (by decide))).trans ((sH_out (Or.inl (by decide))).trans hg)) rfl ?_
      refine cs_get0 (pc := 74) dX10_worstErrorByMode_74 rfl f_RX10_66 rfl ?_
      refine cs_get (i := 1) (pc := 77) dX10_worstErrorByMode_77 rfl f_RX10_236 (by decide) rfl rfl ?_
      refine q_callV (ci := 3) (T := TX4) (N := 9) (vs := [.int _]) (pc := 80) dX10_worstErrorByMode_80 rfl l_RX10_260 rfl ⟨by decide, by decide⟩ rfl (Nat.le_of_ble_eq_true rfl) hl (sH_at (i := 13) (by decide)) rfl (Nat.le_of_ble_eq_true rfl) (s_X4_toldLevel _) sH_22 ?_
      refine r_isub (pc := 83) dX10_worstErrorByMode_83 ?_
      refine q_istore [_, _, _, _, _, _] (pc := 84) dX10_worstErrorByMode_84 (by decide) rfl ?_
      refine r_iload_n (pc := 86) dX10_worstErrorByMode_86 rfl rfl ?_
      refine r_iload (pc := 87) dX10_worstErrorByMode_87 rfl ?_
      refine r_abs (pc := 89) dX10_worstErrorByMode_89 rfl l_RX10_371 (by decide) (Nat.le_of_ble_eq_true rfl) ?_
      refine r_max (pc := 92) dX10_worstErrorByMode_92 rfl l_RX10_374 (by decide) (Nat.le_of_ble_eq_true rfl) ?_
      rw [max_gr]
      refine q_istore_n [_, _, _, _, _, _] (pc := 95) dX10_worstErrorByMode_95 rfl (by decide) rfl ?_
      refine q_iinc (nI (k + 1)) [_, _, _, _, _, _] (pc := 96) dX10_worstErrorByMode_96 rfl (by decide) (ninc 1 rfl) rfl ?_
      refine r_goto 25 (pc := 99) dX10_worstErrorByMode_99 (by decide) ?_
      refine r_wk [some _, some _, some _, some _, some _, none] ⟨rfl, ⟨rfl, ⟨rfl, ⟨rfl, ⟨rfl, trivial⟩⟩⟩⟩⟩ ?_
      exact ih (k + 1) _ _ (by omega) (by rw [kwo_s, kwb_1, ← e_g]) (by rw [kwo_s, kwb_2, ← e_g, ← e_wr]; first | (rw [if_pos c50]; done) | (rw [if_neg c50, K_abs]; done)) KK
theorem s_X10_worstErrorByMode {om : OM} {l : Launch} {B : Nat × Nat} {Q : Hp} {C T : Nat → Int32} {W U : Nat → Int64} {ns cnt : Int32} (hl : l.stackTraces = false) (hg : Q.1 0 = .inr (8, gf ns cnt)) (A : Nat → Int32) (y md : Int32) (s : Nat) (hy : y = nI s) (hs : s ≤ 500) (hA : AG (upd C (12 + 5) md) W A) (hw : WF A) (hx : WX A) : Runs om l M_X10_worstErrorByMode B 0 (entL 6 [.ref 0, .int y, .int md]) [] (sH (sH Q 1 C W) 20 T U) (Det (some (.int (K_wo W (upd C (12 + 5) md) s).2)) (sH (sH Q 1 C W) 20 ((K_wo W (upd C (12 + 5) md) s).1) W)) := by
  show Runs om l M_X10_worstErrorByMode B 0 [some (.ref 0), some (.int y), some (.int md), none, none, none] [] _ _
  refine r_aload_n (pc := 0) dX10_worstErrorByMode_0 rfl rfl ?_
  refine r_getfield (pc := 1) dX10_worstErrorByMode_1 rfl f_RX10_16 ((sH_out (Or.inl (by decide))).trans ((sH_out (Or.inl (by decide))).trans hg)) rfl ?_
  refine r_aload_n (pc := 4) dX10_worstErrorByMode_4 rfl rfl ?_
  refine r_getfield (pc := 5) dX10_worstErrorByMode_5 rfl f_RX10_12 ((sH_out (Or.inl (by decide))).trans ((sH_out (Or.inl (by decide))).trans hg)) rfl ?_
  refine q_callV (ci := 6) (T := TX7) (N := 7) (vs := [.ref _]) (pc := 8) dX10_worstErrorByMode_8 rfl l_RX10_291 rfl ⟨by decide, by decide⟩ rfl (Nat.le_of_ble_eq_true rfl) hl sH_0 rfl (Nat.le_of_ble_eq_true rfl) (s_X7_copyFrom hl (Or.inr (by decide))) sH_22 ?_
  refine r_aload_n (pc := 11) dX10_worstErrorByMode_11 rfl rfl ?_
  refine r_getfield (pc := 12) dX10_worstErrorByMode_12 rfl f_RX10_16 ((sH_out (Or.inl (by decide))).trans ((sH_out (Or.inl (by decide))).trans hg)) rfl ?_
  refine r_iconst (v := 5) (pc := 15) dX10_worstErrorByMode_15 (by decide) ?_
  refine r_iload_n (pc := 16) dX10_worstErrorByMode_16 rfl rfl ?_
  refine q_callV (ci := 6) (T := TX7) (N := 7) (vs := [.int _, .int _]) (pc := 17) dX10_worstErrorByMode_17 rfl l_RX10_155 rfl ⟨by decide, by decide⟩ rfl (Nat.le_of_ble_eq_true rfl) hl sH_0 rfl (Nat.le_of_ble_eq_true rfl) (s_X7_change hl _ _ 5 rfl (by decide) (by decide)) sH_22 ?_
  refine r_iconst (v := 0) (pc := 20) dX10_worstErrorByMode_20 (by decide) ?_
  refine q_istore_n [_, _, _, _, _, _] (pc := 21) dX10_worstErrorByMode_21 rfl (by decide) rfl ?_
  refine r_iconst (v := 0) (pc := 22) dX10_worstErrorByMode_22 (by decide) ?_
  refine q_istore [_, _, _, _, _, _] (pc := 23) dX10_worstErrorByMode_23 (by decide) rfl ?_
  refine lp_X10_worst (T := T) (U := U) hl hg A y md s hy hs hA hw hx s 0 _ _ (by omega) rfl rfl ?_
  refine r_iload_n (pc := 102) dX10_worstErrorByMode_102 rfl rfl ?_
  exact r_ireturn (S := []) (pc := 103) dX10_worstErrorByMode_103 rfl rfl ⟨rfl, rfl⟩
theorem s_X10_worstError_no {om : OM} {l : Launch} {B : Nat × Nat} {Q : Hp} {C T : Nat → Int32} {W U : Nat → Int64} {ns cnt : Int32} (hl : l.stackTraces = false) (hB : 1 ≤ B.1 ∧ 6 ≤ B.2) (hg : Q.1 0 = .inr (8, gf ns cnt)) (d : Int32) (h : R_in d 1 200 = 0) : Runs om l M_X10_worstError B 0 (entL 2 [.ref 0, .int d]) [] (sH (sH Q 1 C W) 20 T U) (Exc "java/lang/IllegalArgumentException" (sH (sH Q 1 C W) 20 T U)) := by
  show Runs om l M_X10_worstError B 0 [some (.ref 0), some (.int d)] [] _ _
  refine r_iload_n (pc := 0) dX10_worstError_0 rfl rfl ?_
  refine q_callS (vs := [.int _]) (pc := 1) dX10_worstError_1 rfl l_RX10_295 rfl ⟨by decide, by decide⟩ rfl (Nat.le_of_ble_eq_true rfl) hl (Nat.le_of_ble_eq_true rfl) (s_X10_allowsForecast _) sH_22 ?_
  refine r_if_ne 17 (pc := 4) dX10_worstError_4 (by decide) (fun c4 => absurd (c_eqt h rfl (a := 0) (b := 0) (by omega) (by omega) (by omega)) c4) (fun c4 => ?_)
  exact r_throw (pc := 7) dX10_worstError_7 dX10_worstError_10 dX10_worstError_11 dX10_worstError_13 dX10_worstError_16 rfl rfl th_43_184_47 (by decide) (Nat.le_of_ble_eq_true rfl) hl hB ⟨rfl, rfl⟩
theorem s_X10_worstError_yes {om : OM} {l : Launch} {B : Nat × Nat} {Q : Hp} {C T : Nat → Int32} {W U : Nat → Int64} {ns cnt : Int32} (hl : l.stackTraces = false) (hg : Q.1 0 = .inr (8, gf ns cnt)) (A : Nat → Int32) (d : Int32) (h : R_in d 1 200 = 1) (s : Nat) (hd : d = nI s) (hs : s ≤ 500) (hA : AG (upd C (12 + 5) (C (12 + 5))) W A) (hw : WF A) (hx : WX A) : Runs om l M_X10_worstError B 0 (entL 2 [.ref 0, .int d]) [] (sH (sH Q 1 C W) 20 T U) (Det (some (.int (K_wo W (upd C (12 + 5) (C (12 + 5))) s).2)) (sH (sH Q 1 C W) 20 ((K_wo W (upd C (12 + 5) (C (12 + 5))) s).1) W)) := by
  show Runs om l M_X10_worstError B 0 [some (.ref 0), some (.int d)] [] _ _
  refine r_iload_n (pc := 0) dX10_worstError_0 rfl rfl ?_
  refine q_callS (vs := [.int _]) (pc := 1) dX10_worstError_1 rfl l_RX10_295 rfl ⟨by decide, by decide⟩ rfl (Nat.le_of_ble_eq_true rfl) hl (Nat.le_of_ble_eq_true rfl) (s_X10_allowsForecast _) sH_22 ?_
  refine r_if_ne 17 (pc := 4) dX10_worstError_4 (by decide) (fun c4 => ?_) (fun c4 => absurd c4 (c_eqf h rfl (a := 1) (b := 0) (by omega) (by omega) (by omega)))
  refine r_aload_n (pc := 17) dX10_worstError_17 rfl rfl ?_
  refine r_iload_n (pc := 18) dX10_worstError_18 rfl rfl ?_
  refine r_aload_n (pc := 19) dX10_worstError_19 rfl rfl ?_
  refine r_getfield (pc := 20) dX10_worstError_20 rfl f_RX10_12 ((sH_out (Or.inl (by decide))).trans ((sH_out (Or.inl (by decide))).trans hg)) rfl ?_
  refine r_getfield (pc := 23) dX10_worstError_23 rfl f_RX10_140 ((sH_out (Or.inl (by decide))).trans sH_0) rfl ?_
  refine r_iconst (v := 5) (pc := 26) dX10_worstError_26 (by decide) ?_
  rw [sH_comm (b := 20) (b2 := 1) (Or.inr (by decide))]
  refine q_callV (ci := 5) (T := TX6) (N := 1) (vs := [.int _]) (pc := 27) dX10_worstError_27 rfl l_RX10_151 rfl ⟨by decide, by decide⟩ rfl (Nat.le_of_ble_eq_true rfl) hl (sH_at (i := 4) (by decide)) rfl (Nat.le_of_ble_eq_true rfl) (s_X6_value hl _ 5 rfl (by decide)) sH_22 ?_
  rw [sH_comm (b := 1) (b2 := 20) (Or.inl (by decide))]
  refine q_callV (ci := 8) (T := TX10) (N := 6) (vs := [.int _, .int _]) (pc := 30) dX10_worstError_30 rfl l_RX10_298 rfl ⟨by decide, by decide⟩ rfl (Nat.le_of_ble_eq_true rfl) hl ((sH_out (Or.inl (by decide))).trans ((sH_out (Or.inl (by decide))).trans hg)) rfl (Nat.le_of_ble_eq_true rfl) (s_X10_worstErrorByMode hl hg A _ _ s hd hs hA hw hx) rfl ?_
  exact r_ireturn (S := []) (pc := 33) dX10_worstError_33 rfl rfl ⟨rfl, rfl⟩
theorem s_X10_bestMode_no {om : OM} {l : Launch} {B : Nat × Nat} {Q : Hp} {C T : Nat → Int32} {W U : Nat → Int64} {ns cnt : Int32} (hl : l.stackTraces = false) (hB : 1 ≤ B.1 ∧ 6 ≤ B.2) (hg : Q.1 0 = .inr (8, gf ns cnt)) (d : Int32) (h : R_in d 1 200 = 0) : Runs om l M_X10_bestMode B 0 (entL 6 [.ref 0, .int d]) [] (sH (sH Q 1 C W) 20 T U) (Exc "java/lang/IllegalArgumentException" (sH (sH Q 1 C W) 20 T U)) := by
  show Runs om l M_X10_bestMode B 0 [some (.ref 0), some (.int d), none, none, none, none] [] _ _
  refine r_iload_n (pc := 0) dX10_bestMode_0 rfl rfl ?_
  refine q_callS (vs := [.int _]) (pc := 1) dX10_bestMode_1 rfl l_RX10_295 rfl ⟨by decide, by decide⟩ rfl (Nat.le_of_ble_eq_true rfl) hl (Nat.le_of_ble_eq_true rfl) (s_X10_allowsForecast _) sH_22 ?_
  refine r_if_ne 17 (pc := 4) dX10_bestMode_4 (by decide) (fun c4 => absurd (c_eqt h rfl (a := 0) (b := 0) (by omega) (by omega) (by omega)) c4) (fun c4 => ?_)
  exact r_throw (pc := 7) dX10_bestMode_7 dX10_bestMode_10 dX10_bestMode_11 dX10_bestMode_13 dX10_bestMode_16 rfl rfl th_43_184_47 (by decide) (Nat.le_of_ble_eq_true rfl) hl hB ⟨rfl, rfl⟩
theorem lp_X10_best {om : OM} {l : Launch} {B : Nat × Nat} {Q : Hp} {C T : Nat → Int32} {W U : Nat → Int64} {ns cnt : Int32} {Post : Out → Hp → Prop} (hl : l.stackTraces = false) (hg : Q.1 0 = .inr (8, gf ns cnt)) (A : Nat → Int32) (d : Int32) (s : Nat) (hd : d = nI s) (hs : s ≤ 500) (hA : ∀ k, k < 3 → AG (upd C (12 + 5) (nI k)) W (upd A 17 (nI k))) (hw : ∀ k, k < 3 → WF (upd A 17 (nI k))) (hx : ∀ k, k < 3 → WX (upd A 17 (nI k))) (hq : ∀ k, k < 3 → (K_wo W (upd C (12 + 5) (nI k)) s).2 = R_worst A s (nI k)) : ∀ (n9 k : Nat) (bs : Int32) (ls : Int32) (tt : Nat → Int32), k + n9 = 3 → bs = (R_bmo A s k).1 → ls = (R_bmo A s k).2 → tt = (K_wo W (upd C (12 + 5) (nI (k - 1))) s).1 → Runs om l M_X10_bestMode B 62 [some (.ref 0), some (.int d), some (.int ((R_bmo A s 3).1)), some (.int ((R_bmo A s 3).2)), some (.int (nI 3)), none] [] (sH (sH Q 1 C W) 20 (((K_wo W (upd C (12 + 5) (nI (3 - 1))) s).1)) W) Post → Runs om l M_X10_bestMode B 29 [some (.ref 0), some (.int d), some (.int bs), some (.int ls), some (.int (nI k)), none] [] (sH (sH Q 1 C W) 20 tt W) Post := by
  intro n9
  induction n9 with
  | zero =>
    intro k bs ls tt hk e_bs e_ls e_tt KK
    have e9 : k = 3 := by omega
    subst e9
    refine r_iload (pc := 29) dX10_bestMode_29 rfl ?_
    refine r_iconst (v := 3) (pc := 31) dX10_bestMode_31 (by decide) ?_
    refine r_icmp_ge 62 (pc := 32) dX10_bestMode_32 (by decide) (fun c32 => ?_) (fun c32 => absurd (c_get rfl rfl (a := 3) (b := 3) (by omega) (by omega) (by omega)) c32)
    subst e_bs
    subst e_ls
    subst e_tt
    exact KK
  | succ n9 ih =>
    intro k bs ls tt hk e_bs e_ls e_tt KK
    refine r_iload (pc := 29) dX10_bestMode_29 rfl ?_
    refine r_iconst (v := 3) (pc := 31) dX10_bestMode_31 (by decide) ?_
    refine r_icmp_ge 62 (pc := 32) dX10_bestMode_32 (by decide) (fun c32 => absurd c32 (c_gef rfl rfl (a := k) (b := 3) (by omega) (by omega) (by omega))) (fun c32 => ?_)
    refine r_aload_n (pc := 35) dX10_bestMode_35 rfl rfl ?_
    refine r_iload_n (pc := 36) dX10_bestMode_36 rfl rfl ?_
    refine r_iload (pc := 37) dX10_bestMode_37 rfl ?_
    refine q_callV (ci := 8) (T := TX10) (N := 6) (vs := [.int _, .int _]) (pc := 39) dX10_bestMode_39 rfl l_RX10_298 rfl ⟨by decide, by decide⟩ rfl (Nat.le_of_ble_eq_true rfl) hl ((sH_out (Or.inl (by decide))).trans ((sH_out (Or.inl (by decide))).trans hg)) rfl (Nat.le_of_ble_eq_true rfl) (s_X10_worstErrorByMode hl hg (upd A 17 (nI k)) _ (nI k) s hd hs (hA k (by omega)) (hw k (by omega)) (hx k (by omega))) rfl ?_
    rw [hq k (by omega)]
    refine q_istore [_, _, _, _, _, _] (pc := 42) dX10_bestMode_42 (by decide) rfl ?_
    refine r_iload (pc := 44) dX10_bestMode_44 rfl ?_
    refine r_iload_n (pc := 46) dX10_bestMode_46 rfl rfl ?_
    refine r_icmp_ge 56 (pc := 47) dX10_bestMode_47 (by decide) (fun c47 => ?_) (fun c47 => ?_)
    · refine q_iinc (nI (k + 1)) [_, _, _, _, _, _] (pc := 56) dX10_bestMode_56 rfl (by decide) (ninc 1 rfl) rfl ?_
      refine r_goto 29 (pc := 59) dX10_bestMode_59 (by decide) ?_
      refine r_wk [some _, some _, some _, some _, some _, none] ⟨rfl, ⟨rfl, ⟨rfl, ⟨rfl, ⟨rfl, trivial⟩⟩⟩⟩⟩ ?_
      exact ih (k + 1) _ _ _ (by omega) (by rw [bmo_s, R_bm, ← e_bs, ← e_ls]; first | (simp only [if_pos c47]; done) | (simp only [if_neg c47]; done)) (by rw [bmo_s, R_bm, ← e_bs, ← e_ls]; first | (simp only [if_pos c47]; done) | (simp only [if_neg c47]; done)) (by rw [show k + 1 - 1 = k by omega]) KK
    · refine r_iload (pc := 50) dX10_bestMode_50 rfl ?_
      refine q_istore_n [_, _, _, _, _, _] (pc := 52) dX10_bestMode_52 rfl (by decide) rfl ?_
      refine r_iload (pc := 53) dX10_bestMode_53 rfl ?_
      refine q_istore_n [_, _, _, _, _, _] (pc := 55) dX10_bestMode_55 rfl (by decide) rfl ?_
      refine q_iinc (nI (k + 1)) [_, _, _, _, _, _] (pc := 56) dX10_bestMode_56 rfl (by decide) (ninc 1 rfl) rfl ?_
      refine r_goto 29 (pc := 59) dX10_bestMode_59 (by decide) ?_
      refine r_wk [some _, some _, some _, some _, some _, none] ⟨rfl, ⟨rfl, ⟨rfl, ⟨rfl, ⟨rfl, trivial⟩⟩⟩⟩⟩ ?_
      exact ih (k + 1) _ _ _ (by omega) (by rw [bmo_s, R_bm, ← e_bs, ← e_ls]; first | (simp only [if_pos c47]; done) | (simp only [if_neg c47]; done)) (by rw [bmo_s, R_bm, ← e_bs, ← e_ls]; first | (simp only [if_pos c47]; done) | (simp only [if_neg c47]; done)) (by rw [show k + 1 - 1 = k by omega]) KK
theorem s_X10_bestMode_yes {om : OM} {l : Launch} {B : Nat × Nat} {Q : Hp} {C T : Nat → Int32} {W U : Nat → Int64} {ns cnt : Int32} (hl : l.stackTraces = false) (hg : Q.1 0 = .inr (8, gf ns cnt)) (A : Nat → Int32) (d : Int32) (h : R_in d 1 200 = 1) (s : Nat) (hd : d = nI s) (hs : s ≤ 500) (hA : ∀ k, k < 3 → AG (upd C (12 + 5) (nI k)) W (upd A 17 (nI k))) (hw : ∀ k, k < 3 → WF (upd A 17 (nI k))) (hx : ∀ k, k < 3 → WX (upd A 17 (nI k))) (hq : ∀ k, k < 3 → (K_wo W (upd C (12 + 5) (nI k)) s).2 = R_worst A s (nI k)) : Runs om l M_X10_bestMode B 0 (entL 6 [.ref 0, .int d]) [] (sH (sH Q 1 C W) 20 T U) (Det (some (.int (R_bmo A s 3).1)) (sH (sH Q 1 C W) 20 ((K_wo W (upd C (12 + 5) (nI (3 - 1))) s).1) W)) := by
  show Runs om l M_X10_bestMode B 0 [some (.ref 0), some (.int d), none, none, none, none] [] _ _
  refine r_iload_n (pc := 0) dX10_bestMode_0 rfl rfl ?_
  refine q_callS (vs := [.int _]) (pc := 1) dX10_bestMode_1 rfl l_RX10_295 rfl ⟨by decide, by decide⟩ rfl (Nat.le_of_ble_eq_true rfl) hl (Nat.le_of_ble_eq_true rfl) (s_X10_allowsForecast _) sH_22 ?_
  refine r_if_ne 17 (pc := 4) dX10_bestMode_4 (by decide) (fun c4 => ?_) (fun c4 => absurd c4 (c_eqf h rfl (a := 1) (b := 0) (by omega) (by omega) (by omega)))
  refine r_iconst (v := 0) (pc := 17) dX10_bestMode_17 (by decide) ?_
  refine q_istore_n [_, _, _, _, _, _] (pc := 18) dX10_bestMode_18 rfl (by decide) rfl ?_
  refine r_aload_n (pc := 19) dX10_bestMode_19 rfl rfl ?_
  refine r_iload_n (pc := 20) dX10_bestMode_20 rfl rfl ?_
  refine r_iconst (v := 0) (pc := 21) dX10_bestMode_21 (by decide) ?_
  refine q_callV (ci := 8) (T := TX10) (N := 6) (vs := [.int _, .int _]) (pc := 22) dX10_bestMode_22 rfl l_RX10_298 rfl ⟨by decide, by decide⟩ rfl (Nat.le_of_ble_eq_true rfl) hl ((sH_out (Or.inl (by decide))).trans ((sH_out (Or.inl (by decide))).trans hg)) rfl (Nat.le_of_ble_eq_true rfl) (s_X10_worstErrorByMode hl hg (upd A 17 (nI 0)) _ (nI 0) s hd hs (hA 0 (by omega)) (hw 0 (by omega)) (hx 0 (by omega))) rfl ?_
  rw [hq 0 (by omega)]
  refine q_istore_n [_, _, _, _, _, _] (pc := 25) dX10_bestMode_25 rfl (by decide) rfl ?_
  refine r_iconst (v := 1) (pc := 26) dX10_bestMode_26 (by decide) ?_
  refine q_istore [_, _, _, _, _, _] (pc := 27) dX10_bestMode_27 (by decide) rfl ?_
  refine lp_X10_best (T := T) (U := U) hl hg A d s hd hs hA hw hx hq 2 1 _ _ _ (by omega) (by first | (rw [bmo_1]; done) | (rw [bmo_1]; rfl)) (by first | (rw [bmo_1]; done) | (rw [bmo_1]; rfl)) rfl ?_
  refine r_iload_n (pc := 62) dX10_bestMode_62 rfl rfl ?_
  exact r_ireturn (S := []) (pc := 63) dX10_bestMode_63 rfl rfl ⟨rfl, rfl⟩
theorem s_X10_toldAfter_no {om : OM} {l : Launch} {B : Nat × Nat} {Q : Hp} {C T : Nat → Int32} {W U : Nat → Int64} {ns cnt : Int32} (hl : l.stackTraces = false) (hB : 1 ≤ B.1 ∧ 6 ≤ B.2) (hg : Q.1 0 = .inr (8, gf ns cnt)) (d : Int32) (h : R_in d 0 500 = 0) : Runs om l M_X10_toldAfter B 0 (entL 3 [.ref 0, .int d]) [] (sH (sH Q 1 C W) 20 T U) (Exc "java/lang/IllegalArgumentException" (sH (sH Q 1 C W) 20 T U)) := by
  show Runs om l M_X10_toldAfter B 0 [some (.ref 0), some (.int d), none] [] _ _
  refine r_iload_n (pc := 0) dX10_toldAfter_0 rfl rfl ?_
  refine r_if_lt 11 (pc := 1) dX10_toldAfter_1 (by decide) (fun c1 => ?_) (fun c1 => ?_)
  · exact r_throwW (pc := 11) dX10_toldAfter_11 dX10_toldAfter_14 dX10_toldAfter_15 dX10_toldAfter_18 dX10_toldAfter_21 rfl rfl th_43_289_47 (by decide) (Nat.le_of_ble_eq_true rfl) hl hB ⟨rfl, rfl⟩
  · refine r_iload_n (pc := 4) dX10_toldAfter_4 rfl rfl ?_
    refine r_sipush (v := 500) (pc := 5) dX10_toldAfter_5 (by decide) ?_
    refine r_icmp_le 22 (pc := 8) dX10_toldAfter_8 (by decide) (fun c8 => ?_) (fun c8 => ?_)
    · exact absurd h (by rw [R_in, if_neg c1, if_neg (Int32.not_lt.mpr c8)]; decide)
    · exact r_throwW (pc := 11) dX10_toldAfter_11 dX10_toldAfter_14 dX10_toldAfter_15 dX10_toldAfter_18 dX10_toldAfter_21 rfl rfl th_43_289_47 (by decide) (Nat.le_of_ble_eq_true rfl) hl hB ⟨rfl, rfl⟩
theorem lp_X10_told {om : OM} {l : Launch} {B : Nat × Nat} {Q : Hp} {C T : Nat → Int32} {W U : Nat → Int64} {ns cnt : Int32} (hl : l.stackTraces = false) (hg : Q.1 0 = .inr (8, gf ns cnt)) (d : Int32) (s : Nat) (hd : d = nI s) (hs : s ≤ 500) : ∀ (n9 k : Nat) (X A : Nat → Int32), k + n9 = s → AG X W A → WF A → WX A → Runs om l M_X10_toldAfter B 35 [some (.ref 0), some (.int d), some (.int (nI k))] [] (sH (sH Q 1 C W) 20 X W) (Det (some (.int (K_tac (K_ta W n9 k X)))) (sH (sH Q 1 C W) 20 ((K_ta W n9 k X).1) W)) := by
  intro n9
  induction n9 with
  | zero =>
    intro k X A hk hA hw hx
    refine r_iload_n (pc := 35) dX10_toldAfter_35 rfl rfl ?_
    refine r_iload_n (pc := 36) dX10_toldAfter_36 rfl rfl ?_
    refine r_icmp_ge 68 (pc := 37) dX10_toldAfter_37 (by decide) (fun c37 => ?_) (fun c37 => absurd (c_get rfl hd (a := k) (b := s) (by omega) (by omega) (by omega)) c37)
    refine r_aload_n (pc := 68) dX10_toldAfter_68 rfl rfl ?_
    refine r_getfield (pc := 69) dX10_toldAfter_69 rfl f_RX10_16 ((sH_out (Or.inl (by decide))).trans ((sH_out (Or.inl (by decide))).trans hg)) rfl ?_
    refine cs_get0 (pc := 72) dX10_toldAfter_72 rfl f_RX10_53 rfl ?_
    refine cs_get (i := 13) (pc := 75) dX10_toldAfter_75 rfl f_RX10_257 (by decide) rfl rfl ?_
    refine r_iconst (v := (-1)) (pc := 78) dX10_toldAfter_78 (by decide) ?_
    refine r_icmp_eq 86 (pc := 79) dX10_toldAfter_79 (by decide) (fun c79 => ?_) (fun c79 => ?_)
    · refine r_iconst (v := (-1)) (pc := 86) dX10_toldAfter_86 (by decide) ?_
      exact r_ireturn (S := []) (pc := 87) dX10_toldAfter_87 rfl rfl ⟨by first | (rw [show K_tac (K_ta W 0 k X) = -1 from if_pos c79]; done) | (rw [show K_tac (K_ta W 0 k X) = nI k from if_neg c79]; done), rfl⟩
    · refine r_iload_n (pc := 82) dX10_toldAfter_82 rfl rfl ?_
      refine r_goto 87 (pc := 83) dX10_toldAfter_83 (by decide) ?_
      exact r_ireturn (S := []) (pc := 87) dX10_toldAfter_87 rfl rfl ⟨by first | (rw [show K_tac (K_ta W 0 k X) = -1 from if_pos c79]; done) | (rw [show K_tac (K_ta W 0 k X) = nI k from if_neg c79]; done), rfl⟩
  | succ n9 ih =>
    intro k X A hk hA hw hx
    refine r_iload_n (pc := 35) dX10_toldAfter_35 rfl rfl ?_
    refine r_iload_n (pc := 36) dX10_toldAfter_36 rfl rfl ?_
    refine r_icmp_ge 68 (pc := 37) dX10_toldAfter_37 (by decide) (fun c37 => absurd c37 (c_gef rfl hd (a := k) (b := s) (by omega) (by omega) (by omega))) (fun c37 => ?_)
    refine r_aload_n (pc := 40) dX10_toldAfter_40 rfl rfl ?_
    refine r_getfield (pc := 41) dX10_toldAfter_41 rfl f_RX10_16 ((sH_out (Or.inl (by decide))).trans ((sH_out (Or.inl (by decide))).trans hg)) rfl ?_
    refine cs_get0 (pc := 44) dX10_toldAfter_44 rfl f_RX10_53 rfl ?_
    refine cs_get (i := 13) (pc := 47) dX10_toldAfter_47 rfl f_RX10_257 (by decide) rfl rfl ?_
    refine r_iconst (v := (-1)) (pc := 50) dX10_toldAfter_50 (by decide) ?_
    refine r_icmp_ne 68 (pc := 51) dX10_toldAfter_51 (by decide) (fun c51 => ?_) (fun c51 => ?_)
    · have e9 : K_ta W (n9 + 1) k X = (X, k) := by rw [K_ta, if_neg c51]
      rw [e9]
      refine r_aload_n (pc := 68) dX10_toldAfter_68 rfl rfl ?_
      refine r_getfield (pc := 69) dX10_toldAfter_69 rfl f_RX10_16 ((sH_out (Or.inl (by decide))).trans ((sH_out (Or.inl (by decide))).trans hg)) rfl ?_
      refine cs_get0 (pc := 72) dX10_toldAfter_72 rfl f_RX10_53 rfl ?_
      refine cs_get (i := 13) (pc := 75) dX10_toldAfter_75 rfl f_RX10_257 (by decide) rfl rfl ?_
      refine r_iconst (v := (-1)) (pc := 78) dX10_toldAfter_78 (by decide) ?_
      refine r_icmp_eq 86 (pc := 79) dX10_toldAfter_79 (by decide) (fun c79 => ?_) (fun c79 => ?_)
      · refine r_iconst (v := (-1)) (pc := 86) dX10_toldAfter_86 (by decide) ?_
        exact r_ireturn (S := []) (pc := 87) dX10_toldAfter_87 rfl rfl ⟨by first | exact absurd c79 c51 | (rw [show K_tac (X, k) = nI k from if_neg c51]; done), rfl⟩
      · refine r_iload_n (pc := 82) dX10_toldAfter_82 rfl rfl ?_
        refine r_goto 87 (pc := 83) dX10_toldAfter_83 (by decide) ?_
        exact r_ireturn (S := []) (pc := 87) dX10_toldAfter_87 rfl rfl ⟨by first | exact absurd c79 c51 | (rw [show K_tac (X, k) = nI k from if_neg c51]; done), rfl⟩
    · refine r_aload_n (pc := 54) dX10_toldAfter_54 rfl rfl ?_
      refine r_getfield (pc := 55) dX10_toldAfter_55 rfl f_RX10_16 ((sH_out (Or.inl (by decide))).trans ((sH_out (Or.inl (by decide))).trans hg)) rfl ?_
      refine r_iconst (v := 1) (pc := 58) dX10_toldAfter_58 (by decide) ?_
      refine q_callV (ci := 6) (T := TX7) (N := 7) (vs := [.int _]) (pc := 59) dX10_toldAfter_59 rfl l_RX10_201 rfl ⟨by decide, by decide⟩ rfl (Nat.le_of_ble_eq_true rfl) hl sH_0 rfl (Nat.le_of_ble_eq_true rfl) (s_X7_takeShots hl A 1 1 rfl (by decide) hA hw hx) sH_22 ?_
      rw [kshots_1]
      refine q_iinc (nI (k + 1)) [_, _, _] (pc := 62) dX10_toldAfter_62 rfl (by decide) (ninc 1 rfl) rfl ?_
      refine r_goto 35 (pc := 65) dX10_toldAfter_65 (by decide) ?_
      rw [show K_ta W (n9 + 1) k X = K_ta W n9 (k + 1) (K_shot W X) by rw [K_ta, if_pos c51]]
      exact ih (k + 1) _ _ (by omega) (AG_shot hA hw hx).1 (WF_shot hw) (AG_shot hA hw hx).2
theorem s_X10_toldAfter_yes {om : OM} {l : Launch} {B : Nat × Nat} {Q : Hp} {C T : Nat → Int32} {W U : Nat → Int64} {ns cnt : Int32} (hl : l.stackTraces = false) (hg : Q.1 0 = .inr (8, gf ns cnt)) (A : Nat → Int32) (d : Int32) (s : Nat) (hd : d = nI s) (hs : s ≤ 500) (hA : AG C W A) (hw : WF A) (hx : WX A) : Runs om l M_X10_toldAfter B 0 (entL 3 [.ref 0, .int d]) [] (sH (sH Q 1 C W) 20 T U) (Det (some (.int (K_tac (K_ta W s 0 C)))) (sH (sH Q 1 C W) 20 ((K_ta W s 0 C).1) W)) := by
  show Runs om l M_X10_toldAfter B 0 [some (.ref 0), some (.int d), none] [] _ _
  refine r_iload_n (pc := 0) dX10_toldAfter_0 rfl rfl ?_
  refine r_if_lt 11 (pc := 1) dX10_toldAfter_1 (by decide) (fun c1 => absurd c1 (c_ltf hd rfl (a := s) (b := 0) (by omega) (by omega) (by omega))) (fun c1 => ?_)
  refine r_iload_n (pc := 4) dX10_toldAfter_4 rfl rfl ?_
  refine r_sipush (v := 500) (pc := 5) dX10_toldAfter_5 (by decide) ?_
  refine r_icmp_le 22 (pc := 8) dX10_toldAfter_8 (by decide) (fun c8 => ?_) (fun c8 => absurd (c_let hd rfl (a := s) (b := 500) (by omega) (by omega) (by omega)) c8)
  refine r_aload_n (pc := 22) dX10_toldAfter_22 rfl rfl ?_
  refine r_getfield (pc := 23) dX10_toldAfter_23 rfl f_RX10_16 ((sH_out (Or.inl (by decide))).trans ((sH_out (Or.inl (by decide))).trans hg)) rfl ?_
  refine r_aload_n (pc := 26) dX10_toldAfter_26 rfl rfl ?_
  refine r_getfield (pc := 27) dX10_toldAfter_27 rfl f_RX10_12 ((sH_out (Or.inl (by decide))).trans ((sH_out (Or.inl (by decide))).trans hg)) rfl ?_
  refine q_callV (ci := 6) (T := TX7) (N := 7) (vs := [.ref _]) (pc := 30) dX10_toldAfter_30 rfl l_RX10_291 rfl ⟨by decide, by decide⟩ rfl (Nat.le_of_ble_eq_true rfl) hl sH_0 rfl (Nat.le_of_ble_eq_true rfl) (s_X7_copyFrom hl (Or.inr (by decide))) sH_22 ?_
  refine r_iconst (v := 0) (pc := 33) dX10_toldAfter_33 (by decide) ?_
  refine q_istore_n [_, _, _] (pc := 34) dX10_toldAfter_34 rfl (by decide) rfl ?_
  exact lp_X10_told (T := T) (U := U) hl hg d s hd hs s 0 C A (by omega) hA hw hx
