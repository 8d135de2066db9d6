
/-! the mean pick; shots that would be -/
def R_sm1 (A : Nat → Int32) (k : Nat) : Int32 := if A (32 + k) = -1 then 0 else A (32 + k)
def R_sum (A : Nat → Int32) : Nat → Int32
  | 0 => 0
  | k + 1 => R_sum A k + R_sm1 A k
def R_mean (A : Nat → Int32) (K : Nat) : UInt64 := if R_kp A K = 0 then 13830554455654793216 else FP.ddiv (FP.i2d (R_sum A K)) (FP.i2d (R_kp A K))
/-- shots until one tells: at most so many -/
def R_ta (A : Nat → Int32) : Nat → Nat → Int32 → (Nat → Int32) × Nat × Int32
  | 0, k, p => (A, k, p)
  | m + 1, k, p => if A 26 = -1 then R_ta (R_shot A).1 m (k + 1) (p + R_one (R_shot A).2) else (A, k, p)
def R_tac (r : (Nat → Int32) × Nat × Int32) : Int32 := if r.1 26 = -1 then -1 else if r.2.2 ≤ nI r.2.1 then nI r.2.1 else -1
theorem R_ta_le : ∀ (m k : Nat) (A : Nat → Int32) (p : Int32), (R_ta A m k p).2.1 ≤ k + m := by
  intro m
  induction m with
  | zero => exact fun k A p => Nat.le_refl _
  | succ m ih =>
    intro k A p
    rw [R_ta]
    split
    · have := ih (k + 1) (R_shot A).1 (p + R_one (R_shot A).2)
      omega
    · show k ≤ k + (m + 1)
      omega
def R_err (X : Nat → Int32) : Int32 := if X 26 = -1 then 0 else R_apart (X 1) (X 0 - X 26)
def R_wb (p : (Nat → Int32) × Int32 × Int32) : (Nat → Int32) × Int32 × Int32 := ((R_shot p.1).1, R_greater p.2.1 (R_err (R_shot p.1).1), p.2.2 + R_one (R_shot p.1).2)
def R_wo (A : Nat → Int32) (k : Nat) : (Nat → Int32) × Int32 × Int32 := itN (fun _ p => R_wb p) k (A, 0, 0)
theorem wo_0 {A : Nat → Int32} : R_wo A 0 = (A, 0, 0) := rfl
theorem wo_s {A : Nat → Int32} {k : Nat} : R_wo A (k + 1) = R_wb (R_wo A k) := by simp only [R_wo, itN_s]
theorem WF_mode {A : Nat → Int32} {x : Int32} (h : WF A) : WF (upd A 17 x) := by
  refine WF_of h (fun j hj => upd_n (by omega)) ?_ ?_ ?_ ?_ ?_
  · rw [upd_n (by omega)]; exact h.l1
  · rw [upd_n (by omega)]; exact h.K31
  · rw [upd_n (by omega)]; exact h.K41
  · rw [upd_n (by omega)]; exact h.Ka
  · rw [upd_n (by omega)]; exact h.Kb
theorem WF_wo {A : Nat → Int32} (h : WF A) (k : Nat) : WF (R_wo A k).1 := by
  induction k with
  | zero => exact h
  | succ k ih => rw [wo_s, R_wb]; dsimp only; exact WF_shot ih
theorem back {A a X : Nat → Int32} (h : ∀ j, 647 ≤ j → X j = A j) : cpT (cpT A a 647) X 647 = A := by
  funext j
  unfold cpT
  by_cases hj : j < 647
  · rw [if_pos hj, if_pos hj]
  · rw [if_neg hj]; exact h j (by omega)
theorem cpT_2 {A a : Nat → Int32} : cpT A (cpT A a 647) 647 = cpT A a 647 := by
  funext j
  unfold cpT
  by_cases hj : j < 647
  · rw [if_pos hj, if_pos hj]
  · rw [if_neg hj, if_neg hj]
/-- a shot leaves settings, things and masks alone -/
theorem shot_st {A : Nat → Int32} (h : WF A) {j : Nat} (hj : j = 0 ∨ (1 < j ∧ j < 8) ∨ j = 9 ∨ j = 10 ∨ (11 < j ∧ j < 24) ∨ 134 ≤ j) : (R_shot A).1 j = A j := by
  obtain ⟨F, Lk, Rm, P, C, T, p, s⟩ := SH_ok h
  obtain ⟨K, hK15, kF, kL, kR, -, -, -⟩ := s.K
  rw [shot_1, sh4_eq, ← s.f, ← s.lk, ← s.rm, ← s.pp, ← s.p2, alarms_st (by omega), tells_st (by omega), keeps_st (by omega), cnt_st (by omega), s.pp, picks_st kR hK15 (by omega), s.rm, rem_st kL hK15 (by omega), s.lk, looks_st kF hK15 (by omega), s.f, fires_st h (by omega)]
theorem wo_hi {A : Nat → Int32} (h : WF A) {j : Nat} (hj : 647 ≤ j) (k : Nat) : (R_wo A k).1 j = A j := by
  induction k with
  | zero => rfl
  | succ k ih => rw [wo_s, R_wb]; dsimp only; exact (shot_st (WF_wo h k) (by omega)).trans ih
theorem ta_hi {j : Nat} (hj : 647 ≤ j) : ∀ (m k : Nat) (A : Nat → Int32) (p : Int32), WF A → (R_ta A m k p).1 j = A j := by
  intro m
  induction m with
  | zero => exact fun k A p _ => rfl
  | succ m ih =>
    intro k A p h
    rw [R_ta]
    split
    · exact (ih (k + 1) _ _ (WF_shot h)).trans (shot_st h (by omega))
    · rfl
def R_wc (r : (Nat → Int32) × Int32 × Int32) : Int32 := if r.2.2 < 0 then -1 else r.2.1
def R_worst (A : Nat → Int32) (k : Nat) (x : Int32) : Int32 := R_wc (R_wo (upd A 17 x) k)
def R_bm (A : Nat → Int32) (k : Nat) (m : Nat) (p : Int32 × Int32) : Int32 × Int32 := (if p.2 ≤ R_worst A k (nI m) then p.1 else nI m, if p.2 ≤ R_worst A k (nI m) then p.2 else R_worst A k (nI m))
def R_bmo (A : Nat → Int32) (k m : Nat) : Int32 × Int32 := itN (R_bm A k) m (0, R_worst A k 0)
theorem bmo_s {A : Nat → Int32} {k m : Nat} : R_bmo A k (m + 1) = R_bm A k m (R_bmo A k m) := by simp only [R_bmo, itN_s]
theorem bmo_1 {A : Nat → Int32} {k : Nat} : R_bmo A k 1 = (0, R_worst A k 0) := by
  have h : R_worst A k 0 ≤ R_worst A k (nI 0) := Int32.le_refl _
  show (if R_worst A k 0 ≤ R_worst A k (nI 0) then 0 else nI 0, if R_worst A k 0 ≤ R_worst A k (nI 0) then R_worst A k 0 else R_worst A k (nI 0)) = _
  rw [if_pos h, if_pos h]
theorem eta_bmo {A : Nat → Int32} {k m : Nat} {b ls : Int32} (h1 : b = (R_bmo A k m).1) (h2 : ls = (R_bmo A k m).2) : (b, ls) = R_bmo A k m := by rw [h1, h2]
theorem lp_sum {om : OM} {l : Launch} {B : Nat × Nat} {h0 : Hp} {I : Nat → Int32} {J : Nat → Int64} {A a v t n : Nat → Int32} {Post : Out → Hp → Prop} (K : Nat) (hK : A 31 = nI K) (hK9 : K ≤ 9) : ∀ (n9 k : Nat) (sm : Int32), k + n9 = K → sm = R_sum A k → Runs om l M_X11_meanPick B 55 [some (.ref 119), some (.int (R_sum A K)), some (.int (nI K))] [] (rH h0 I J A a v t n) Post → Runs om l M_X11_meanPick B 9 [some (.ref 119), some (.int sm), some (.int (nI k))] [] (rH h0 I J A a v t n) Post := by
  intro n9
  induction n9 with
  | zero =>
    intro k sm hk e_sm KK
    subst e_sm
    have e9 : k = K := by omega
    refine r_iload_n (pc := 9) dX11_meanPick_9 rfl rfl ?_
    refine r_aload_n (pc := 10) dX11_meanPick_10 rfl rfl ?_
    refine rs_get (pc := 11) dX11_meanPick_11 rfl f_RX11_7 rfl ?_
    refine r_bipush (v := 31) (pc := 14) dX11_meanPick_14 (by decide) ?_
    refine rs_ld (31) (pc := 16) dX11_meanPick_16 rfl (by omega) ?_
    refine r_icmp_ge 55 (pc := 17) dX11_meanPick_17 (by decide) (fun c17 => ?_) (fun c17 => absurd (c_get rfl hK (a := k) (b := K) (by omega) (by omega) (by omega)) c17)
    subst e9
    exact KK
  | succ n9 ih =>
    intro k sm hk e_sm KK
    subst e_sm
    refine r_iload_n (pc := 9) dX11_meanPick_9 rfl rfl ?_
    refine r_aload_n (pc := 10) dX11_meanPick_10 rfl rfl ?_
    refine rs_get (pc := 11) dX11_meanPick_11 rfl f_RX11_7 rfl ?_
    refine r_bipush (v := 31) (pc := 14) dX11_meanPick_14 (by decide) ?_
    refine rs_ld (31) (pc := 16) dX11_meanPick_16 rfl (by omega) ?_
    refine r_icmp_ge 55 (pc := 17) dX11_meanPick_17 (by decide) (fun c17 => absurd c17 (c_gef rfl hK (a := k) (b := K) (by omega) (by omega) (by omega))) (fun c17 => ?_)
    refine r_iload_n (pc := 20) dX11_meanPick_20 rfl rfl ?_
    refine r_join 47 (R_sm1 A k) ?_ (fun J21 => ?_)
    · refine r_iadd (pc := 47) dX11_meanPick_47 ?_
      refine q_istore_n [_, _, _] (pc := 48) dX11_meanPick_48 rfl (by decide) rfl ?_
      refine q_iinc (nI (k + 1)) [_, _, _] (pc := 49) dX11_meanPick_49 rfl (by decide) (ninc 1 rfl) rfl ?_
      refine r_goto 9 (pc := 52) dX11_meanPick_52 (by decide) ?_
      exact ih (k + 1) _ (by omega) (by rw [R_sum]) KK
    · refine r_aload_n (pc := 21) dX11_meanPick_21 rfl rfl ?_
      refine rs_get (pc := 22) dX11_meanPick_22 rfl f_RX11_7 rfl ?_
      refine r_bipush (v := 32) (pc := 25) dX11_meanPick_25 (by decide) ?_
      refine r_iload_n (pc := 27) dX11_meanPick_27 rfl rfl ?_
      refine r_iadd (pc := 28) dX11_meanPick_28 ?_
      refine rs_ld (32 + k) (pc := 29) dX11_meanPick_29 (nadd rfl rfl) (by omega) ?_
      refine r_iconst (v := (-1)) (pc := 30) dX11_meanPick_30 (by decide) ?_
      refine r_icmp_eq 46 (pc := 31) dX11_meanPick_31 (by decide) (fun c31 => ?_) (fun c31 => ?_)
      · refine r_iconst (v := 0) (pc := 46) dX11_meanPick_46 (by decide) ?_
        exact J21 _ (by rw [R_sm1]; (repeat (first | rw [if_pos (by assumption)] | rw [if_neg (by assumption)])))
      · refine r_aload_n (pc := 34) dX11_meanPick_34 rfl rfl ?_
        refine rs_get (pc := 35) dX11_meanPick_35 rfl f_RX11_7 rfl ?_
        refine r_bipush (v := 32) (pc := 38) dX11_meanPick_38 (by decide) ?_
        refine r_iload_n (pc := 40) dX11_meanPick_40 rfl rfl ?_
        refine r_iadd (pc := 41) dX11_meanPick_41 ?_
        refine rs_ld (32 + k) (pc := 42) dX11_meanPick_42 (nadd rfl rfl) (by omega) ?_
        refine r_goto 47 (pc := 43) dX11_meanPick_43 (by decide) ?_
        exact J21 _ (by rw [R_sm1]; (repeat (first | rw [if_pos (by assumption)] | rw [if_neg (by assumption)])))
theorem s_X11_meanPick {om : OM} {l : Launch} {B : Nat × Nat} {h0 : Hp} {I : Nat → Int32} {J : Nat → Int64} {A a v t n : Nat → Int32} (hl : l.stackTraces = false) (K : Nat) (hK : A 31 = nI K) (hK9 : K ≤ 9) (hn : ¬ R_kp A K = 0 → vf_n64 (FP.ddiv (FP.i2d (R_sum A K)) (FP.i2d (R_kp A K)))) : Runs om l M_X11_meanPick B 0 (entL 3 [.ref 119]) [] (rH h0 I J A a v t n) (Det (some (.double (R_mean A K))) (rH h0 (upd I 0 0) J A a v t n)) := by
  show Runs om l M_X11_meanPick B 0 [some (.ref 119), none, none] [] _ _
  refine r_aload_n (pc := 0) dX11_meanPick_0 rfl rfl ?_
  refine r_iconst (v := 0) (pc := 1) dX11_meanPick_1 (by decide) ?_
  refine rs_putI _ (pc := 2) dX11_meanPick_2 rfl f_RX11_30 (by decide) (mfs_0 _) ?_
  refine r_iconst (v := 0) (pc := 5) dX11_meanPick_5 (by decide) ?_
  refine q_istore_n [_, _, _] (pc := 6) dX11_meanPick_6 rfl (by decide) rfl ?_
  refine r_iconst (v := 0) (pc := 7) dX11_meanPick_7 (by decide) ?_
  refine q_istore_n [_, _, _] (pc := 8) dX11_meanPick_8 rfl (by decide) rfl ?_
  refine lp_sum K hK hK9 K 0 _ (by omega) rfl ?_
  refine r_aload_n (pc := 55) dX11_meanPick_55 rfl rfl ?_
  refine rs_call (vs := []) (pc := 56) dX11_meanPick_56 rfl l_RX11_100 rfl rfl ⟨by decide, by decide⟩ rfl (Nat.le_of_ble_eq_true rfl) hl (Nat.le_of_ble_eq_true rfl) (s_X11_kept K hK hK9) rfl ?_
  refine r_if_ne 68 (pc := 59) dX11_meanPick_59 (by decide) (fun c59 => ?_) (fun c59 => ?_)
  · refine r_iload_n (pc := 68) dX11_meanPick_68 rfl rfl ?_
    refine r_i2d (pc := 69) dX11_meanPick_69 ?_
    refine r_aload_n (pc := 70) dX11_meanPick_70 rfl rfl ?_
    refine rs_call (vs := []) (pc := 71) dX11_meanPick_71 rfl l_RX11_100 rfl rfl ⟨by decide, by decide⟩ rfl (Nat.le_of_ble_eq_true rfl) hl (Nat.le_of_ble_eq_true rfl) (s_X11_kept K hK hK9) rfl ?_
    refine r_i2d (pc := 74) dX11_meanPick_74 ?_
    refine r_ddiv (pc := 75) dX11_meanPick_75 (hn c59) ?_
    exact r_dreturn (S := []) (pc := 76) dX11_meanPick_76 rfl ⟨by rw [R_mean]; (repeat (first | rw [if_pos (by assumption)] | rw [if_neg (by assumption)])), rfl⟩
  · refine r_ldc2d (pc := 62) dX11_meanPick_62 rfl k_RX11_200 ?_
    refine r_goto 76 (pc := 65) dX11_meanPick_65 (by decide) ?_
    exact r_dreturn (S := []) (pc := 76) dX11_meanPick_76 rfl ⟨by rw [R_mean]; (repeat (first | rw [if_pos (by assumption)] | rw [if_neg (by assumption)])), rfl⟩
theorem lp_told {om : OM} {l : Launch} {B : Nat × Nat} {h0 : Hp} {I : Nat → Int32} {J : Nat → Int64} {A a v t n : Nat → Int32} {Post : Out → Hp → Prop} (hl : l.stackTraces = false) (d : Int32) (K : Nat) (hd : d = nI K) (hK : K ≤ 500) : ∀ (n9 k : Nat) (g : Nat → Int32) (pk : Int32), k + n9 = K → WF g → Runs om l M_X11_toldAfter B 63 [some (.ref 119), some (.int d), some (.int (nI (R_ta g n9 k pk).2.1)), some (.int (R_ta g n9 k pk).2.2)] [] (rH h0 I J ((R_ta g n9 k pk).1) a v t n) Post → Runs om l M_X11_toldAfter B 26 [some (.ref 119), some (.int d), some (.int (nI k)), some (.int pk)] [] (rH h0 I J g a v t n) Post := by
  intro n9
  induction n9 with
  | zero =>
    intro k g pk hk hw KK
    unfold R_ta at KK
    refine r_iload_n (pc := 26) dX11_toldAfter_26 rfl rfl ?_
    refine r_iload_n (pc := 27) dX11_toldAfter_27 rfl rfl ?_
    refine r_icmp_ge 63 (pc := 28) dX11_toldAfter_28 (by decide) (fun c28 => ?_) (fun c28 => absurd (c_get rfl hd (a := k) (b := K) (by omega) (by omega) (by omega)) c28)
    exact KK
  | succ n9 ih =>
    intro k g pk hk hw KK
    refine r_iload_n (pc := 26) dX11_toldAfter_26 rfl rfl ?_
    refine r_iload_n (pc := 27) dX11_toldAfter_27 rfl rfl ?_
    refine r_icmp_ge 63 (pc := 28) dX11_toldAfter_28 (by decide) (fun c28 => absurd c28 (c_gef rfl hd (a := k) (b := K) (by omega) (by omega) (by omega))) (fun c28 => ?_)
    refine r_aload_n (pc := 31) dX11_toldAfter_31 rfl rfl ?_
    refine rs_get (pc := 32) dX11_toldAfter_32 rfl f_RX11_7 rfl ?_
    refine r_bipush (v := 26) (pc := 35) dX11_toldAfter_35 (by decide) ?_
    refine rs_ld (26) (pc := 37) dX11_toldAfter_37 rfl (by omega) ?_
    refine r_iconst (v := (-1)) (pc := 38) dX11_toldAfter_38 (by decide) ?_
    refine r_icmp_ne 63 (pc := 39) dX11_toldAfter_39 (by decide) (fun c39 => ?_) (fun c39 => ?_)
    · rw [show R_ta g (n9 + 1) k pk = (g, k, pk) by rw [R_ta, if_neg (by assumption)]] at KK
      exact KK
    · refine r_iload_n (pc := 42) dX11_toldAfter_42 rfl rfl ?_
      refine r_aload_n (pc := 43) dX11_toldAfter_43 rfl rfl ?_
      refine rs_call (vs := []) (pc := 44) dX11_toldAfter_44 rfl l_RX11_184 rfl rfl ⟨by decide, by decide⟩ rfl (Nat.le_of_ble_eq_true rfl) hl (Nat.le_of_ble_eq_true rfl) (s_X11_shot hl hw) rfl ?_
      refine r_joinE (S := [.int pk]) 55 (R_one (R_shot g).2) ?_ (fun J47 => ?_)
      · refine r_iadd (pc := 55) dX11_toldAfter_55 ?_
        refine q_istore_n [_, _, _, _] (pc := 56) dX11_toldAfter_56 rfl (by decide) rfl ?_
        refine q_iinc (nI (k + 1)) [_, _, _, _] (pc := 57) dX11_toldAfter_57 rfl (by decide) (ninc 1 rfl) rfl ?_
        refine r_goto 26 (pc := 60) dX11_toldAfter_60 (by decide) ?_
        rw [show R_ta g (n9 + 1) k pk = R_ta (R_shot g).1 n9 (k + 1) (pk + R_one (R_shot g).2) by rw [R_ta, if_pos (by assumption)]] at KK
        exact ih (k + 1) _ _ (by omega) (WF_shot hw) KK
      · refine r_if_eq 54 (pc := 47) dX11_toldAfter_47 (by decide) (fun c47 => ?_) (fun c47 => ?_)
        · refine r_iconst (v := 0) (pc := 54) dX11_toldAfter_54 (by decide) ?_
          exact J47 _ (by first | rw [R_one, if_pos c47] | rw [R_one, if_neg c47])
        · refine r_iconst (v := 1) (pc := 50) dX11_toldAfter_50 (by decide) ?_
          refine r_goto 55 (pc := 51) dX11_toldAfter_51 (by decide) ?_
          exact J47 _ (by first | rw [R_one, if_pos c47] | rw [R_one, if_neg c47])
theorem s_X11_toldAfter_no {om : OM} {l : Launch} {B : Nat × Nat} {h0 : Hp} {I : Nat → Int32} {J : Nat → Int64} {A a v t n : Nat → Int32} (hl : l.stackTraces = false) (d : Int32) (h : R_in d 0 500 = 0) : Runs om l M_X11_toldAfter B 0 (entL 4 [.ref 119, .int d]) [] (rH h0 I J A a v t n) (Det (some (.int 0)) (rH h0 (upd I 0 1) J A a v t n)) := by
  show Runs om l M_X11_toldAfter B 0 [some (.ref 119), some (.int d), none, none] [] _ _
  refine r_aload_n (pc := 0) dX11_toldAfter_0 rfl rfl ?_
  refine r_iload_n (pc := 1) dX11_toldAfter_1 rfl rfl ?_
  refine r_iconst (v := 0) (pc := 2) dX11_toldAfter_2 (by decide) ?_
  refine r_sipush (v := 500) (pc := 3) dX11_toldAfter_3 (by decide) ?_
  refine q_callS (vs := [.int _, .int _, .int _]) (pc := 6) dX11_toldAfter_6 rfl l_RX11_89 rfl ⟨by decide, by decide⟩ rfl (Nat.le_of_ble_eq_true rfl) hl (Nat.le_of_ble_eq_true rfl) (s_X11_in _ _ _) rfl ?_
  refine r_iconst (v := 1) (pc := 9) dX11_toldAfter_9 (by decide) ?_
  refine rs_call (vs := [.int _, .int _]) (pc := 10) dX11_toldAfter_10 rfl l_RX11_37 rfl rfl ⟨by decide, by decide⟩ rfl (Nat.le_of_ble_eq_true rfl) hl (Nat.le_of_ble_eq_true rfl) (s_X11_holds0 h) rfl ?_
  refine r_if_ne 18 (pc := 13) dX11_toldAfter_13 (by decide) (fun c13 => absurd (c_eqt rfl rfl (a := 0) (b := 0) (by omega) (by omega) (by omega)) c13) (fun c13 => ?_)
  refine r_iconst (v := 0) (pc := 16) dX11_toldAfter_16 (by decide) ?_
  exact r_ireturn (S := []) (pc := 17) dX11_toldAfter_17 rfl rfl ⟨rfl, rfl⟩
theorem s_X11_toldAfter_yes {om : OM} {l : Launch} {B : Nat × Nat} {h0 : Hp} {I : Nat → Int32} {J : Nat → Int64} {A a v t n : Nat → Int32} (hl : l.stackTraces = false) (d : Int32) (h : R_in d 0 500 = 1)  (K : Nat) (hd : d = nI K) (hK : K ≤ 500) (hw : WF A) : Runs om l M_X11_toldAfter B 0 (entL 4 [.ref 119, .int d]) [] (rH h0 I J A a v t n) (Det (some (.int (R_tac (R_ta A K 0 0)))) (rH h0 (upd I 0 0) J A (cpT A a 647) v t n)) := by
  show Runs om l M_X11_toldAfter B 0 [some (.ref 119), some (.int d), none, none] [] _ _
  refine r_aload_n (pc := 0) dX11_toldAfter_0 rfl rfl ?_
  refine r_iload_n (pc := 1) dX11_toldAfter_1 rfl rfl ?_
  refine r_iconst (v := 0) (pc := 2) dX11_toldAfter_2 (by decide) ?_
  refine r_sipush (v := 500) (pc := 3) dX11_toldAfter_3 (by decide) ?_
  refine q_callS (vs := [.int _, .int _, .int _]) (pc := 6) dX11_toldAfter_6 rfl l_RX11_89 rfl ⟨by decide, by decide⟩ rfl (Nat.le_of_ble_eq_true rfl) hl (Nat.le_of_ble_eq_true rfl) (s_X11_in _ _ _) rfl ?_
  refine r_iconst (v := 1) (pc := 9) dX11_toldAfter_9 (by decide) ?_
  refine rs_call (vs := [.int _, .int _]) (pc := 10) dX11_toldAfter_10 rfl l_RX11_37 rfl rfl ⟨by decide, by decide⟩ rfl (Nat.le_of_ble_eq_true rfl) hl (Nat.le_of_ble_eq_true rfl) (s_X11_holds1 h) rfl ?_
  refine r_if_ne 18 (pc := 13) dX11_toldAfter_13 (by decide) (fun c13 => ?_) (fun c13 => absurd c13 (c_eqf rfl rfl (a := 1) (b := 0) (by omega) (by omega) (by omega)))
  refine r_aload_n (pc := 18) dX11_toldAfter_18 rfl rfl ?_
  refine rs_call (vs := []) (pc := 19) dX11_toldAfter_19 rfl l_RX11_202 rfl rfl ⟨by decide, by decide⟩ rfl (Nat.le_of_ble_eq_true rfl) hl (Nat.le_of_ble_eq_true rfl) (s_X11_putAside) rfl ?_
  refine r_iconst (v := 0) (pc := 22) dX11_toldAfter_22 (by decide) ?_
  refine q_istore_n [_, _, _, _] (pc := 23) dX11_toldAfter_23 rfl (by decide) rfl ?_
  refine r_iconst (v := 0) (pc := 24) dX11_toldAfter_24 (by decide) ?_
  refine q_istore_n [_, _, _, _] (pc := 25) dX11_toldAfter_25 rfl (by decide) rfl ?_
  refine lp_told (A := A) hl d K hd hK K 0 A 0 (by omega) hw ?_
  refine r_join 84 (R_tac (R_ta A K 0 0)) ?_ (fun J63 => ?_)
  · refine q_istore_n [_, _, _, _] (pc := 84) dX11_toldAfter_84 rfl (by decide) rfl ?_
    refine r_aload_n (pc := 85) dX11_toldAfter_85 rfl rfl ?_
    refine rs_call (vs := []) (pc := 86) dX11_toldAfter_86 rfl l_RX11_205 rfl rfl ⟨by decide, by decide⟩ rfl (Nat.le_of_ble_eq_true rfl) hl (Nat.le_of_ble_eq_true rfl) (s_X11_putBack) rfl ?_
    refine r_iload_n (pc := 89) dX11_toldAfter_89 rfl rfl ?_
    exact r_ireturn (S := []) (pc := 90) dX11_toldAfter_90 rfl rfl ⟨rfl, by rw [back (fun j hj => ta_hi hj _ _ _ _ hw)]⟩
  · refine r_aload_n (pc := 63) dX11_toldAfter_63 rfl rfl ?_
    refine rs_get (pc := 64) dX11_toldAfter_64 rfl f_RX11_7 rfl ?_
    refine r_bipush (v := 26) (pc := 67) dX11_toldAfter_67 (by decide) ?_
    refine rs_ld (26) (pc := 69) dX11_toldAfter_69 rfl (by omega) ?_
    refine r_iconst (v := (-1)) (pc := 70) dX11_toldAfter_70 (by decide) ?_
    refine r_icmp_eq 79 (pc := 71) dX11_toldAfter_71 (by decide) (fun c71 => ?_) (fun c71 => ?_)
    · refine r_iconst (v := (-1)) (pc := 79) dX11_toldAfter_79 (by decide) ?_
      refine r_goto 84 (pc := 80) dX11_toldAfter_80 (by decide) ?_
      exact J63 _ (by first | rw [R_tac, if_pos c71] | rw [R_tac, if_neg c71, if_pos c76] | rw [R_tac, if_neg c71, if_neg c76])
    · refine r_iload_n (pc := 74) dX11_toldAfter_74 rfl rfl ?_
      refine r_iload_n (pc := 75) dX11_toldAfter_75 rfl rfl ?_
      refine r_icmp_le 83 (pc := 76) dX11_toldAfter_76 (by decide) (fun c76 => ?_) (fun c76 => ?_)
      · refine r_iload_n (pc := 83) dX11_toldAfter_83 rfl rfl ?_
        exact J63 _ (by first | rw [R_tac, if_pos c71] | rw [R_tac, if_neg c71, if_pos c76] | rw [R_tac, if_neg c71, if_neg c76])
      · refine r_iconst (v := (-1)) (pc := 79) dX11_toldAfter_79 (by decide) ?_
        refine r_goto 84 (pc := 80) dX11_toldAfter_80 (by decide) ?_
        exact J63 _ (by first | rw [R_tac, if_pos c71] | rw [R_tac, if_neg c71, if_pos c76] | rw [R_tac, if_neg c71, if_neg c76])
theorem lp_worst {om : OM} {l : Launch} {B : Nat × Nat} {h0 : Hp} {I : Nat → Int32} {J : Nat → Int64} {A a v t n : Nat → Int32} {Post : Out → Hp → Prop} (hl : l.stackTraces = false) (d x : Int32) (K : Nat) (hd : d = nI K) (hK : K ≤ 500) (hw : WF A) : ∀ (n9 k : Nat) (g : Nat → Int32) (ws : Int32) (pk : Int32), k + n9 = K → g = (R_wo A k).1 → ws = (R_wo A k).2.1 → pk = (R_wo A k).2.2 → Runs om l M_X11_worst B 96 [some (.ref 119), some (.int d), some (.int x), some (.int ((R_wo A K).2.1)), some (.int ((R_wo A K).2.2)), some (.int (nI K)), none] [] (rH h0 I J ((R_wo A K).1) a v t n) Post → Runs om l M_X11_worst B 20 [some (.ref 119), some (.int d), some (.int x), some (.int ws), some (.int pk), some (.int (nI k)), none] [] (rH h0 I J g a v t n) Post := by
  intro n9
  induction n9 with
  | zero =>
    intro k g ws pk hk e_g e_ws e_pk KK
    have hwg : WF g := by rw [e_g]; exact WF_wo hw k
    have e9 : k = K := by omega
    refine r_iload (pc := 20) dX11_worst_20 rfl ?_
    refine r_iload_n (pc := 22) dX11_worst_22 rfl rfl ?_
    refine r_icmp_ge 96 (pc := 23) dX11_worst_23 (by decide) (fun c23 => ?_) (fun c23 => absurd (c_get rfl hd (a := k) (b := K) (by omega) (by omega) (by omega)) c23)
    subst e9
    subst e_g
    subst e_ws
    subst e_pk
    exact KK
  | succ n9 ih =>
    intro k g ws pk hk e_g e_ws e_pk KK
    have hwg : WF g := by rw [e_g]; exact WF_wo hw k
    refine r_iload (pc := 20) dX11_worst_20 rfl ?_
    refine r_iload_n (pc := 22) dX11_worst_22 rfl rfl ?_
    refine r_icmp_ge 96 (pc := 23) dX11_worst_23 (by decide) (fun c23 => absurd c23 (c_gef rfl hd (a := k) (b := K) (by omega) (by omega) (by omega))) (fun c23 => ?_)
    refine r_iload (pc := 26) dX11_worst_26 rfl ?_
    refine r_aload_n (pc := 28) dX11_worst_28 rfl rfl ?_
    refine rs_call (vs := []) (pc := 29) dX11_worst_29 rfl l_RX11_184 rfl rfl ⟨by decide, by decide⟩ rfl (Nat.le_of_ble_eq_true rfl) hl (Nat.le_of_ble_eq_true rfl) (s_X11_shot hl hwg) rfl ?_
    refine r_joinE (S := [.int pk]) 40 (R_one (R_shot g).2) ?_ (fun J32 => ?_)
    · refine r_iadd (pc := 40) dX11_worst_40 ?_
      refine q_istore [_, _, _, _, _, _, _] (pc := 41) dX11_worst_41 (by decide) rfl ?_
      refine r_join 81 (R_err (R_shot g).1) ?_ (fun J43 => ?_)
      · refine q_istore [_, _, _, _, _, _, _] (pc := 81) dX11_worst_81 (by decide) rfl ?_
        refine r_iload_n (pc := 83) dX11_worst_83 rfl rfl ?_
        refine r_iload (pc := 84) dX11_worst_84 rfl ?_
        refine q_callS (vs := [.int _, .int _]) (pc := 86) dX11_worst_86 rfl l_RX11_60 rfl ⟨by decide, by decide⟩ rfl (Nat.le_of_ble_eq_true rfl) hl (Nat.le_of_ble_eq_true rfl) (s_X11_greater _ _) rfl ?_
        refine q_istore_n [_, _, _, _, _, _, _] (pc := 89) dX11_worst_89 rfl (by decide) rfl ?_
        refine q_iinc (nI (k + 1)) [_, _, _, _, _, _, _] (pc := 90) dX11_worst_90 rfl (by decide) (ninc 1 rfl) rfl ?_
        refine r_goto 20 (pc := 93) dX11_worst_93 (by decide) ?_
        refine r_wk [some _, some _, some _, some _, some _, some _, none] ⟨rfl, ⟨rfl, ⟨rfl, ⟨rfl, ⟨rfl, ⟨rfl, trivial⟩⟩⟩⟩⟩⟩ ?_
        exact ih (k + 1) _ _ _ (by omega) (by rw [wo_s, R_wb, ← e_g]) (by rw [wo_s, R_wb, ← e_g, ← e_ws]) (by rw [wo_s, R_wb, ← e_g, ← e_pk]) KK
      · refine r_aload_n (pc := 43) dX11_worst_43 rfl rfl ?_
        refine rs_get (pc := 44) dX11_worst_44 rfl f_RX11_7 rfl ?_
        refine r_bipush (v := 26) (pc := 47) dX11_worst_47 (by decide) ?_
        refine rs_ld (26) (pc := 49) dX11_worst_49 rfl (by omega) ?_
        refine r_iconst (v := (-1)) (pc := 50) dX11_worst_50 (by decide) ?_
        refine r_icmp_ne 58 (pc := 51) dX11_worst_51 (by decide) (fun c51 => ?_) (fun c51 => ?_)
        · refine r_aload_n (pc := 58) dX11_worst_58 rfl rfl ?_
          refine rs_get (pc := 59) dX11_worst_59 rfl f_RX11_7 rfl ?_
          refine r_iconst (v := 1) (pc := 62) dX11_worst_62 (by decide) ?_
          refine rs_ld (1) (pc := 63) dX11_worst_63 rfl (by omega) ?_
          refine r_aload_n (pc := 64) dX11_worst_64 rfl rfl ?_
          refine rs_get (pc := 65) dX11_worst_65 rfl f_RX11_7 rfl ?_
          refine r_iconst (v := 0) (pc := 68) dX11_worst_68 (by decide) ?_
          refine rs_ld (0) (pc := 69) dX11_worst_69 rfl (by omega) ?_
          refine r_aload_n (pc := 70) dX11_worst_70 rfl rfl ?_
          refine rs_get (pc := 71) dX11_worst_71 rfl f_RX11_7 rfl ?_
          refine r_bipush (v := 26) (pc := 74) dX11_worst_74 (by decide) ?_
          refine rs_ld (26) (pc := 76) dX11_worst_76 rfl (by omega) ?_
          refine r_isub (pc := 77) dX11_worst_77 ?_
          refine q_callS (vs := [.int _, .int _]) (pc := 78) dX11_worst_78 rfl l_RX11_83 rfl ⟨by decide, by decide⟩ rfl (Nat.le_of_ble_eq_true rfl) hl (Nat.le_of_ble_eq_true rfl) (s_X11_apart _ _) rfl ?_
          exact J43 _ (by first | rw [R_err, if_pos c51] | rw [R_err, if_neg c51])
        · refine r_iconst (v := 0) (pc := 54) dX11_worst_54 (by decide) ?_
          refine r_goto 81 (pc := 55) dX11_worst_55 (by decide) ?_
          exact J43 _ (by first | rw [R_err, if_pos c51] | rw [R_err, if_neg c51])
    · refine r_if_eq 39 (pc := 32) dX11_worst_32 (by decide) (fun c32 => ?_) (fun c32 => ?_)
      · refine r_iconst (v := 0) (pc := 39) dX11_worst_39 (by decide) ?_
        exact J32 _ (by first | rw [R_one, if_pos c32] | rw [R_one, if_neg c32])
      · refine r_iconst (v := 1) (pc := 35) dX11_worst_35 (by decide) ?_
        refine r_goto 40 (pc := 36) dX11_worst_36 (by decide) ?_
        exact J32 _ (by first | rw [R_one, if_pos c32] | rw [R_one, if_neg c32])
theorem s_X11_worst {om : OM} {l : Launch} {B : Nat × Nat} {h0 : Hp} {I : Nat → Int32} {J : Nat → Int64} {A a v t n : Nat → Int32} (hl : l.stackTraces = false) (K : Nat) (d x : Int32) (hd : d = nI K) (hK : K ≤ 500) (hw : WF A) : Runs om l M_X11_worst B 0 (entL 7 [.ref 119, .int d, .int x]) [] (rH h0 I J A a v t n) (Det (some (.int (R_worst A K x))) (rH h0 I J A (cpT A a 647) v t n)) := by
  show Runs om l M_X11_worst B 0 [some (.ref 119), some (.int d), some (.int x), none, none, none, none] [] _ _
  refine r_aload_n (pc := 0) dX11_worst_0 rfl rfl ?_
  refine rs_call (vs := []) (pc := 1) dX11_worst_1 rfl l_RX11_202 rfl rfl ⟨by decide, by decide⟩ rfl (Nat.le_of_ble_eq_true rfl) hl (Nat.le_of_ble_eq_true rfl) (s_X11_putAside) rfl ?_
  refine r_aload_n (pc := 4) dX11_worst_4 rfl rfl ?_
  refine rs_get (pc := 5) dX11_worst_5 rfl f_RX11_7 rfl ?_
  refine r_bipush (v := 17) (pc := 8) dX11_worst_8 (by decide) ?_
  refine r_iload_n (pc := 10) dX11_worst_10 rfl rfl ?_
  refine rs_st (17) (pc := 11) dX11_worst_11 rfl (by omega) ?_
  refine r_iconst (v := 0) (pc := 12) dX11_worst_12 (by decide) ?_
  refine q_istore_n [_, _, _, _, _, _, _] (pc := 13) dX11_worst_13 rfl (by decide) rfl ?_
  refine r_iconst (v := 0) (pc := 14) dX11_worst_14 (by decide) ?_
  refine q_istore [_, _, _, _, _, _, _] (pc := 15) dX11_worst_15 (by decide) rfl ?_
  refine r_iconst (v := 0) (pc := 17) dX11_worst_17 (by decide) ?_
  refine q_istore [_, _, _, _, _, _, _] (pc := 18) dX11_worst_18 (by decide) rfl ?_
  refine lp_worst hl d x K hd hK (WF_mode hw) K 0 _ _ _ (by omega) (by rw [wo_0]) (by rw [wo_0]) (by rw [wo_0]) ?_
  refine r_aload_n (pc := 96) dX11_worst_96 rfl rfl ?_
  refine rs_call (vs := []) (pc := 97) dX11_worst_97 rfl l_RX11_205 rfl rfl ⟨by decide, by decide⟩ rfl (Nat.le_of_ble_eq_true rfl) hl (Nat.le_of_ble_eq_true rfl) (s_X11_putBack) rfl ?_
  refine r_iload (pc := 100) dX11_worst_100 rfl ?_
  refine r_if_lt 109 (pc := 102) dX11_worst_102 (by decide) (fun c102 => ?_) (fun c102 => ?_)
  · refine r_iconst (v := (-1)) (pc := 109) dX11_worst_109 (by decide) ?_
    exact r_ireturn (S := []) (pc := 110) dX11_worst_110 rfl rfl ⟨by first | rw [R_worst, R_wc, if_pos c102] | rw [R_worst, R_wc, if_neg c102], by rw [back (fun j hj => (wo_hi (WF_mode hw) hj K).trans (upd_n (by omega)))]⟩
  · refine r_iload_n (pc := 105) dX11_worst_105 rfl rfl ?_
    refine r_goto 110 (pc := 106) dX11_worst_106 (by decide) ?_
    exact r_ireturn (S := []) (pc := 110) dX11_worst_110 rfl rfl ⟨by first | rw [R_worst, R_wc, if_pos c102] | rw [R_worst, R_wc, if_neg c102], by rw [back (fun j hj => (wo_hi (WF_mode hw) hj K).trans (upd_n (by omega)))]⟩
theorem s_X11_worstError_no {om : OM} {l : Launch} {B : Nat × Nat} {h0 : Hp} {I : Nat → Int32} {J : Nat → Int64} {A a v t n : Nat → Int32} (hl : l.stackTraces = false) (d : Int32) (h : R_in d 1 200 = 0) : Runs om l M_X11_worstError B 0 (entL 2 [.ref 119, .int d]) [] (rH h0 I J A a v t n) (Det (some (.int 0)) (rH h0 (upd I 0 1) J A a v t n)) := by
  show Runs om l M_X11_worstError B 0 [some (.ref 119), some (.int d)] [] _ _
  refine r_aload_n (pc := 0) dX11_worstError_0 rfl rfl ?_
  refine r_iload_n (pc := 1) dX11_worstError_1 rfl rfl ?_
  refine r_iconst (v := 1) (pc := 2) dX11_worstError_2 (by decide) ?_
  refine r_sipush (v := 200) (pc := 3) dX11_worstError_3 (by decide) ?_
  refine q_callS (vs := [.int _, .int _, .int _]) (pc := 6) dX11_worstError_6 rfl l_RX11_89 rfl ⟨by decide, by decide⟩ rfl (Nat.le_of_ble_eq_true rfl) hl (Nat.le_of_ble_eq_true rfl) (s_X11_in _ _ _) rfl ?_
  refine r_iconst (v := 1) (pc := 9) dX11_worstError_9 (by decide) ?_
  refine rs_call (vs := [.int _, .int _]) (pc := 10) dX11_worstError_10 rfl l_RX11_37 rfl rfl ⟨by decide, by decide⟩ rfl (Nat.le_of_ble_eq_true rfl) hl (Nat.le_of_ble_eq_true rfl) (s_X11_holds0 h) rfl ?_
  refine r_if_eq 31 (pc := 13) dX11_worstError_13 (by decide) (fun c13 => ?_) (fun c13 => absurd (c_eqt rfl rfl (a := 0) (b := 0) (by omega) (by omega) (by omega)) c13)
  refine r_iconst (v := 0) (pc := 31) dX11_worstError_31 (by decide) ?_
  exact r_ireturn (S := []) (pc := 32) dX11_worstError_32 rfl rfl ⟨rfl, rfl⟩
theorem s_X11_worstError_yes {om : OM} {l : Launch} {B : Nat × Nat} {h0 : Hp} {I : Nat → Int32} {J : Nat → Int64} {A a v t n : Nat → Int32} (hl : l.stackTraces = false) (d : Int32) (h : R_in d 1 200 = 1)  (K : Nat) (hd : d = nI K) (hK : K ≤ 500) (hw : WF A) : Runs om l M_X11_worstError B 0 (entL 2 [.ref 119, .int d]) [] (rH h0 I J A a v t n) (Det (some (.int (R_worst A K (A 17)))) (rH h0 (upd I 0 0) J A (cpT A a 647) v t n)) := by
  show Runs om l M_X11_worstError B 0 [some (.ref 119), some (.int d)] [] _ _
  refine r_aload_n (pc := 0) dX11_worstError_0 rfl rfl ?_
  refine r_iload_n (pc := 1) dX11_worstError_1 rfl rfl ?_
  refine r_iconst (v := 1) (pc := 2) dX11_worstError_2 (by decide) ?_
  refine r_sipush (v := 200) (pc := 3) dX11_worstError_3 (by decide) ?_
  refine q_callS (vs := [.int _, .int _, .int _]) (pc := 6) dX11_worstError_6 rfl l_RX11_89 rfl ⟨by decide, by decide⟩ rfl (Nat.le_of_ble_eq_true rfl) hl (Nat.le_of_ble_eq_true rfl) (s_X11_in _ _ _) rfl ?_
  refine r_iconst (v := 1) (pc := 9) dX11_worstError_9 (by decide) ?_
  refine rs_call (vs := [.int _, .int _]) (pc := 10) dX11_worstError_10 rfl l_RX11_37 rfl rfl ⟨by decide, by decide⟩ rfl (Nat.le_of_ble_eq_true rfl) hl (Nat.le_of_ble_eq_true rfl) (s_X11_holds1 h) rfl ?_
  refine r_if_eq 31 (pc := 13) dX11_worstError_13 (by decide) (fun c13 => absurd c13 (c_eqf rfl rfl (a := 1) (b := 0) (by omega) (by omega) (by omega))) (fun c13 => ?_)
  refine r_aload_n (pc := 16) dX11_worstError_16 rfl rfl ?_
  refine r_iload_n (pc := 17) dX11_worstError_17 rfl rfl ?_
  refine r_aload_n (pc := 18) dX11_worstError_18 rfl rfl ?_
  refine rs_get (pc := 19) dX11_worstError_19 rfl f_RX11_7 rfl ?_
  refine r_bipush (v := 17) (pc := 22) dX11_worstError_22 (by decide) ?_
  refine rs_ld (17) (pc := 24) dX11_worstError_24 rfl (by omega) ?_
  refine rs_call (vs := [.int _, .int _]) (pc := 25) dX11_worstError_25 rfl l_RX11_208 rfl rfl ⟨by decide, by decide⟩ rfl (Nat.le_of_ble_eq_true rfl) hl (Nat.le_of_ble_eq_true rfl) (s_X11_worst hl K _ _ hd hK hw) rfl ?_
  refine r_goto 32 (pc := 28) dX11_worstError_28 (by decide) ?_
  exact r_ireturn (S := []) (pc := 32) dX11_worstError_32 rfl rfl ⟨rfl, rfl⟩
theorem lp_best {om : OM} {l : Launch} {B : Nat × Nat} {h0 : Hp} {I : Nat → Int32} {J : Nat → Int64} {A a v t n : Nat → Int32} {Post : Out → Hp → Prop} (hl : l.stackTraces = false) (d : Int32) (K : Nat) (hd : d = nI K) (hK : K ≤ 500) (hw : WF A) : ∀ (n9 k : Nat) (b : Int32) (ls : Int32), k + n9 = 3 → b = (R_bmo A K k).1 → ls = (R_bmo A K k).2 → Runs om l M_X11_bestMode B 77 [some (.ref 119), some (.int d), some (.int ((R_bmo A K 3).1)), some (.int ((R_bmo A K 3).2)), some (.int (nI 3)), none] [] (rH h0 I J A (cpT A a 647) v t n) Post → Runs om l M_X11_bestMode B 30 [some (.ref 119), some (.int d), some (.int b), some (.int ls), some (.int (nI k)), none] [] (rH h0 I J A (cpT A a 647) v t n) Post := by
  intro n9
  induction n9 with
  | zero =>
    intro k b ls hk e_b e_ls KK
    have e9 : k = 3 := by omega
    subst e9
    refine r_iload (pc := 30) dX11_bestMode_30 rfl ?_
    refine r_iconst (v := 3) (pc := 32) dX11_bestMode_32 (by decide) ?_
    refine r_icmp_ge 77 (pc := 33) dX11_bestMode_33 (by decide) (fun c33 => ?_) (fun c33 => absurd (c_get rfl rfl (a := 3) (b := 3) (by omega) (by omega) (by omega)) c33)
    subst e_b
    subst e_ls
    exact KK
  | succ n9 ih =>
    intro k b ls hk e_b e_ls KK
    refine r_iload (pc := 30) dX11_bestMode_30 rfl ?_
    refine r_iconst (v := 3) (pc := 32) dX11_bestMode_32 (by decide) ?_
    refine r_icmp_ge 77 (pc := 33) dX11_bestMode_33 (by decide) (fun c33 => absurd c33 (c_gef rfl rfl (a := k) (b := 3) (by omega) (by omega) (by omega))) (fun c33 => ?_)
    refine r_aload_n (pc := 36) dX11_bestMode_36 rfl rfl ?_
    refine r_iload_n (pc := 37) dX11_bestMode_37 rfl rfl ?_
    refine r_iload (pc := 38) dX11_bestMode_38 rfl ?_
    refine rs_call (vs := [.int _, .int _]) (pc := 40) dX11_bestMode_40 rfl l_RX11_208 rfl rfl ⟨by decide, by decide⟩ rfl (Nat.le_of_ble_eq_true rfl) hl (Nat.le_of_ble_eq_true rfl) (s_X11_worst hl K _ _ hd hK hw) rfl ?_
    rw [cpT_2]
    refine q_istore [_, _, _, _, _, _] (pc := 43) dX11_bestMode_43 (by decide) rfl ?_
    refine r_join 57 ((R_bm A K k (b, ls)).1) ?_ (fun J45 => ?_)
    · refine q_istore_n [_, _, _, _, _, _] (pc := 57) dX11_bestMode_57 rfl (by decide) rfl ?_
      refine r_join 70 ((R_bm A K k (b, ls)).2) ?_ (fun J58 => ?_)
      · refine q_istore_n [_, _, _, _, _, _] (pc := 70) dX11_bestMode_70 rfl (by decide) rfl ?_
        refine q_iinc (nI (k + 1)) [_, _, _, _, _, _] (pc := 71) dX11_bestMode_71 rfl (by decide) (ninc 1 rfl) rfl ?_
        refine r_goto 30 (pc := 74) dX11_bestMode_74 (by decide) ?_
        refine r_wk [some _, some _, some _, some _, some _, none] ⟨rfl, ⟨rfl, ⟨rfl, ⟨rfl, ⟨rfl, trivial⟩⟩⟩⟩⟩ ?_
        exact ih (k + 1) _ _ (by omega) (by rw [bmo_s, ← eta_bmo e_b e_ls]) (by rw [bmo_s, ← eta_bmo e_b e_ls]) KK
      · refine r_iload (pc := 58) dX11_bestMode_58 rfl ?_
        refine r_iload_n (pc := 60) dX11_bestMode_60 rfl rfl ?_
        refine r_icmp_ge 69 (pc := 61) dX11_bestMode_61 (by decide) (fun c61 => ?_) (fun c61 => ?_)
        · refine r_iload_n (pc := 69) dX11_bestMode_69 rfl rfl ?_
          exact J58 _ (by rw [R_bm]; dsimp only; (repeat (first | rw [if_pos (by assumption)] | rw [if_neg (by assumption)])); try rfl)
        · refine r_iload (pc := 64) dX11_bestMode_64 rfl ?_
          refine r_goto 70 (pc := 66) dX11_bestMode_66 (by decide) ?_
          exact J58 _ (by rw [R_bm]; dsimp only; (repeat (first | rw [if_pos (by assumption)] | rw [if_neg (by assumption)])); try rfl)
    · refine r_iload (pc := 45) dX11_bestMode_45 rfl ?_
      refine r_iload_n (pc := 47) dX11_bestMode_47 rfl rfl ?_
      refine r_icmp_ge 56 (pc := 48) dX11_bestMode_48 (by decide) (fun c48 => ?_) (fun c48 => ?_)
      · refine r_iload_n (pc := 56) dX11_bestMode_56 rfl rfl ?_
        exact J45 _ (by rw [R_bm]; dsimp only; (repeat (first | rw [if_pos (by assumption)] | rw [if_neg (by assumption)])); try rfl)
      · refine r_iload (pc := 51) dX11_bestMode_51 rfl ?_
        refine r_goto 57 (pc := 53) dX11_bestMode_53 (by decide) ?_
        exact J45 _ (by rw [R_bm]; dsimp only; (repeat (first | rw [if_pos (by assumption)] | rw [if_neg (by assumption)])); try rfl)
theorem s_X11_bestMode_no {om : OM} {l : Launch} {B : Nat × Nat} {h0 : Hp} {I : Nat → Int32} {J : Nat → Int64} {A a v t n : Nat → Int32} (hl : l.stackTraces = false) (d : Int32) (h : R_in d 1 200 = 0) : Runs om l M_X11_bestMode B 0 (entL 6 [.ref 119, .int d]) [] (rH h0 I J A a v t n) (Det (some (.int 0)) (rH h0 (upd I 0 1) J A a v t n)) := by
  show Runs om l M_X11_bestMode B 0 [some (.ref 119), some (.int d), none, none, none, none] [] _ _
  refine r_aload_n (pc := 0) dX11_bestMode_0 rfl rfl ?_
  refine r_iload_n (pc := 1) dX11_bestMode_1 rfl rfl ?_
  refine r_iconst (v := 1) (pc := 2) dX11_bestMode_2 (by decide) ?_
  refine r_sipush (v := 200) (pc := 3) dX11_bestMode_3 (by decide) ?_
  refine q_callS (vs := [.int _, .int _, .int _]) (pc := 6) dX11_bestMode_6 rfl l_RX11_89 rfl ⟨by decide, by decide⟩ rfl (Nat.le_of_ble_eq_true rfl) hl (Nat.le_of_ble_eq_true rfl) (s_X11_in _ _ _) rfl ?_
  refine r_iconst (v := 1) (pc := 9) dX11_bestMode_9 (by decide) ?_
  refine rs_call (vs := [.int _, .int _]) (pc := 10) dX11_bestMode_10 rfl l_RX11_37 rfl rfl ⟨by decide, by decide⟩ rfl (Nat.le_of_ble_eq_true rfl) hl (Nat.le_of_ble_eq_true rfl) (s_X11_holds0 h) rfl ?_
  refine r_if_ne 18 (pc := 13) dX11_bestMode_13 (by decide) (fun c13 => absurd (c_eqt rfl rfl (a := 0) (b := 0) (by omega) (by omega) (by omega)) c13) (fun c13 => ?_)
  refine r_iconst (v := 0) (pc := 16) dX11_bestMode_16 (by decide) ?_
  exact r_ireturn (S := []) (pc := 17) dX11_bestMode_17 rfl rfl ⟨rfl, rfl⟩
theorem s_X11_bestMode_yes {om : OM} {l : Launch} {B : Nat × Nat} {h0 : Hp} {I : Nat → Int32} {J : Nat → Int64} {A a v t n : Nat → Int32} (hl : l.stackTraces = false) (d : Int32) (h : R_in d 1 200 = 1)  (K : Nat) (hd : d = nI K) (hK : K ≤ 500) (hw : WF A) : Runs om l M_X11_bestMode B 0 (entL 6 [.ref 119, .int d]) [] (rH h0 I J A a v t n) (Det (some (.int (R_bmo A K 3).1)) (rH h0 (upd I 0 0) J A (cpT A a 647) v t n)) := by
  show Runs om l M_X11_bestMode B 0 [some (.ref 119), some (.int d), none, none, none, none] [] _ _
  refine r_aload_n (pc := 0) dX11_bestMode_0 rfl rfl ?_
  refine r_iload_n (pc := 1) dX11_bestMode_1 rfl rfl ?_
  refine r_iconst (v := 1) (pc := 2) dX11_bestMode_2 (by decide) ?_
  refine r_sipush (v := 200) (pc := 3) dX11_bestMode_3 (by decide) ?_
  refine q_callS (vs := [.int _, .int _, .int _]) (pc := 6) dX11_bestMode_6 rfl l_RX11_89 rfl ⟨by decide, by decide⟩ rfl (Nat.le_of_ble_eq_true rfl) hl (Nat.le_of_ble_eq_true rfl) (s_X11_in _ _ _) rfl ?_
  refine r_iconst (v := 1) (pc := 9) dX11_bestMode_9 (by decide) ?_
  refine rs_call (vs := [.int _, .int _]) (pc := 10) dX11_bestMode_10 rfl l_RX11_37 rfl rfl ⟨by decide, by decide⟩ rfl (Nat.le_of_ble_eq_true rfl) hl (Nat.le_of_ble_eq_true rfl) (s_X11_holds1 h) rfl ?_
  refine r_if_ne 18 (pc := 13) dX11_bestMode_13 (by decide) (fun c13 => ?_) (fun c13 => absurd c13 (c_eqf rfl rfl (a := 1) (b := 0) (by omega) (by omega) (by omega)))
  refine r_iconst (v := 0) (pc := 18) dX11_bestMode_18 (by decide) ?_
  refine q_istore_n [_, _, _, _, _, _] (pc := 19) dX11_bestMode_19 rfl (by decide) rfl ?_
  refine r_aload_n (pc := 20) dX11_bestMode_20 rfl rfl ?_
  refine r_iload_n (pc := 21) dX11_bestMode_21 rfl rfl ?_
  refine r_iconst (v := 0) (pc := 22) dX11_bestMode_22 (by decide) ?_
  refine rs_call (vs := [.int _, .int _]) (pc := 23) dX11_bestMode_23 rfl l_RX11_208 rfl rfl ⟨by decide, by decide⟩ rfl (Nat.le_of_ble_eq_true rfl) hl (Nat.le_of_ble_eq_true rfl) (s_X11_worst hl K _ _ hd hK hw) rfl ?_
  refine q_istore_n [_, _, _, _, _, _] (pc := 26) dX11_bestMode_26 rfl (by decide) rfl ?_
  refine r_iconst (v := 1) (pc := 27) dX11_bestMode_27 (by decide) ?_
  refine q_istore [_, _, _, _, _, _] (pc := 28) dX11_bestMode_28 (by decide) rfl ?_
  refine lp_best hl d K hd hK hw 2 1 _ _ (by omega) (by rw [bmo_1]) (by rw [bmo_1]) ?_
  refine r_iload_n (pc := 77) dX11_bestMode_77 rfl rfl ?_
  exact r_ireturn (S := []) (pc := 78) dX11_bestMode_78 rfl rfl ⟨rfl, rfl⟩
