/-! reading a command -/
def R_p3 (t : Nat → Int32) (ln q : Nat) : Nat := if R_an t ln (R_n0 t ln q) 59 59 = 0 then R_n0 t ln q else R_n0 t ln q + 1
def R_tail (t : Nat → Int32) (ln q : Nat) : Int32 × Nat := (R_an t ln (R_n0 t ln q) 59 59, R_n0 t ln (R_p3 t ln q))
theorem n0_le {t : Nat → Int32} {ln p : Nat} (h : p ≤ ln) : p ≤ R_n0 t ln p ∧ R_n0 t ln p ≤ ln := by
  have := sp_le (t := t) (ln := ln) (ln - p) p
  unfold R_n0
  omega
theorem p3_le {t : Nat → Int32} {ln p : Nat} (h : p ≤ ln) : p ≤ R_p3 t ln p ∧ R_p3 t ln p ≤ ln := by
  have h1 := n0_le (t := t) h
  unfold R_p3
  split
  · exact h1
  · rename_i h2
    have := an_lt h2
    omega
theorem tail_le {t : Nat → Int32} {ln p : Nat} (h : p ≤ ln) : p ≤ (R_tail t ln p).2 ∧ (R_tail t ln p).2 ≤ ln := by
  have h1 := p3_le (t := t) h
  have h2 := n0_le (t := t) h1.2
  show p ≤ R_n0 t ln (R_p3 t ln p) ∧ R_n0 t ln (R_p3 t ln p) ≤ ln
  omega
theorem n1_le {t : Nat → Int32} {ln p : Nat} (h : p ≤ ln) : p ≤ (R_n1 t ln p).1 ∧ (R_n1 t ln p).1 ≤ ln := by
  have h1 := n0_le (t := t) h
  have h2 := nl_le (t := t) (ln := ln) (f := nI (R_n0 t ln p)) (ln - R_n0 t ln p) (R_n0 t ln p) 0
  unfold R_n1
  omega
theorem wat_le {t : Nat → Int32} {ln p : Nat} (h : p ≤ ln) : p ≤ R_wat t ln p ∧ R_wat t ln p ≤ ln := by
  have h2 := wl_le (t := t) (ln := ln) (f := nI p) (ln - p) p 0
  unfold R_wat R_w1
  split
  · omega
  · omega
/-- the numbers of a command: whether all are there, where one is then, the numbers -/
def R_rn (t : Nat → Int32) (ln : Nat) : Nat → Nat → Nat → (Nat → Int32) → Int32 × Nat × (Nat → Int32)
  | 0, _, p, n => (1, p, n)
  | m + 1, k, p, n => if R_an t ln p 32 32 = 0 then (0, p, n) else if R_gt (nI (R_n1 t ln p).1) (nI (R_n0 t ln p)) = 0 then (0, (R_n1 t ln p).1, upd n k (R_n1 t ln p).2) else R_rn t ln m (k + 1) (R_n1 t ln p).1 (upd n k (R_n1 t ln p).2)
theorem rn_le {t : Nat → Int32} {ln : Nat} : ∀ m k p n, p ≤ ln → p ≤ (R_rn t ln m k p n).2.1 ∧ (R_rn t ln m k p n).2.1 ≤ ln := by
  intro m
  induction m with
  | zero => exact fun k p n h => ⟨Nat.le_refl _, h⟩
  | succ m ih =>
    intro k p n h
    have h1 := n1_le (t := t) h
    rw [R_rn]
    split
    · exact ⟨Nat.le_refl _, h⟩
    · split
      · exact h1
      · have := ih (k + 1) (R_n1 t ln p).1 (upd n k (R_n1 t ln p).2) h1.2
        omega
def R_fin (t : Nat → Int32) (ln : Nat) (r : Int32 × Nat × (Nat → Int32)) : Int32 × Nat × (Nat → Int32) := if r.1 = 0 then (0, r.2.1, r.2.2) else ((R_tail t ln r.2.1).1, (R_tail t ln r.2.1).2, r.2.2)
def R_cmd (t : Nat → Int32) (ln p : Nat) (n : Nat → Int32) : Int32 × Nat × (Nat → Int32) := if R_wo1 t ln p = 0 then (0, R_wat t ln p, n) else R_fin t ln (R_rn t ln (cl (R_many (R_w1 t ln p).2)) 0 (R_wat t ln p) n)
theorem cmd_le {t : Nat → Int32} {ln p : Nat} {n : Nat → Int32} (h : p ≤ ln) : p ≤ (R_cmd t ln p n).2.1 ∧ (R_cmd t ln p n).2.1 ≤ ln := by
  have h1 := wat_le (t := t) h
  unfold R_cmd
  split
  · exact h1
  · have h2 := rn_le (t := t) (ln := ln) (cl (R_many (R_w1 t ln p).2)) 0 (R_wat t ln p) n h1.2
    unfold R_fin
    split
    · exact ⟨by show p ≤ (R_rn t ln _ _ _ _).2.1; omega, h2.2⟩
    · have h3 := tail_le (t := t) h2.2
      exact ⟨by show p ≤ (R_tail t ln _).2; omega, h3.2⟩
theorem many_ex {w : Int64} (h : ¬ R_many w = -1) : ∃ K, R_many w = nI K ∧ K ≤ 5 := by
  have h1 : R_many w = 1 ∨ R_many w = 2 ∨ R_many w = 5 ∨ R_many w = -1 := by
    unfold R_many R_many2
    repeat' split
    all_goals first | exact Or.inl rfl | exact Or.inr (Or.inl rfl) | exact Or.inr (Or.inr (Or.inl rfl)) | exact Or.inr (Or.inr (Or.inr rfl))
  rcases h1 with h1 | h1 | h1 | h1
  · exact ⟨1, h1, by omega⟩
  · exact ⟨2, h1, by omega⟩
  · exact ⟨5, h1, by omega⟩
  · exact absurd h1 h
theorem wo1_many {t : Nat → Int32} {ln p : Nat} (h : ¬ R_wo1 t ln p = 0) : ¬ R_many (R_w1 t ln p).2 = -1 := by
  intro z
  apply h
  unfold R_wo1 R_wok
  rw [if_pos z]
  repeat' split
  all_goals rfl
theorem one_add (x : Int32) (p : Nat) : nI p + R_one x = nI (if x = 0 then p else p + 1) := by
  unfold R_one
  split
  · rw [Int32.add_zero]
  · exact nI_1 p
theorem lp_ctl {om : OM} {l : Launch} {B : Nat × Nat} {h0 : Hp} {I : Nat → Int32} {J : Nat → Int64} {A a v t n : Nat → Int32} (hl : l.stackTraces = false) (ln : Nat) (hln : ln ≤ 150) (x : Int32) (p : Nat) (h7 : I 7 = nI p) (h6 : I 6 = nI ln) (hp : p ≤ ln) : Runs om l M_X11_readsCommand B 40 [some (.ref 119), some (.int x), none] [] (rH h0 I J A a v t n) (Det (some (.int (R_tail t ln p).1)) (rH h0 (upd I 7 (nI (R_tail t ln p).2)) J A a v t n)) := by
  have hb := n0_le (t := t) hp
  have hb3 := p3_le (t := t) hp
  have h6a : upd I 7 (nI (R_n0 t ln p)) 6 = nI ln := by rw [upd_n (by decide)]; exact h6
  have h6b : upd I 7 (nI (R_p3 t ln p)) 6 = nI ln := by rw [upd_n (by decide)]; exact h6
  have hp3 : R_p3 t ln p = if R_an t ln (R_n0 t ln p) 59 59 = 0 then R_n0 t ln p else R_n0 t ln p + 1 := by rw [R_p3]
  have hn0 : ∀ q, R_sp t ln (ln - q) q = R_n0 t ln q := fun q => by rw [R_n0]
  have c_s1 : Runs om l M_X11_spaces (0, 0) 0 (entL (mi_ml M_X11_spaces) [.ref 119]) [] (rH h0 I J A a v t n) (Det none (rH h0 (upd I 7 (nI (R_n0 t ln p))) J A a v t n)) := by have z := s_X11_spaces (om := om) (l := l) (B := (0, 0)) (h0 := h0) (J := J) (A := A) (a := a) (v := v) (t := t) (n := n) hl p ln h7 h6 hp hln; rw [hn0] at z; exact z
  have c_s2 : Runs om l M_X11_spaces (0, 0) 0 (entL (mi_ml M_X11_spaces) [.ref 119]) [] (rH h0 (upd I 7 (nI (R_p3 t ln p))) J A a v t n) (Det none (rH h0 (upd (upd I 7 (nI (R_p3 t ln p))) 7 (nI (R_n0 t ln (R_p3 t ln p)))) J A a v t n)) := by have z := s_X11_spaces (om := om) (l := l) (B := (0, 0)) (h0 := h0) (J := J) (A := A) (a := a) (v := v) (t := t) (n := n) hl (R_p3 t ln p) ln upd_s h6b hb3.2 hln; rw [hn0] at z; exact z
  refine r_aload_n (pc := 40) dX11_readsCommand_40 rfl rfl ?_
  refine rs_call (vs := []) (pc := 41) dX11_readsCommand_41 rfl l_RX11_250 rfl rfl ⟨by decide, by decide⟩ rfl (Nat.le_of_ble_eq_true rfl) hl (Nat.le_of_ble_eq_true rfl) (c_s1) rfl ?_
  refine r_aload_n (pc := 44) dX11_readsCommand_44 rfl rfl ?_
  refine r_bipush (v := 59) (pc := 45) dX11_readsCommand_45 (by decide) ?_
  refine r_bipush (v := 59) (pc := 47) dX11_readsCommand_47 (by decide) ?_
  refine rs_call (vs := [.int _, .int _]) (pc := 49) dX11_readsCommand_49 rfl l_RX11_217 rfl rfl ⟨by decide, by decide⟩ rfl (Nat.le_of_ble_eq_true rfl) hl (Nat.le_of_ble_eq_true rfl) (s_X11_isAt hl (R_n0 t ln p) ln _ _ upd_s h6a (by omega) hln) rfl ?_
  refine q_istore_n [_, _, _] (pc := 52) dX11_readsCommand_52 rfl (by decide) rfl ?_
  refine r_aload_n (pc := 53) dX11_readsCommand_53 rfl rfl ?_
  refine r_dup (pc := 54) dX11_readsCommand_54 rfl ?_
  refine rs_get (pc := 55) dX11_readsCommand_55 rfl f_RX11_214 rfl ?_
  refine r_join 67 (R_one (R_an t ln (R_n0 t ln p) 59 59)) ?_ (fun J58 => ?_)
  · refine r_iadd (pc := 67) dX11_readsCommand_67 ?_
    refine rs_putI _ (pc := 68) dX11_readsCommand_68 rfl f_RX11_214 (by decide) (mfs_7 _) ?_
    rw [upd_s, one_add, upd_upd]
    rw [← hp3]
    refine r_aload_n (pc := 71) dX11_readsCommand_71 rfl rfl ?_
    refine rs_call (vs := []) (pc := 72) dX11_readsCommand_72 rfl l_RX11_250 rfl rfl ⟨by decide, by decide⟩ rfl (Nat.le_of_ble_eq_true rfl) hl (Nat.le_of_ble_eq_true rfl) (c_s2) rfl ?_
    refine r_iload_n (pc := 75) dX11_readsCommand_75 rfl rfl ?_
    exact r_ireturn (S := []) (pc := 76) dX11_readsCommand_76 rfl (nar_b (an01 _ _ _ _ _)) ⟨rfl, by rw [upd_upd]; rfl⟩
  · refine r_iload_n (pc := 58) dX11_readsCommand_58 rfl rfl ?_
    refine r_if_eq 66 (pc := 59) dX11_readsCommand_59 (by decide) (fun c59 => ?_) (fun c59 => ?_)
    · refine r_iconst (v := 0) (pc := 66) dX11_readsCommand_66 (by decide) ?_
      exact J58 _ (by rw [R_one]; (repeat (first | rw [if_pos (by assumption)] | rw [if_neg (by assumption)])))
    · refine r_iconst (v := 1) (pc := 62) dX11_readsCommand_62 (by decide) ?_
      refine r_goto 67 (pc := 63) dX11_readsCommand_63 (by decide) ?_
      exact J58 _ (by rw [R_one]; (repeat (first | rw [if_pos (by assumption)] | rw [if_neg (by assumption)])))
theorem lp_cmd {om : OM} {l : Launch} {B : Nat × Nat} {h0 : Hp} {I : Nat → Int32} {J : Nat → Int64} {A a v t n : Nat → Int32} (hl : l.stackTraces = false) (ln : Nat) (hln : ln ≤ 150) (x : Int32) (K : Nat) (hx : x = nI K) (hK : K ≤ 5) : ∀ (m k p : Nat) (I n : Nat → Int32), k + m = K → I 7 = nI p → I 6 = nI ln → p ≤ ln → Runs om l M_X11_readsCommand B 19 [some (.ref 119), some (.int x), some (.int (nI k))] [] (rH h0 I J A a v t n) (Det (some (.int (R_fin t ln (R_rn t ln m k p n)).1)) (rH h0 (upd I 7 (nI (R_fin t ln (R_rn t ln m k p n)).2.1)) J A a v t ((R_fin t ln (R_rn t ln m k p n)).2.2))) := by
  intro m
  induction m with
  | zero =>
    intro k p I n hm h7 h6 hp
    rw [R_rn, R_fin, if_neg (show ¬ (1 : Int32) = 0 by decide)]
    dsimp only
    refine r_iload_n (pc := 19) dX11_readsCommand_19 rfl rfl ?_
    refine r_iload_n (pc := 20) dX11_readsCommand_20 rfl rfl ?_
    refine r_icmp_ge 40 (pc := 21) dX11_readsCommand_21 (by decide) (fun c21 => ?_) (fun c21 => absurd (c_get rfl hx (a := k) (b := K) (by omega) (by omega) (by omega)) c21)
    exact r_wk [some _, some _, none] ⟨rfl, rfl, trivial⟩ (lp_ctl hl ln hln x p h7 h6 hp)
  | succ m ih =>
    intro k p I n hm h7 h6 hp
    have hb := n1_le (t := t) hp
    by_cases hs : R_an t ln p 32 32 = 0
    · refine r_iload_n (pc := 19) dX11_readsCommand_19 rfl rfl ?_
      refine r_iload_n (pc := 20) dX11_readsCommand_20 rfl rfl ?_
      refine r_icmp_ge 40 (pc := 21) dX11_readsCommand_21 (by decide) (fun c21 => absurd c21 (c_gef rfl hx (a := k) (b := K) (by omega) (by omega) (by omega))) (fun c21 => ?_)
      refine r_aload_n (pc := 24) dX11_readsCommand_24 rfl rfl ?_
      refine r_iload_n (pc := 25) dX11_readsCommand_25 rfl rfl ?_
      refine rs_call (vs := [.int _]) (pc := 26) dX11_readsCommand_26 rfl l_RX11_256 rfl rfl ⟨by decide, by decide⟩ rfl (Nat.le_of_ble_eq_true rfl) hl (Nat.le_of_ble_eq_true rfl) (s_X11_readsNumber_no hl p ln k _ rfl (by omega) h7 h6 hp hln hs) rfl ?_
      refine r_if_ne 34 (pc := 29) dX11_readsCommand_29 (by decide) (fun c29 => absurd (c_eqt rfl rfl (a := 0) (b := 0) (by omega) (by omega) (by omega)) c29) (fun c29 => ?_)
      refine r_iconst (v := 0) (pc := 32) dX11_readsCommand_32 (by decide) ?_
      exact r_ireturn (S := []) (pc := 33) dX11_readsCommand_33 rfl rfl ⟨by rw [R_rn, if_pos hs]; rfl, by rw [R_rn, if_pos hs]; unfold R_fin; rw [if_pos rfl]; dsimp only; rw [upd_id h7]⟩
    · refine r_iload_n (pc := 19) dX11_readsCommand_19 rfl rfl ?_
      refine r_iload_n (pc := 20) dX11_readsCommand_20 rfl rfl ?_
      refine r_icmp_ge 40 (pc := 21) dX11_readsCommand_21 (by decide) (fun c21 => absurd c21 (c_gef rfl hx (a := k) (b := K) (by omega) (by omega) (by omega))) (fun c21 => ?_)
      refine r_aload_n (pc := 24) dX11_readsCommand_24 rfl rfl ?_
      refine r_iload_n (pc := 25) dX11_readsCommand_25 rfl rfl ?_
      refine rs_call (vs := [.int _]) (pc := 26) dX11_readsCommand_26 rfl l_RX11_256 rfl rfl ⟨by decide, by decide⟩ rfl (Nat.le_of_ble_eq_true rfl) hl (Nat.le_of_ble_eq_true rfl) (s_X11_readsNumber_yes hl p ln k _ rfl (by omega) h7 h6 hp hln hs) rfl ?_
      refine r_if_ne 34 (pc := 29) dX11_readsCommand_29 (by decide) (fun c29 => ?_) (fun c29 => ?_)
      · refine q_iinc (nI (k + 1)) [_, _, _] (pc := 34) dX11_readsCommand_34 rfl (by decide) (ninc 1 rfl) rfl ?_
        refine r_goto 19 (pc := 37) dX11_readsCommand_37 (by decide) ?_
        have z := ih (k + 1) (R_n1 t ln p).1 (upd I 7 (nI (R_n1 t ln p).1)) (upd n k (R_n1 t ln p).2) (by omega) upd_s (by rw [upd_n (by decide)]; exact h6) hb.2
        rw [upd_upd] at z
        rw [R_rn, if_neg hs, if_neg (by assumption)]
        exact z
      · refine r_iconst (v := 0) (pc := 32) dX11_readsCommand_32 (by decide) ?_
        exact r_ireturn (S := []) (pc := 33) dX11_readsCommand_33 rfl rfl ⟨by rw [R_rn, if_neg hs, if_pos (by assumption)]; rfl, by rw [R_rn, if_neg hs, if_pos (by assumption)]; unfold R_fin; rw [if_pos rfl]⟩
theorem s_X11_readsCommand {om : OM} {l : Launch} {B : Nat × Nat} {h0 : Hp} {I : Nat → Int32} {J : Nat → Int64} {A a v t n : Nat → Int32} (hl : l.stackTraces = false) (ln : Nat) (hln : ln ≤ 150) (p : Nat) (h7 : I 7 = nI p) (h6 : I 6 = nI ln) (hp : p ≤ ln) : Runs om l M_X11_readsCommand B 0 (entL 3 [.ref 119]) [] (rH h0 I J A a v t n) (Det (some (.int (R_cmd t ln p n).1)) (rH h0 (upd I 7 (nI (R_cmd t ln p n).2.1)) (updJ J 8 (R_w1 t ln p).2) A a v t ((R_cmd t ln p n).2.2))) := by
  show Runs om l M_X11_readsCommand B 0 [some (.ref 119), none, none] [] _ _
  refine r_aload_n (pc := 0) dX11_readsCommand_0 rfl rfl ?_
  refine rs_call (vs := []) (pc := 1) dX11_readsCommand_1 rfl l_RX11_253 rfl rfl ⟨by decide, by decide⟩ rfl (Nat.le_of_ble_eq_true rfl) hl (Nat.le_of_ble_eq_true rfl) (s_X11_readsWord hl p ln h7 h6 hp hln) rfl ?_
  refine r_if_ne 9 (pc := 4) dX11_readsCommand_4 (by decide) (fun c4 => ?_) (fun c4 => ?_)
  · obtain ⟨K, hK, hK5⟩ := many_ex (wo1_many (t := t) (ln := ln) (p := p) (by assumption))
    have hw := wat_le (t := t) hp
    rw [show R_cmd t ln p n = R_fin t ln (R_rn t ln K 0 (R_wat t ln p) n) by rw [R_cmd, if_neg (by assumption), cl_nI hK (by omega)]]
    refine r_aload_n (pc := 9) dX11_readsCommand_9 rfl rfl ?_
    refine rs_get (pc := 10) dX11_readsCommand_10 rfl f_RX11_238 rfl ?_
    refine q_callS (vs := [.long _]) (pc := 13) dX11_readsCommand_13 rfl l_RX11_246 rfl ⟨by decide, by decide⟩ rfl (Nat.le_of_ble_eq_true rfl) hl (Nat.le_of_ble_eq_true rfl) (s_X11_manyOf _) rfl ?_
    refine q_istore_n [_, _, _] (pc := 16) dX11_readsCommand_16 rfl (by decide) rfl ?_
    refine r_iconst (v := 0) (pc := 17) dX11_readsCommand_17 (by decide) ?_
    refine q_istore_n [_, _, _] (pc := 18) dX11_readsCommand_18 rfl (by decide) rfl ?_
    rw [updJ_s]
    have z := lp_cmd (om := om) (B := B) (h0 := h0) (I := I) (n := n) (J := updJ J 8 (R_w1 t ln p).2) (A := A) (a := a) (v := v) (t := t) hl ln hln (R_many (R_w1 t ln p).2) K hK hK5 K 0 (R_wat t ln p) (upd I 7 (nI (R_wat t ln p))) n (by omega) upd_s (by rw [upd_n (by decide)]; exact h6) hw.2
    rw [upd_upd] at z
    exact z
  · refine r_iconst (v := 0) (pc := 7) dX11_readsCommand_7 (by decide) ?_
    exact r_ireturn (S := []) (pc := 8) dX11_readsCommand_8 rfl rfl ⟨by rw [R_cmd, if_pos (by assumption)], by rw [R_cmd, if_pos (by assumption)]⟩
