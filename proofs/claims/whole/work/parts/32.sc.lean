/-! running the commands -/
theorem wat_gt {t : Nat → Int32} {ln p : Nat} (h : ¬ R_wo1 t ln p = 0) : p < R_wat t ln p := by
  have h2 := wl_le (t := t) (ln := ln) (f := nI p) (ln - p) p 0
  have h4 : p ≤ (R_w1 t ln p).1 := by unfold R_w1; exact h2.1
  have h3 : (R_w1 t ln p).1 ≠ p := fun z => h (by rw [R_wo1, R_wok, z, if_pos (Int32.le_refl _)])
  unfold R_wat
  rw [if_neg h]
  omega
theorem cmd_gt {t : Nat → Int32} {ln p : Nat} {n : Nat → Int32} (hp : p ≤ ln) (h : ¬ (R_cmd t ln p n).1 = 0) : p < (R_cmd t ln p n).2.1 := by
  have hw := wat_le (t := t) hp
  unfold R_cmd at h ⊢
  split at h
  · exact absurd rfl h
  · rename_i hz
    have h1 := wat_gt hz
    have h2 := rn_le (t := t) (ln := ln) (cl (R_many (R_w1 t ln p).2)) 0 (R_wat t ln p) n hw.2
    rw [if_neg hz]
    unfold R_fin
    split
    · show p < (R_rn t ln _ _ _ _).2.1; omega
    · have h3 := tail_le (t := t) h2.2
      show p < (R_tail t ln _).2
      omega
def R_chk (t : Nat → Int32) (ln : Nat) : Nat → Int32 → Nat → (Nat → Int32) → Int64 → Int32 × Nat × (Nat → Int32) × Int64
  | 0, ok, p, n, w => (ok, p, n, w)
  | m + 1, ok, p, n, w => if ok = 0 then (ok, p, n, w) else if ln ≤ p then (ok, p, n, w) else R_chk t ln m (R_cmd t ln p n).1 (R_cmd t ln p n).2.1 (R_cmd t ln p n).2.2 (R_w1 t ln p).2
def R_run (t : Nat → Int32) (ln : Nat) : Nat → Nat → Nat → (Nat → Int32) → (Nat → Int32) → Int64 → Nat × Nat × (Nat → Int32) × (Nat → Int32) × Int64
  | 0, c, p, A, n, w => (c, p, A, n, w)
  | m + 1, c, p, A, n, w => if ln ≤ p then (c, p, A, n, w) else if (R_cmd t ln p n).1 = 0 then (c, (R_cmd t ln p n).2.1, A, (R_cmd t ln p n).2.2, (R_w1 t ln p).2) else if (R_do1 A (R_cmd t ln p n).2.2 (R_w1 t ln p).2).1 = 0 then (c, (R_cmd t ln p n).2.1, (R_do1 A (R_cmd t ln p n).2.2 (R_w1 t ln p).2).2, (R_cmd t ln p n).2.2, (R_w1 t ln p).2) else R_run t ln m (c + 1) (R_cmd t ln p n).2.1 (R_do1 A (R_cmd t ln p n).2.2 (R_w1 t ln p).2).2 (R_cmd t ln p n).2.2 (R_w1 t ln p).2
theorem chk_le {t : Nat → Int32} {ln : Nat} : ∀ m ok p n w, p ≤ ln → (R_chk t ln m ok p n w).2.1 ≤ ln := by
  intro m
  induction m with
  | zero => exact fun _ _ _ _ h => h
  | succ m ih =>
    intro ok p n w h
    rw [R_chk]
    split
    · exact h
    · split
      · exact h
      · exact ih _ _ _ _ (cmd_le h).2

theorem lp_chk {om : OM} {l : Launch} {B : Nat × Nat} {h0 : Hp} {I : Nat → Int32} {J : Nat → Int64} {A a v t n : Nat → Int32} {Post : Out → Hp → Prop} (hl : l.stackTraces = false) (ln : Nat) (hln : ln ≤ 150) : ∀ (m : Nat) (ok : Int32) (p : Nat) (I : Nat → Int32) (J : Nat → Int64) (n : Nat → Int32), (ok = 0 ∨ ln ≤ p + m) → p ≤ ln → I 7 = nI p → I 6 = nI ln → Runs om l M_X11_runCommands B 39 [some (.ref 119), some (.int (R_chk t ln m ok p n (J 8)).1), none] [] (rH h0 (upd I 7 (nI (R_chk t ln m ok p n (J 8)).2.1)) (updJ J 8 (R_chk t ln m ok p n (J 8)).2.2.2) A a v t ((R_chk t ln m ok p n (J 8)).2.2.1)) Post → Runs om l M_X11_runCommands B 16 [some (.ref 119), some (.int ok), none] [] (rH h0 I J A a v t n) Post := by
  intro m
  induction m with
  | zero =>
    intro ok p I J n hm hp h7 h6 KK
    have hle : (I 6 ≤ I 7) ↔ (ln ≤ p) := by rw [h6, h7]; exact nI_leI (by omega) (by omega)
    rw [R_chk] at KK
    dsimp only at KK
    rw [upd_id h7, updJ_id rfl] at KK
    refine r_iload_n (pc := 16) dX11_runCommands_16 rfl rfl ?_
    refine r_if_eq 39 (pc := 17) dX11_runCommands_17 (by decide) (fun c17 => ?_) (fun c17 => ?_)
    · exact KK
    · refine r_aload_n (pc := 20) dX11_runCommands_20 rfl rfl ?_
      refine rs_get (pc := 21) dX11_runCommands_21 rfl f_RX11_214 rfl ?_
      refine r_aload_n (pc := 24) dX11_runCommands_24 rfl rfl ?_
      refine rs_get (pc := 25) dX11_runCommands_25 rfl f_RX11_211 rfl ?_
      refine r_icmp_ge 39 (pc := 28) dX11_runCommands_28 (by decide) (fun c28 => ?_) (fun c28 => ?_)
      · exact KK
      · exact absurd (hle.mpr (by rcases hm with h | h; exact absurd h c17; omega)) c28
  | succ m ih =>
    intro ok p I J n hm hp h7 h6 KK
    have hle : (I 6 ≤ I 7) ↔ (ln ≤ p) := by rw [h6, h7]; exact nI_leI (by omega) (by omega)
    refine r_iload_n (pc := 16) dX11_runCommands_16 rfl rfl ?_
    refine r_if_eq 39 (pc := 17) dX11_runCommands_17 (by decide) (fun c17 => ?_) (fun c17 => ?_)
    · first
        | rw [R_chk, if_pos (by assumption)] at KK
          dsimp only at KK
          rw [upd_id h7, updJ_id rfl] at KK
          exact KK
        | rw [R_chk, if_neg (by assumption), if_pos (hle.mp (by assumption))] at KK
          dsimp only at KK
          rw [upd_id h7, updJ_id rfl] at KK
          exact KK
    · refine r_aload_n (pc := 20) dX11_runCommands_20 rfl rfl ?_
      refine rs_get (pc := 21) dX11_runCommands_21 rfl f_RX11_214 rfl ?_
      refine r_aload_n (pc := 24) dX11_runCommands_24 rfl rfl ?_
      refine rs_get (pc := 25) dX11_runCommands_25 rfl f_RX11_211 rfl ?_
      refine r_icmp_ge 39 (pc := 28) dX11_runCommands_28 (by decide) (fun c28 => ?_) (fun c28 => ?_)
      · first
          | rw [R_chk, if_pos (by assumption)] at KK
            dsimp only at KK
            rw [upd_id h7, updJ_id rfl] at KK
            exact KK
          | rw [R_chk, if_neg (by assumption), if_pos (hle.mp (by assumption))] at KK
            dsimp only at KK
            rw [upd_id h7, updJ_id rfl] at KK
            exact KK
      · refine r_aload_n (pc := 31) dX11_runCommands_31 rfl rfl ?_
        refine rs_call (vs := []) (pc := 32) dX11_runCommands_32 rfl l_RX11_259 rfl rfl ⟨by decide, by decide⟩ rfl (Nat.le_of_ble_eq_true rfl) hl (Nat.le_of_ble_eq_true rfl) (s_X11_readsCommand hl ln hln p h7 h6 hp) rfl ?_
        refine q_istore_n [_, _, _] (pc := 35) dX11_runCommands_35 rfl (by decide) rfl ?_
        refine r_goto 16 (pc := 36) dX11_runCommands_36 (by decide) ?_
        have hnp : ¬ ln ≤ p := fun z => c28 (hle.mpr z)
        rw [R_chk, if_neg (by assumption), if_neg hnp] at KK
        have hm2 : ln ≤ p + (m + 1) := hm.resolve_left (by assumption)
        refine ih _ (R_cmd t ln p n).2.1 _ _ _ (by by_cases hz : (R_cmd t ln p n).1 = 0; exact Or.inl hz; have := cmd_gt hp hz; exact Or.inr (by omega)) (cmd_le hp).2 upd_s (by rw [upd_n (by decide)]; exact h6) ?_
        rw [upd_upd, updJ_upd, updJ_s]
        exact KK
theorem lp_run {om : OM} {l : Launch} {B : Nat × Nat} {h0 : Hp} {I : Nat → Int32} {J : Nat → Int64} {A a v t n : Nat → Int32} {Post : Out → Hp → Prop} (hl : l.stackTraces = false) (ln : Nat) (hln : ln ≤ 150) (x : Int32) : ∀ (m c p : Nat) (I : Nat → Int32) (J : Nat → Int64) (A n : Nat → Int32), ln ≤ p + m → p ≤ ln → WF A → I 7 = nI p → I 6 = nI ln → Runs om l M_X11_runCommands B 97 [some (.ref 119), some (.int x), some (.int (nI (R_run t ln m c p A n (J 8)).1))] [] (rH h0 (upd I 7 (nI (R_run t ln m c p A n (J 8)).2.1)) (updJ J 8 (R_run t ln m c p A n (J 8)).2.2.2.2) ((R_run t ln m c p A n (J 8)).2.2.1) a v t ((R_run t ln m c p A n (J 8)).2.2.2.1)) Post → Runs om l M_X11_runCommands B 66 [some (.ref 119), some (.int x), some (.int (nI c))] [] (rH h0 I J A a v t n) Post := by
  intro m
  induction m with
  | zero =>
    intro c p I J A n hm hp hw h7 h6 KK
    have hle : (I 6 ≤ I 7) ↔ (ln ≤ p) := by rw [h6, h7]; exact nI_leI (by omega) (by omega)
    rw [R_run] at KK
    dsimp only at KK
    rw [upd_id h7, updJ_id rfl] at KK
    refine r_aload_n (pc := 66) dX11_runCommands_66 rfl rfl ?_
    refine rs_get (pc := 67) dX11_runCommands_67 rfl f_RX11_214 rfl ?_
    refine r_aload_n (pc := 70) dX11_runCommands_70 rfl rfl ?_
    refine rs_get (pc := 71) dX11_runCommands_71 rfl f_RX11_211 rfl ?_
    refine r_icmp_ge 97 (pc := 74) dX11_runCommands_74 (by decide) (fun c74 => ?_) (fun c74 => ?_)
    · exact KK
    · exact absurd (hle.mpr (by omega)) c74
  | succ m ih =>
    intro c p I J A n hm hp hw h7 h6 KK
    have hle : (I 6 ≤ I 7) ↔ (ln ≤ p) := by rw [h6, h7]; exact nI_leI (by omega) (by omega)
    refine r_aload_n (pc := 66) dX11_runCommands_66 rfl rfl ?_
    refine rs_get (pc := 67) dX11_runCommands_67 rfl f_RX11_214 rfl ?_
    refine r_aload_n (pc := 70) dX11_runCommands_70 rfl rfl ?_
    refine rs_get (pc := 71) dX11_runCommands_71 rfl f_RX11_211 rfl ?_
    refine r_icmp_ge 97 (pc := 74) dX11_runCommands_74 (by decide) (fun c74 => ?_) (fun c74 => ?_)
    · first
        | rw [R_run, if_pos (hle.mp (by assumption))] at KK
          dsimp only at KK
          rw [upd_id h7, updJ_id rfl] at KK
          exact KK
        | rw [R_run, if_neg (fun z => absurd (hle.mpr z) (by assumption)), if_pos (by assumption)] at KK
          exact KK
        | rw [R_run, if_neg (fun z => absurd (hle.mpr z) (by assumption)), if_neg (by assumption), if_pos (by assumption)] at KK
          exact KK
    · refine r_aload_n (pc := 77) dX11_runCommands_77 rfl rfl ?_
      refine rs_call (vs := []) (pc := 78) dX11_runCommands_78 rfl l_RX11_259 rfl rfl ⟨by decide, by decide⟩ rfl (Nat.le_of_ble_eq_true rfl) hl (Nat.le_of_ble_eq_true rfl) (s_X11_readsCommand hl ln hln p h7 h6 hp) rfl ?_
      refine r_if_eq 97 (pc := 81) dX11_runCommands_81 (by decide) (fun c81 => ?_) (fun c81 => ?_)
      · first
          | rw [R_run, if_pos (hle.mp (by assumption))] at KK
            dsimp only at KK
            rw [upd_id h7, updJ_id rfl] at KK
            exact KK
          | rw [R_run, if_neg (fun z => absurd (hle.mpr z) (by assumption)), if_pos (by assumption)] at KK
            exact KK
          | rw [R_run, if_neg (fun z => absurd (hle.mpr z) (by assumption)), if_neg (by assumption), if_pos (by assumption)] at KK
            exact KK
      · refine r_aload_n (pc := 84) dX11_runCommands_84 rfl rfl ?_
        have z := s_X11_does (om := om) (l := l) (B := (0, 0)) (h0 := h0) (I := upd I 7 (nI (R_cmd t ln p n).2.1)) (J := updJ J 8 (R_w1 t ln p).2) (A := A) (a := a) (v := v) (t := t) (n := (R_cmd t ln p n).2.2) hl hw
        rw [updJ_s] at z
        refine rs_call (vs := []) (pc := 85) dX11_runCommands_85 rfl l_RX11_262 rfl rfl ⟨by decide, by decide⟩ rfl (Nat.le_of_ble_eq_true rfl) hl (Nat.le_of_ble_eq_true rfl) (z) rfl ?_
        refine r_if_eq 97 (pc := 88) dX11_runCommands_88 (by decide) (fun c88 => ?_) (fun c88 => ?_)
        · first
            | rw [R_run, if_pos (hle.mp (by assumption))] at KK
              dsimp only at KK
              rw [upd_id h7, updJ_id rfl] at KK
              exact KK
            | rw [R_run, if_neg (fun z => absurd (hle.mpr z) (by assumption)), if_pos (by assumption)] at KK
              exact KK
            | rw [R_run, if_neg (fun z => absurd (hle.mpr z) (by assumption)), if_neg (by assumption), if_pos (by assumption)] at KK
              exact KK
        · refine q_iinc (nI (c + 1)) [_, _, _] (pc := 91) dX11_runCommands_91 rfl (by decide) (ninc 1 rfl) rfl ?_
          refine r_goto 66 (pc := 94) dX11_runCommands_94 (by decide) ?_
          rw [R_run, if_neg (fun z => c74 (hle.mpr z)), if_neg (by assumption), if_neg (by assumption)] at KK
          have hg := cmd_gt hp c81
          refine ih (c + 1) (R_cmd t ln p n).2.1 _ _ _ _ (by omega) (cmd_le hp).2 (WF_do1 hw) upd_s (by rw [upd_n (by decide)]; exact h6) ?_
          rw [upd_upd, updJ_upd, updJ_s]
          exact KK
/-- how the reading ends, and the carrying out -/
def R_c0 (t : Nat → Int32) (ln : Nat) (n : Nat → Int32) (w : Int64) : Int32 × Nat × (Nat → Int32) × Int64 := R_chk t ln ln 1 (R_n0 t ln 0) n w
def R_r0 (t : Nat → Int32) (ln : Nat) (A n : Nat → Int32) (w : Int64) : Nat × Nat × (Nat → Int32) × (Nat → Int32) × Int64 := R_run t ln ln 0 (R_n0 t ln 0) A n w
theorem s_X11_runCommands_bad {om : OM} {l : Launch} {B : Nat × Nat} {h0 : Hp} {I : Nat → Int32} {J : Nat → Int64} {A a v t n : Nat → Int32} (hl : l.stackTraces = false) (ln : Nat) (hln : ln ≤ 150) (h6 : I 6 = nI ln) (h : (R_c0 t ln n (J 8)).1 = 0) : Runs om l M_X11_runCommands B 0 (entL 3 [.ref 119]) [] (rH h0 I J A a v t n) (Det (some (.int (-10 - nI (R_c0 t ln n (J 8)).2.1))) (rH h0 (upd (upd I 0 0) 7 (nI (R_c0 t ln n (J 8)).2.1)) (updJ J 8 (R_c0 t ln n (J 8)).2.2.2) A a v t ((R_c0 t ln n (J 8)).2.2.1))) := by
  show Runs om l M_X11_runCommands B 0 [some (.ref 119), none, none] [] _ _
  refine r_aload_n (pc := 0) dX11_runCommands_0 rfl rfl ?_
  refine r_iconst (v := 0) (pc := 1) dX11_runCommands_1 (by decide) ?_
  refine rs_putI _ (pc := 2) dX11_runCommands_2 rfl f_RX11_30 (by decide) (mfs_0 _) ?_
  refine r_aload_n (pc := 5) dX11_runCommands_5 rfl rfl ?_
  refine r_iconst (v := 0) (pc := 6) dX11_runCommands_6 (by decide) ?_
  refine rs_putI _ (pc := 7) dX11_runCommands_7 rfl f_RX11_214 (by decide) (mfs_7 _) ?_
  have hb := n0_le (t := t) (Nat.zero_le ln)
  refine r_aload_n (pc := 10) dX11_runCommands_10 rfl rfl ?_
  refine rs_call (vs := []) (pc := 11) dX11_runCommands_11 rfl l_RX11_250 rfl rfl ⟨by decide, by decide⟩ rfl (Nat.le_of_ble_eq_true rfl) hl (Nat.le_of_ble_eq_true rfl) (s_X11_spaces hl 0 ln upd_s (by first | exact h6 | (rw [upd_n (by decide)]; exact h6) | (rw [upd_n (by decide), upd_n (by decide)]; exact h6) | (rw [upd_n (by decide), upd_n (by decide), upd_n (by decide)]; exact h6)) (Nat.zero_le _) hln) rfl ?_
  refine r_iconst (v := 1) (pc := 14) dX11_runCommands_14 (by decide) ?_
  refine q_istore_n [_, _, _] (pc := 15) dX11_runCommands_15 rfl (by decide) rfl ?_
  rw [show R_sp t ln (ln - 0) 0 = R_n0 t ln 0 by rw [R_n0], upd_upd]
  refine lp_chk (I := I) (J := J) (n := n) hl ln hln ln 1 (R_n0 t ln 0) _ _ _ (Or.inr (by omega)) hb.2 upd_s (by first | exact h6 | (rw [upd_n (by decide)]; exact h6) | (rw [upd_n (by decide), upd_n (by decide)]; exact h6) | (rw [upd_n (by decide), upd_n (by decide), upd_n (by decide)]; exact h6)) ?_
  rw [show R_chk t ln ln 1 (R_n0 t ln 0) n (J 8) = (R_c0 t ln n (J 8)) by rw [R_c0], upd_upd]
  refine r_iload_n (pc := 39) dX11_runCommands_39 rfl rfl ?_
  refine r_if_ne 51 (pc := 40) dX11_runCommands_40 (by decide) (fun c40 => absurd (c_eqt h rfl (a := 0) (b := 0) (by omega) (by omega) (by omega)) c40) (fun c40 => ?_)
  refine r_bipush (v := (-10)) (pc := 43) dX11_runCommands_43 (by decide) ?_
  refine r_aload_n (pc := 45) dX11_runCommands_45 rfl rfl ?_
  refine rs_get (pc := 46) dX11_runCommands_46 rfl f_RX11_214 rfl ?_
  refine r_isub (pc := 49) dX11_runCommands_49 ?_
  exact r_ireturn (S := []) (pc := 50) dX11_runCommands_50 rfl rfl ⟨by rw [upd_s], rfl⟩
theorem saveI_n {I : Nat → Int32} {j : Nat} (h : j ≠ 4) : R_saveI I j = I j := by
  unfold R_saveI
  split
  · rw [upd_n h, upd_n h]
  · exact upd_n h
theorem s_X11_runCommands_ok {om : OM} {l : Launch} {B : Nat × Nat} {h0 : Hp} {I : Nat → Int32} {J : Nat → Int64} {A a v t n : Nat → Int32} (hl : l.stackTraces = false) (ln : Nat) (hln : ln ≤ 150) (h6 : I 6 = nI ln) (h : ¬ (R_c0 t ln n (J 8)).1 = 0) (c : Nat) (hc : I 4 = nI c) (hc4 : c ≤ 4) (hw : WF A) : Runs om l M_X11_runCommands B 0 (entL 3 [.ref 119]) [] (rH h0 I J A a v t n) (Det (some (.int (nI (R_r0 t ln A (R_c0 t ln n (J 8)).2.2.1 (R_c0 t ln n (J 8)).2.2.2).1))) (rH h0 (upd (R_saveI (upd (upd I 0 0) 7 (nI (R_c0 t ln n (J 8)).2.1))) 7 (nI (R_r0 t ln A (R_c0 t ln n (J 8)).2.2.1 (R_c0 t ln n (J 8)).2.2.2).2.1)) (updJ J 8 (R_r0 t ln A (R_c0 t ln n (J 8)).2.2.1 (R_c0 t ln n (J 8)).2.2.2).2.2.2.2) ((R_r0 t ln A (R_c0 t ln n (J 8)).2.2.1 (R_c0 t ln n (J 8)).2.2.2).2.2.1) a (R_savev c A v) t ((R_r0 t ln A (R_c0 t ln n (J 8)).2.2.1 (R_c0 t ln n (J 8)).2.2.2).2.2.2.1))) := by
  show Runs om l M_X11_runCommands B 0 [some (.ref 119), none, none] [] _ _
  refine r_aload_n (pc := 0) dX11_runCommands_0 rfl rfl ?_
  refine r_iconst (v := 0) (pc := 1) dX11_runCommands_1 (by decide) ?_
  refine rs_putI _ (pc := 2) dX11_runCommands_2 rfl f_RX11_30 (by decide) (mfs_0 _) ?_
  refine r_aload_n (pc := 5) dX11_runCommands_5 rfl rfl ?_
  refine r_iconst (v := 0) (pc := 6) dX11_runCommands_6 (by decide) ?_
  refine rs_putI _ (pc := 7) dX11_runCommands_7 rfl f_RX11_214 (by decide) (mfs_7 _) ?_
  have hb := n0_le (t := t) (Nat.zero_le ln)
  refine r_aload_n (pc := 10) dX11_runCommands_10 rfl rfl ?_
  refine rs_call (vs := []) (pc := 11) dX11_runCommands_11 rfl l_RX11_250 rfl rfl ⟨by decide, by decide⟩ rfl (Nat.le_of_ble_eq_true rfl) hl (Nat.le_of_ble_eq_true rfl) (s_X11_spaces hl 0 ln upd_s (by first | exact h6 | (rw [upd_n (by decide)]; exact h6) | (rw [upd_n (by decide), upd_n (by decide)]; exact h6)) (Nat.zero_le _) hln) rfl ?_
  refine r_iconst (v := 1) (pc := 14) dX11_runCommands_14 (by decide) ?_
  refine q_istore_n [_, _, _] (pc := 15) dX11_runCommands_15 rfl (by decide) rfl ?_
  rw [show R_sp t ln (ln - 0) 0 = R_n0 t ln 0 by rw [R_n0], upd_upd]
  refine lp_chk (I := I) (J := J) (n := n) hl ln hln ln 1 (R_n0 t ln 0) _ _ _ (Or.inr (by omega)) hb.2 upd_s (by first | exact h6 | (rw [upd_n (by decide)]; exact h6) | (rw [upd_n (by decide), upd_n (by decide)]; exact h6) | (rw [upd_n (by decide), upd_n (by decide), upd_n (by decide)]; exact h6)) ?_
  rw [show R_chk t ln ln 1 (R_n0 t ln 0) n (J 8) = (R_c0 t ln n (J 8)) by rw [R_c0], upd_upd]
  refine r_iload_n (pc := 39) dX11_runCommands_39 rfl rfl ?_
  refine r_if_ne 51 (pc := 40) dX11_runCommands_40 (by decide) (fun c40 => ?_) (fun c40 => absurd c40 h)
  refine r_aload_n (pc := 51) dX11_runCommands_51 rfl rfl ?_
  refine rs_call (vs := []) (pc := 52) dX11_runCommands_52 rfl l_RX11_130 rfl rfl ⟨by decide, by decide⟩ rfl (Nat.le_of_ble_eq_true rfl) hl (Nat.le_of_ble_eq_true rfl) (s_X11_save c (by rw [upd_n (by decide), upd_n (by decide)]; exact hc) hc4) rfl ?_
  refine r_aload_n (pc := 55) dX11_runCommands_55 rfl rfl ?_
  refine r_iconst (v := 0) (pc := 56) dX11_runCommands_56 (by decide) ?_
  refine rs_putI _ (pc := 57) dX11_runCommands_57 rfl f_RX11_214 (by decide) (mfs_7 _) ?_
  refine r_aload_n (pc := 60) dX11_runCommands_60 rfl rfl ?_
  refine rs_call (vs := []) (pc := 61) dX11_runCommands_61 rfl l_RX11_250 rfl rfl ⟨by decide, by decide⟩ rfl (Nat.le_of_ble_eq_true rfl) hl (Nat.le_of_ble_eq_true rfl) (s_X11_spaces hl 0 ln upd_s (by rw [upd_n (by decide), saveI_n (by decide), upd_n (by decide), upd_n (by decide)]; exact h6) (Nat.zero_le _) hln) rfl ?_
  refine r_iconst (v := 0) (pc := 64) dX11_runCommands_64 (by decide) ?_
  refine q_istore_n [_, _, _] (pc := 65) dX11_runCommands_65 rfl (by decide) rfl ?_
  rw [show R_sp t ln (ln - 0) 0 = R_n0 t ln 0 by rw [R_n0], upd_upd]
  refine lp_run (I := I) (J := J) (A := A) (n := n) hl ln hln _ ln 0 (R_n0 t ln 0) _ _ _ _ (by omega) hb.2 hw upd_s (by rw [upd_n (by decide), saveI_n (by decide), upd_n (by decide), upd_n (by decide)]; exact h6) ?_
  rw [updJ_s, upd_upd, updJ_upd]
  rw [show R_run t ln ln 0 (R_n0 t ln 0) A (R_c0 t ln n (J 8)).2.2.1 (R_c0 t ln n (J 8)).2.2.2 = (R_r0 t ln A (R_c0 t ln n (J 8)).2.2.1 (R_c0 t ln n (J 8)).2.2.2) by rw [R_r0]]
  refine r_iload_n (pc := 97) dX11_runCommands_97 rfl rfl ?_
  exact r_ireturn (S := []) (pc := 98) dX11_runCommands_98 rfl rfl ⟨rfl, rfl⟩
