/-! commands one after another: what is read first, what is carried out -/
theorem chk_end {t : Nat → Int32} {L : Nat} {m p : Nat} {ok : Int32} {n : Nat → Int32} {w : Int64} (h : L ≤ p) : R_chk t L m ok p n w = (ok, p, n, w) := by
  cases m with
  | zero => rfl
  | succ m =>
    rw [R_chk]
    by_cases h0 : ok = 0
    · rw [if_pos h0]
    · rw [if_neg h0, if_pos h]
theorem chk_0 {t : Nat → Int32} {L : Nat} {m p : Nat} {n : Nat → Int32} {w : Int64} : R_chk t L m 0 p n w = (0, p, n, w) := by
  cases m with
  | zero => rfl
  | succ m => rw [R_chk, if_pos rfl]
theorem flt_ag {t : Nat → Int32} {L : Nat} (hL : L ≤ 150) : ∀ (m m2 p : Nat) (wd : Value) (nu n : Nat → Int32) (w : Int64), p ≤ L → L ≤ p + m → L ≤ R_n0 t L p + m2 → ((K_flt t L m p wd nu).1 = -1 ∧ (R_chk t L m2 1 (R_n0 t L p) n w).1 = 1) ∨ (∃ q, q ≤ L ∧ (K_flt t L m p wd nu).1 = nI q ∧ (R_chk t L m2 1 (R_n0 t L p) n w).1 = 0 ∧ (R_chk t L m2 1 (R_n0 t L p) n w).2.1 = q) := by
  intro m
  induction m with
  | zero =>
    intro m2 p wd nu n w hp h1 h2
    have b := n0_le (t := t) hp
    rw [K_flt, chk_end (by omega)]
    exact Or.inl ⟨rfl, rfl⟩
  | succ m ih =>
    intro m2 p wd nu n w hp h1 h2
    have b := n0_le (t := t) hp
    rw [K_flt]
    by_cases he : L ≤ R_n0 t L p
    · rw [if_pos he, chk_end he]
      exact Or.inl ⟨rfl, rfl⟩
    · rw [if_neg he]
      obtain ⟨m3, rfl⟩ : ∃ m3, m2 = m3 + 1 := ⟨m2 - 1, by omega⟩
      rw [R_chk, if_neg (show ¬ (1 : Int32) = 0 by decide), if_neg he]
      have kl := kcmd_le (t := t) (nu := nu) b.2
      rcases cmd_ag (t := t) (nu := nu) (n := n) hL b.2 with ⟨k0, r0, e⟩ | ⟨k1, r1, e, p1, p2, -, -, -⟩
      · rw [if_pos k0, r0, chk_0]
        exact Or.inr ⟨_, kl.2, rfl, rfl, e.symm⟩
      · rw [if_neg (by rw [k1]; decide), r1, ← e]
        have b2 := n0_le (t := t) p2
        exact ih m3 _ _ _ _ _ p2 (by omega) (by omega)
theorem run_end {t : Nat → Int32} {L : Nat} {m c p : Nat} {A n : Nat → Int32} {w : Int64} (h : L ≤ p) : R_run t L m c p A n w = (c, p, A, n, w) := by
  cases m with
  | zero => rfl
  | succ m => rw [R_run, if_pos h]
theorem cH_sH {H : Hp} {C : Nat → Int32} {W : Nat → Int64} {ln po : Int32} {wd : Value} {t nu : Nat → Int32} : cH (sH H 1 C W) ln po wd t nu = sH (cH H ln po wd t nu) 1 C W := by
  refine hp_ext (fun j => ?_) rfl
  show (if j = 40 then _ else if j = 41 then _ else if j = 42 then _ else (sH H 1 C W).1 j) = (if 1 ≤ j ∧ j < 1 + 19 then sc 1 C W (j - 1) else (cH H ln po wd t nu).1 j)
  by_cases h : 1 ≤ j ∧ j < 1 + 19
  · rw [if_neg (show ¬ j = 40 by omega), if_neg (show ¬ j = 41 by omega), if_neg (show ¬ j = 42 by omega), if_pos h]
    exact if_pos h
  · rw [if_neg h]
    have e : (sH H 1 C W).1 j = H.1 j := if_neg h
    rw [e]
    rfl
def RunP (R : Hp) (ln : Int32) (t : Nat → Int32) (r : Nat × Nat × (Nat → Int32) × (Nat → Int32) × Int64) : Out → Hp → Prop := fun o h => o = .inl (some (.int (nI r.1))) ∧ ∃ (C : Nat → Int32) (W : Nat → Int64) (po : Int32) (wd : Value) (nu : Nat → Int32), h = sH (cH R ln po wd t nu) 1 C W ∧ AG C W r.2.2.1 ∧ OKA r.2.2.1
section RUN
variable {om : OM} {l : Launch} {B : Nat × Nat} {R : Hp} {C : Nat → Int32} {W : Nat → Int64} {ns cnt ln po : Int32} {wd : Value} {t nu : Nat → Int32}
theorem yH_40 : (sH (cH R ln po wd t nu) 1 C W).1 40 = .inr (0, ctf ln po wd) := (sH_out (Or.inr (by decide))).trans cH_40
theorem yH_0 (hg : R.1 0 = .inr (8, gf ns cnt)) : (sH (cH R ln po wd t nu) 1 C W).1 0 = .inr (8, gf ns cnt) := (sH_out (Or.inl (by decide))).trans ((cH_out (Or.inl (by decide))).trans hg)
theorem y_hasMore (hl : l.stackTraces = false) (Ln : Nat) (hln : ln = nI Ln) (hL : Ln ≤ 150) (p : Nat) (hp : po = nI p) (hpL : p ≤ Ln) : Runs om l M_X1_hasMore B 0 (entL 1 [.ref 40]) [] (sH (cH R ln po wd t nu) 1 C W) (Det (some (.int (if Ln ≤ R_n0 t Ln p then 0 else 1))) (sH (cH R ln (nI (R_n0 t Ln p)) wd t nu) 1 C W)) := by
  rw [← cH_sH, ← cH_sH]
  exact s_X1_hasMore hl Ln hln hL p hp hpL
theorem y_readCommand (hl : l.stackTraces = false) (Ln : Nat) (hln : ln = nI Ln) (hL : Ln ≤ 150) (p : Nat) (hp : po = nI p) (hpL : p ≤ Ln) : Runs om l M_X1_readCommand B 0 (entL 2 [.ref 40]) [] (sH (cH R ln po wd t nu) 1 C W) (Det (some (.int (K_cmd t Ln p nu).1)) (sH (cH R ln (nI (K_cmd t Ln p nu).2.1) (K_wv (K_w t Ln p)) t ((K_cmd t Ln p nu).2.2)) 1 C W)) := by
  rw [← cH_sH, ← cH_sH]
  exact s_X1_readCommand hl Ln hln hL p hp hpL
theorem y_rewind : Runs om l M_X1_rewind B 0 (entL 1 [.ref 40]) [] (sH (cH R ln po wd t nu) 1 C W) (Det none (sH (cH R ln 0 wd t nu) 1 C W)) := by
  have := s_X1_rewind (om := om) (l := l) (B := B) (H := sH R 1 C W) (ln := ln) (po := po) (wd := wd) (t := t) (nu := nu)
  rw [cH_sH, cH_sH] at this
  exact this
theorem y_fault (hl : l.stackTraces = false) (Ln : Nat) (hln : ln = nI Ln) (hL : Ln ≤ 150) : Runs om l M_X1_fault B 0 (entL 2 [.ref 40]) [] (sH (cH R ln po wd t nu) 1 C W) (Det (some (.int (K_flt t Ln 150 0 wd nu).1)) (sH (cH R ln (nI (K_flt t Ln 150 0 wd nu).2.1) ((K_flt t Ln 150 0 wd nu).2.2.1) t ((K_flt t Ln 150 0 wd nu).2.2.2)) 1 C W)) := by
  rw [← cH_sH, ← cH_sH]
  exact s_X1_fault hl Ln hln hL
theorem ex71 {h : Hp} {f : Int32} (c : Nat) : Runs om l M_X10_runCommands B 71 [some (.ref 0), some (.int f), some (.int (nI c))] [] h (Det (some (.int (nI c))) h) := by
  refine r_iload_n (pc := 71) dX10_runCommands_71 rfl rfl ?_
  exact r_ireturn (S := []) (pc := 72) dX10_runCommands_72 rfl rfl ⟨rfl, rfl⟩
theorem lpq_run (hl : l.stackTraces = false) (hg : R.1 0 = .inr (8, gf ns cnt)) (Ln : Nat) (hln : ln = nI Ln) (hL : Ln ≤ 150) (f : Int32) : ∀ (m k p : Nat) (C : Nat → Int32) (W : Nat → Int64) (A nu n : Nat → Int32) (w : Int64) (wd : Value), AG C W A → OKA A → p ≤ Ln → Ln ≤ R_n0 t Ln p + m → k ≤ p → Runs om l M_X10_runCommands B 31 [some (.ref 0), some (.int f), some (.int (nI k))] [] (sH (cH R ln (nI p) wd t nu) 1 C W) (RunP R ln t (R_run t Ln m k (R_n0 t Ln p) A n w)) := by
  intro m
  induction m with
  | zero =>
    intro k p C W A nu n w wd hA o hp hm hk
    have b := n0_le (t := t) hp
    rw [run_end (by omega)]
    refine r_iload_n (pc := 31) dX10_runCommands_31 rfl rfl ?_
    refine r_sipush (v := 150) (pc := 32) dX10_runCommands_32 (by decide) ?_
    refine r_icmp_ge 71 (pc := 35) dX10_runCommands_35 (by decide) (fun c35 => ?_) (fun c35 => ?_)
    · exact r_mono (ex71 k) (fun _ _ q => ⟨q.1, C, W, _, _, _, q.2, hA, o⟩)
    refine r_aload_n (pc := 38) dX10_runCommands_38 rfl rfl ?_
    refine r_getfield (pc := 39) dX10_runCommands_39 rfl f_RX10_33 (yH_0 hg) rfl ?_
    refine q_callV (ci := 0) (T := TX1) (N := 5) (vs := []) (pc := 42) dX10_runCommands_42 rfl l_RX10_320 rfl ⟨by decide, by decide⟩ rfl (Nat.le_of_ble_eq_true rfl) hl yH_40 rfl (Nat.le_of_ble_eq_true rfl) (y_hasMore hl Ln hln hL p rfl hp) rfl ?_
    rw [if_pos (show Ln ≤ R_n0 t Ln p by omega)]
    refine r_if_eq 71 (pc := 45) dX10_runCommands_45 (by decide) (fun c45 => ?_) (fun c45 => absurd rfl c45)
    exact r_mono (ex71 k) (fun _ _ q => ⟨q.1, C, W, _, _, _, q.2, hA, o⟩)
  | succ m ih =>
    intro k p C W A nu n w wd hA o hp hm hk
    have b := n0_le (t := t) hp
    refine r_iload_n (pc := 31) dX10_runCommands_31 rfl rfl ?_
    refine r_sipush (v := 150) (pc := 32) dX10_runCommands_32 (by decide) ?_
    refine r_icmp_ge 71 (pc := 35) dX10_runCommands_35 (by decide) (fun c35 => ?_) (fun c35 => ?_)
    · have k150 : 150 ≤ k := (nI_le_iff (a := 150) (by omega) (by omega)).mp c35
      rw [run_end (by omega)]
      exact r_mono (ex71 k) (fun _ _ q => ⟨q.1, C, W, _, _, _, q.2, hA, o⟩)
    refine r_aload_n (pc := 38) dX10_runCommands_38 rfl rfl ?_
    refine r_getfield (pc := 39) dX10_runCommands_39 rfl f_RX10_33 (yH_0 hg) rfl ?_
    refine q_callV (ci := 0) (T := TX1) (N := 5) (vs := []) (pc := 42) dX10_runCommands_42 rfl l_RX10_320 rfl ⟨by decide, by decide⟩ rfl (Nat.le_of_ble_eq_true rfl) hl yH_40 rfl (Nat.le_of_ble_eq_true rfl) (y_hasMore hl Ln hln hL p rfl hp) rfl ?_
    by_cases hend : Ln ≤ R_n0 t Ln p
    · rw [if_pos hend, run_end hend]
      refine r_if_eq 71 (pc := 45) dX10_runCommands_45 (by decide) (fun c45 => ?_) (fun c45 => absurd rfl c45)
      exact r_mono (ex71 k) (fun _ _ q => ⟨q.1, C, W, _, _, _, q.2, hA, o⟩)
    rw [if_neg hend]
    refine r_if_eq 71 (pc := 45) dX10_runCommands_45 (by decide) (fun c45 => absurd c45 (by decide)) (fun c45 => ?_)
    refine r_aload_n (pc := 48) dX10_runCommands_48 rfl rfl ?_
    refine r_getfield (pc := 49) dX10_runCommands_49 rfl f_RX10_33 (yH_0 hg) rfl ?_
    refine q_callV (ci := 0) (T := TX1) (N := 5) (vs := []) (pc := 52) dX10_runCommands_52 rfl l_RX10_323 rfl ⟨by decide, by decide⟩ rfl (Nat.le_of_ble_eq_true rfl) hl yH_40 rfl (Nat.le_of_ble_eq_true rfl) (y_readCommand hl Ln hln hL (R_n0 t Ln p) rfl b.2) rfl ?_
    rw [R_run, if_neg hend]
    rcases cmd_ag (t := t) (nu := nu) (n := n) hL b.2 with ⟨k0, r0, -⟩ | ⟨k1, r1, e, p1, p2, w9, wv, hnum⟩
    · rw [if_pos r0, k0]
      refine r_if_eq 71 (pc := 55) dX10_runCommands_55 (by decide) (fun c55 => ?_) (fun c55 => absurd rfl c55)
      exact r_mono (ex71 k) (fun _ _ q => ⟨q.1, C, W, _, _, _, q.2, hA, o⟩)
    rw [if_neg (show ¬ (R_cmd t Ln (R_n0 t Ln p) n).1 = 0 by rw [r1]; decide), k1, wv]
    refine r_if_eq 71 (pc := 55) dX10_runCommands_55 (by decide) (fun c55 => absurd c55 (by decide)) (fun c55 => ?_)
    refine r_aload_n (pc := 58) dX10_runCommands_58 rfl rfl ?_
    have hg2 : (cH R ln (nI (K_cmd t Ln (R_n0 t Ln p) nu).2.1) (K_wv (K_w t Ln (R_n0 t Ln p))) t (K_cmd t Ln (R_n0 t Ln p) nu).2.2).1 0 = .inr (8, gf ns cnt) := (cH_out (Or.inl (by decide))).trans hg
    have hc2 : HC (cH R ln (nI (K_cmd t Ln (R_n0 t Ln p) nu).2.1) (K_wv (K_w t Ln (R_n0 t Ln p))) t (K_cmd t Ln (R_n0 t Ln p) nu).2.2) ln (nI (K_cmd t Ln (R_n0 t Ln p) nu).2.1) (.ref (100010 + K_w t Ln (R_n0 t Ln p))) t (K_cmd t Ln (R_n0 t Ln p) nu).2.2 := by
      have e9 : K_wv (K_w t Ln (R_n0 t Ln p)) = .ref (100010 + K_w t Ln (R_n0 t Ln p)) := if_neg (by omega)
      rw [e9]
      exact ⟨rfl, rfl, rfl⟩
    refine r_callV (vs := []) (pc := 59) 0 0 (ci := 8) (T := TX10) (N := 6) dX10_runCommands_59 rfl l_RX10_326 rfl ⟨by decide, by decide⟩ rfl (Nat.le_of_ble_eq_true rfl) hl (yH_0 hg) rfl (Nat.zero_le _) (Nat.zero_le _) (Nat.le_of_ble_eq_true rfl) (s_co hl hg2 hA o (K_w t Ln (R_n0 t Ln p)) w9 hc2 hnum) (fun E h1 z => by cases z.1) (fun o1 h1 z hcl => by
      obtain ⟨-, C1, W1, rfl, -, -⟩ := z
      exact ⟨hcl, rfl⟩) (fun o1 h1 z => ?_)
    obtain ⟨z1, C1, W1, rfl, hA1, o1'⟩ := z
    cases z1
    by_cases hd : (R_do1 A (R_cmd t Ln (R_n0 t Ln p) n).2.2 (Int64.ofNat (hsN (K_w t Ln (R_n0 t Ln p))))).1 = 0
    · rw [if_pos hd]
      refine r_if_eq 71 (pc := 62) dX10_runCommands_62 (by decide) (fun c62 => ?_) (fun c62 => absurd hd c62)
      exact r_mono (ex71 k) (fun _ _ q => ⟨q.1, C1, W1, _, _, _, q.2, hA1, o1'⟩)
    · rw [if_neg hd]
      refine r_if_eq 71 (pc := 62) dX10_runCommands_62 (by decide) (fun c62 => absurd c62 hd) (fun c62 => ?_)
      refine q_iinc (nI (k + 1)) [_, _, _] (pc := 65) dX10_runCommands_65 rfl (by decide) (ninc 1 rfl) rfl ?_
      refine r_goto 31 (pc := 68) dX10_runCommands_68 (by decide) ?_
      have b2 := n0_le (t := t) p2
      have := ih (k + 1) (K_cmd t Ln (R_n0 t Ln p) nu).2.1 C1 W1 _ (K_cmd t Ln (R_n0 t Ln p) nu).2.2 (R_cmd t Ln (R_n0 t Ln p) n).2.2 (Int64.ofNat (hsN (K_w t Ln (R_n0 t Ln p)))) (K_wv (K_w t Ln (R_n0 t Ln p))) hA1 o1' p2 (by omega) (by omega)
      rw [e] at this
      exact this
end RUN
