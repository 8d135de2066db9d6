/-! reading a word and a number -/
theorem updJ_id {f : Nat → Int64} {k : Nat} {x : Int64} (h : f k = x) : updJ f k x = f := by
  funext j
  unfold updJ
  by_cases hj : j = k
  · rw [if_pos hj, hj, h]
  · rw [if_neg hj]
def R_wv (y f b : Int32) (w : Int64) : Int64 := if 8 ≤ y - f then 0 else 27 * w + b.toInt64 - 96
def R_wl (t : Nat → Int32) (ln : Nat) (f : Int32) : Nat → Nat → Int64 → Nat × Int64
  | 0, p, w => (p, w)
  | m + 1, p, w => if R_an t ln p 97 122 = 0 then (p, w) else R_wl t ln f m (p + 1) (R_wv (nI p) f (t p) w)
theorem wl_le {t : Nat → Int32} {ln : Nat} {f : Int32} : ∀ m p w, p ≤ (R_wl t ln f m p w).1 ∧ (R_wl t ln f m p w).1 ≤ p + m := by
  intro m
  induction m with
  | zero => exact fun p w => ⟨Nat.le_refl _, Nat.le_refl _⟩
  | succ m ih =>
    intro p w
    rw [R_wl]
    split
    · exact ⟨Nat.le_refl _, by show p ≤ p + (m + 1); omega⟩
    · have := ih (p + 1) (R_wv (nI p) f (t p) w)
      omega
def R_wok (q f : Int32) (w : Int64) : Int32 := if q ≤ f then 0 else if 8 < q - f then 0 else if R_many w = -1 then 0 else 1
theorem wok01 (q f : Int32) (w : Int64) : R_wok q f w = 0 ∨ R_wok q f w = 1 := by
  unfold R_wok
  repeat' split
  all_goals first | exact Or.inl rfl | exact Or.inr rfl
def R_w1 (t : Nat → Int32) (ln p : Nat) : Nat × Int64 := R_wl t ln (nI p) (ln - p) p 0
def R_wo1 (t : Nat → Int32) (ln p : Nat) : Int32 := R_wok (nI (R_w1 t ln p).1) (nI p) (R_w1 t ln p).2
def R_wat (t : Nat → Int32) (ln p : Nat) : Nat := if R_wo1 t ln p = 0 then p else (R_w1 t ln p).1
def R_nl (t : Nat → Int32) (ln : Nat) (f : Int32) : Nat → Nat → Int32 → Nat × Int32
  | 0, p, x => (p, x)
  | m + 1, p, x => if 5 ≤ nI p - f then (p, x) else if R_an t ln p 48 57 = 0 then (p, x) else R_nl t ln f m (p + 1) (10 * x + t p - 48)
theorem nl_le {t : Nat → Int32} {ln : Nat} {f : Int32} : ∀ m p x, p ≤ (R_nl t ln f m p x).1 ∧ (R_nl t ln f m p x).1 ≤ p + m := by
  intro m
  induction m with
  | zero => exact fun p w => ⟨Nat.le_refl _, Nat.le_refl _⟩
  | succ m ih =>
    intro p x
    rw [R_nl]
    split
    · exact ⟨Nat.le_refl _, by show p ≤ p + (m + 1); omega⟩
    · split
      · exact ⟨Nat.le_refl _, by show p ≤ p + (m + 1); omega⟩
      · have := ih (p + 1) (10 * x + t p - 48)
        omega
theorem lp_word {om : OM} {l : Launch} {B : Nat × Nat} {h0 : Hp} {I : Nat → Int32} {J : Nat → Int64} {A a v t n : Nat → Int32} {Post : Out → Hp → Prop} (hl : l.stackTraces = false) (ln : Nat) (hln : ln ≤ 150) (f : Int32) : ∀ (m p : Nat) (I : Nat → Int32) (J : Nat → Int64), p + m = ln → I 7 = nI p → I 6 = nI ln → Runs om l M_X11_readsWord B 76 [some (.ref 119), some (.int f), none] [] (rH h0 (upd I 7 (nI (R_wl t ln f m p (J 8)).1)) (updJ J 8 (R_wl t ln f m p (J 8)).2) A a v t n) Post → Runs om l M_X11_readsWord B 10 [some (.ref 119), some (.int f), none] [] (rH h0 I J A a v t n) Post := by
  intro m
  induction m with
  | zero =>
    intro p I J hm h7 h6 KK
    rw [R_wl] at KK
    dsimp only at KK
    rw [upd_id h7, updJ_id rfl] at KK
    refine r_aload_n (pc := 10) dX11_readsWord_10 rfl rfl ?_
    refine r_bipush (v := 97) (pc := 11) dX11_readsWord_11 (by decide) ?_
    refine r_bipush (v := 122) (pc := 13) dX11_readsWord_13 (by decide) ?_
    refine rs_call (vs := [.int _, .int _]) (pc := 15) dX11_readsWord_15 rfl l_RX11_217 rfl rfl ⟨by decide, by decide⟩ rfl (Nat.le_of_ble_eq_true rfl) hl (Nat.le_of_ble_eq_true rfl) (s_X11_isAt hl p ln _ _ h7 h6 (by omega) hln) rfl ?_
    refine r_if_eq 76 (pc := 18) dX11_readsWord_18 (by decide) (fun c18 => ?_) (fun c18 => absurd (an_lt c18) (by omega))
    exact KK
  | succ m ih =>
    intro p I J hm h7 h6 KK
    refine r_aload_n (pc := 10) dX11_readsWord_10 rfl rfl ?_
    refine r_bipush (v := 97) (pc := 11) dX11_readsWord_11 (by decide) ?_
    refine r_bipush (v := 122) (pc := 13) dX11_readsWord_13 (by decide) ?_
    refine rs_call (vs := [.int _, .int _]) (pc := 15) dX11_readsWord_15 rfl l_RX11_217 rfl rfl ⟨by decide, by decide⟩ rfl (Nat.le_of_ble_eq_true rfl) hl (Nat.le_of_ble_eq_true rfl) (s_X11_isAt hl p ln _ _ h7 h6 (by omega) hln) rfl ?_
    refine r_if_eq 76 (pc := 18) dX11_readsWord_18 (by decide) (fun c18 => ?_) (fun c18 => ?_)
    · rw [R_wl, if_pos (by assumption)] at KK
      dsimp only at KK
      rw [upd_id h7, updJ_id rfl] at KK
      exact KK
    · have hp : p < ln := an_lt c18
      refine r_aload_n (pc := 21) dX11_readsWord_21 rfl rfl ?_
      refine r_joinL 60 (R_wv (nI p) f (t p) (J 8)) ?_ (fun J22 => ?_)
      · refine rs_putJ _ (pc := 60) dX11_readsWord_60 rfl f_RX11_238 (by decide) (mfs_8 _) ?_
        refine r_aload_n (pc := 63) dX11_readsWord_63 rfl rfl ?_
        refine r_dup (pc := 64) dX11_readsWord_64 rfl ?_
        refine rs_get (pc := 65) dX11_readsWord_65 rfl f_RX11_214 rfl ?_
        refine r_iconst (v := 1) (pc := 68) dX11_readsWord_68 (by decide) ?_
        refine r_iadd (pc := 69) dX11_readsWord_69 ?_
        refine rs_putI _ (pc := 70) dX11_readsWord_70 rfl f_RX11_214 (by decide) (mfs_7 _) ?_
        refine r_goto 10 (pc := 73) dX11_readsWord_73 (by decide) ?_
        rw [R_wl, if_neg (by assumption)] at KK
        refine ih (p + 1) _ _ (by omega) (by rw [upd_s, h7]; exact nI_1 p) (by rw [upd_n (by decide)]; exact h6) ?_
        rw [upd_upd, updJ_upd, updJ_s]
        exact KK
      · refine r_aload_n (pc := 22) dX11_readsWord_22 rfl rfl ?_
        refine rs_get (pc := 23) dX11_readsWord_23 rfl f_RX11_214 rfl ?_
        refine r_iload_n (pc := 26) dX11_readsWord_26 rfl rfl ?_
        refine r_isub (pc := 27) dX11_readsWord_27 ?_
        refine r_bipush (v := 8) (pc := 28) dX11_readsWord_28 (by decide) ?_
        refine r_icmp_ge 59 (pc := 30) dX11_readsWord_30 (by decide) (fun c30 => ?_) (fun c30 => ?_)
        · refine r_lconst (v := 0) (pc := 59) dX11_readsWord_59 rfl ?_
          exact J22 _ (by rw [R_wv, ← h7]; (repeat (first | rw [if_pos (by assumption)] | rw [if_neg (by assumption)])))
        · refine r_ldc2 (pc := 33) dX11_readsWord_33 rfl k_RX11_242 ?_
          refine r_aload_n (pc := 36) dX11_readsWord_36 rfl rfl ?_
          refine rs_get (pc := 37) dX11_readsWord_37 rfl f_RX11_238 rfl ?_
          refine r_lmul (pc := 40) dX11_readsWord_40 ?_
          refine r_aload_n (pc := 41) dX11_readsWord_41 rfl rfl ?_
          refine rs_get (pc := 42) dX11_readsWord_42 rfl f_RX11_19 rfl ?_
          refine r_aload_n (pc := 45) dX11_readsWord_45 rfl rfl ?_
          refine rs_get (pc := 46) dX11_readsWord_46 rfl f_RX11_214 rfl ?_
          refine rs_ldt (p) (pc := 49) dX11_readsWord_49 h7 (by omega) ?_
          refine r_i2l (pc := 50) dX11_readsWord_50 ?_
          refine r_ladd (pc := 51) dX11_readsWord_51 ?_
          refine r_ldc2 (pc := 52) dX11_readsWord_52 rfl k_RX11_244 ?_
          refine r_lsub (pc := 55) dX11_readsWord_55 ?_
          refine r_goto 60 (pc := 56) dX11_readsWord_56 (by decide) ?_
          exact J22 _ (by rw [R_wv, ← h7]; (repeat (first | rw [if_pos (by assumption)] | rw [if_neg (by assumption)])))
theorem s_X11_readsWord {om : OM} {l : Launch} {B : Nat × Nat} {h0 : Hp} {I : Nat → Int32} {J : Nat → Int64} {A a v t n : Nat → Int32} (hl : l.stackTraces = false) (p ln : Nat) (h7 : I 7 = nI p) (h6 : I 6 = nI ln) (hp : p ≤ ln) (hln : ln ≤ 150) : Runs om l M_X11_readsWord B 0 (entL 3 [.ref 119]) [] (rH h0 I J A a v t n) (Det (some (.int (R_wo1 t ln p))) (rH h0 (upd I 7 (nI (R_wat t ln p))) (updJ J 8 (R_w1 t ln p).2) A a v t n)) := by
  show Runs om l M_X11_readsWord B 0 [some (.ref 119), none, none] [] _ _
  refine r_aload_n (pc := 0) dX11_readsWord_0 rfl rfl ?_
  refine rs_get (pc := 1) dX11_readsWord_1 rfl f_RX11_214 rfl ?_
  refine q_istore_n [_, _, _] (pc := 4) dX11_readsWord_4 rfl (by decide) rfl ?_
  refine r_aload_n (pc := 5) dX11_readsWord_5 rfl rfl ?_
  refine r_lconst (v := 0) (pc := 6) dX11_readsWord_6 rfl ?_
  refine rs_putJ _ (pc := 7) dX11_readsWord_7 rfl f_RX11_238 (by decide) (mfs_8 _) ?_
  refine lp_word (I := I) (J := updJ J 8 0) hl ln hln (I 7) (ln - p) p I (updJ J 8 0) (by omega) h7 h6 ?_
  rw [updJ_upd, updJ_s, h7]
  show Runs om l M_X11_readsWord B 76 [some (.ref 119), some (.int (nI p)), none] [] (rH h0 (upd I 7 (nI (R_w1 t ln p).1)) (updJ J 8 (R_w1 t ln p).2) A a v t n) _
  refine r_join 111 (R_wo1 t ln p) ?_ (fun J76 => ?_)
  · refine q_istore_n [_, _, _] (pc := 111) dX11_readsWord_111 rfl (by decide) rfl ?_
    refine r_aload_n (pc := 112) dX11_readsWord_112 rfl rfl ?_
    refine r_join 125 (nI (R_wat t ln p)) ?_ (fun J113 => ?_)
    · refine rs_putI _ (pc := 125) dX11_readsWord_125 rfl f_RX11_214 (by decide) (mfs_7 _) ?_
      refine r_iload_n (pc := 128) dX11_readsWord_128 rfl rfl ?_
      exact r_ireturn (S := []) (pc := 129) dX11_readsWord_129 rfl (nar_b (wok01 _ _ _)) ⟨rfl, by rw [upd_upd]⟩
    · refine r_iload_n (pc := 113) dX11_readsWord_113 rfl rfl ?_
      refine r_if_eq 124 (pc := 114) dX11_readsWord_114 (by decide) (fun c114 => ?_) (fun c114 => ?_)
      · refine r_iload_n (pc := 124) dX11_readsWord_124 rfl rfl ?_
        exact J113 _ (by rw [R_wat]; (repeat (first | rw [if_pos (by assumption)] | rw [if_neg (by assumption)])); try rfl)
      · refine r_aload_n (pc := 117) dX11_readsWord_117 rfl rfl ?_
        refine rs_get (pc := 118) dX11_readsWord_118 rfl f_RX11_214 rfl ?_
        refine r_goto 125 (pc := 121) dX11_readsWord_121 (by decide) ?_
        exact J113 _ (by rw [R_wat]; (repeat (first | rw [if_pos (by assumption)] | rw [if_neg (by assumption)])); try rfl)
  · refine r_aload_n (pc := 76) dX11_readsWord_76 rfl rfl ?_
    refine rs_get (pc := 77) dX11_readsWord_77 rfl f_RX11_214 rfl ?_
    refine r_iload_n (pc := 80) dX11_readsWord_80 rfl rfl ?_
    refine r_icmp_le 110 (pc := 81) dX11_readsWord_81 (by decide) (fun c81 => ?_) (fun c81 => ?_)
    · refine r_iconst (v := 0) (pc := 110) dX11_readsWord_110 (by decide) ?_
      exact J76 _ (by rw [R_wo1, R_wok]; (repeat (first | rw [if_pos (by assumption)] | rw [if_neg (by assumption)])))
    · refine r_aload_n (pc := 84) dX11_readsWord_84 rfl rfl ?_
      refine rs_get (pc := 85) dX11_readsWord_85 rfl f_RX11_214 rfl ?_
      refine r_iload_n (pc := 88) dX11_readsWord_88 rfl rfl ?_
      refine r_isub (pc := 89) dX11_readsWord_89 ?_
      refine r_bipush (v := 8) (pc := 90) dX11_readsWord_90 (by decide) ?_
      refine r_icmp_gt 110 (pc := 92) dX11_readsWord_92 (by decide) (fun c92 => ?_) (fun c92 => ?_)
      · refine r_iconst (v := 0) (pc := 110) dX11_readsWord_110 (by decide) ?_
        exact J76 _ (by rw [R_wo1, R_wok]; (repeat (first | rw [if_pos (by assumption)] | rw [if_neg (by assumption)])))
      · refine r_aload_n (pc := 95) dX11_readsWord_95 rfl rfl ?_
        refine rs_get (pc := 96) dX11_readsWord_96 rfl f_RX11_238 rfl ?_
        refine q_callS (vs := [.long _]) (pc := 99) dX11_readsWord_99 rfl l_RX11_246 rfl ⟨by decide, by decide⟩ rfl (Nat.le_of_ble_eq_true rfl) hl (Nat.le_of_ble_eq_true rfl) (s_X11_manyOf _) rfl ?_
        refine r_iconst (v := (-1)) (pc := 102) dX11_readsWord_102 (by decide) ?_
        refine r_icmp_eq 110 (pc := 103) dX11_readsWord_103 (by decide) (fun c103 => ?_) (fun c103 => ?_)
        · refine r_iconst (v := 0) (pc := 110) dX11_readsWord_110 (by decide) ?_
          exact J76 _ (by rw [R_wo1, R_wok]; (repeat (first | rw [if_pos (by assumption)] | rw [if_neg (by assumption)])))
        · refine r_iconst (v := 1) (pc := 106) dX11_readsWord_106 (by decide) ?_
          refine r_goto 111 (pc := 107) dX11_readsWord_107 (by decide) ?_
          exact J76 _ (by rw [R_wo1, R_wok]; (repeat (first | rw [if_pos (by assumption)] | rw [if_neg (by assumption)])))
theorem lp_num {om : OM} {l : Launch} {B : Nat × Nat} {h0 : Hp} {I : Nat → Int32} {J : Nat → Int64} {A a v t n : Nat → Int32} {Post : Out → Hp → Prop} (hl : l.stackTraces = false) (ln : Nat) (hln : ln ≤ 150) (kk : Nat) (kx f : Int32) (hkx : kx = nI kk) (hkk : kk < 5) : ∀ (m p : Nat) (I n : Nat → Int32), p + m = ln → I 7 = nI p → I 6 = nI ln → Runs om l M_X11_readsNumber B 91 [some (.ref 119), some (.int kx), some (.int f)] [] (rH h0 (upd I 7 (nI (R_nl t ln f m p (n kk)).1)) J A a v t (upd n kk (R_nl t ln f m p (n kk)).2)) Post → Runs om l M_X11_readsNumber B 29 [some (.ref 119), some (.int kx), some (.int f)] [] (rH h0 I J A a v t n) Post := by
  intro m
  induction m with
  | zero =>
    intro p I n hm h7 h6 KK
    rw [R_nl] at KK
    dsimp only at KK
    rw [upd_id h7, upd_id rfl] at KK
    refine r_aload_n (pc := 29) dX11_readsNumber_29 rfl rfl ?_
    refine rs_get (pc := 30) dX11_readsNumber_30 rfl f_RX11_214 rfl ?_
    refine r_iload_n (pc := 33) dX11_readsNumber_33 rfl rfl ?_
    refine r_isub (pc := 34) dX11_readsNumber_34 ?_
    refine r_iconst (v := 5) (pc := 35) dX11_readsNumber_35 (by decide) ?_
    refine r_icmp_ge 91 (pc := 36) dX11_readsNumber_36 (by decide) (fun c36 => ?_) (fun c36 => ?_)
    · exact KK
    · refine r_aload_n (pc := 39) dX11_readsNumber_39 rfl rfl ?_
      refine r_bipush (v := 48) (pc := 40) dX11_readsNumber_40 (by decide) ?_
      refine r_bipush (v := 57) (pc := 42) dX11_readsNumber_42 (by decide) ?_
      refine rs_call (vs := [.int _, .int _]) (pc := 44) dX11_readsNumber_44 rfl l_RX11_217 rfl rfl ⟨by decide, by decide⟩ rfl (Nat.le_of_ble_eq_true rfl) hl (Nat.le_of_ble_eq_true rfl) (s_X11_isAt hl p ln _ _ h7 h6 (by omega) hln) rfl ?_
      refine r_if_eq 91 (pc := 47) dX11_readsNumber_47 (by decide) (fun c47 => ?_) (fun c47 => absurd (an_lt c47) (by omega))
      exact KK
  | succ m ih =>
    intro p I n hm h7 h6 KK
    refine r_aload_n (pc := 29) dX11_readsNumber_29 rfl rfl ?_
    refine rs_get (pc := 30) dX11_readsNumber_30 rfl f_RX11_214 rfl ?_
    refine r_iload_n (pc := 33) dX11_readsNumber_33 rfl rfl ?_
    refine r_isub (pc := 34) dX11_readsNumber_34 ?_
    refine r_iconst (v := 5) (pc := 35) dX11_readsNumber_35 (by decide) ?_
    refine r_icmp_ge 91 (pc := 36) dX11_readsNumber_36 (by decide) (fun c36 => ?_) (fun c36 => ?_)
    · first
        | rw [R_nl, if_pos (by rw [← h7]; assumption)] at KK
          dsimp only at KK
          rw [upd_id h7, upd_id rfl] at KK
          exact KK
        | rw [R_nl, if_neg (by rw [← h7]; assumption), if_pos (by assumption)] at KK
          dsimp only at KK
          rw [upd_id h7, upd_id rfl] at KK
          exact KK
    · refine r_aload_n (pc := 39) dX11_readsNumber_39 rfl rfl ?_
      refine r_bipush (v := 48) (pc := 40) dX11_readsNumber_40 (by decide) ?_
      refine r_bipush (v := 57) (pc := 42) dX11_readsNumber_42 (by decide) ?_
      refine rs_call (vs := [.int _, .int _]) (pc := 44) dX11_readsNumber_44 rfl l_RX11_217 rfl rfl ⟨by decide, by decide⟩ rfl (Nat.le_of_ble_eq_true rfl) hl (Nat.le_of_ble_eq_true rfl) (s_X11_isAt hl p ln _ _ h7 h6 (by omega) hln) rfl ?_
      refine r_if_eq 91 (pc := 47) dX11_readsNumber_47 (by decide) (fun c47 => ?_) (fun c47 => ?_)
      · first
          | rw [R_nl, if_pos (by rw [← h7]; assumption)] at KK
            dsimp only at KK
            rw [upd_id h7, upd_id rfl] at KK
            exact KK
          | rw [R_nl, if_neg (by rw [← h7]; assumption), if_pos (by assumption)] at KK
            dsimp only at KK
            rw [upd_id h7, upd_id rfl] at KK
            exact KK
      · have hp : p < ln := an_lt c47
        refine r_aload_n (pc := 50) dX11_readsNumber_50 rfl rfl ?_
        refine rs_get (pc := 51) dX11_readsNumber_51 rfl f_RX11_23 rfl ?_
        refine r_iload_n (pc := 54) dX11_readsNumber_54 rfl rfl ?_
        refine r_bipush (v := 10) (pc := 55) dX11_readsNumber_55 (by decide) ?_
        refine r_aload_n (pc := 57) dX11_readsNumber_57 rfl rfl ?_
        refine rs_get (pc := 58) dX11_readsNumber_58 rfl f_RX11_23 rfl ?_
        refine r_iload_n (pc := 61) dX11_readsNumber_61 rfl rfl ?_
        refine rs_ldn (kk) (pc := 62) dX11_readsNumber_62 hkx (by omega) ?_
        refine r_imul (pc := 63) dX11_readsNumber_63 ?_
        refine r_aload_n (pc := 64) dX11_readsNumber_64 rfl rfl ?_
        refine rs_get (pc := 65) dX11_readsNumber_65 rfl f_RX11_19 rfl ?_
        refine r_aload_n (pc := 68) dX11_readsNumber_68 rfl rfl ?_
        refine rs_get (pc := 69) dX11_readsNumber_69 rfl f_RX11_214 rfl ?_
        refine rs_ldt (p) (pc := 72) dX11_readsNumber_72 h7 (by omega) ?_
        refine r_iadd (pc := 73) dX11_readsNumber_73 ?_
        refine r_bipush (v := 48) (pc := 74) dX11_readsNumber_74 (by decide) ?_
        refine r_isub (pc := 76) dX11_readsNumber_76 ?_
        refine rs_stn (kk) (pc := 77) dX11_readsNumber_77 hkx (by omega) ?_
        refine r_aload_n (pc := 78) dX11_readsNumber_78 rfl rfl ?_
        refine r_dup (pc := 79) dX11_readsNumber_79 rfl ?_
        refine rs_get (pc := 80) dX11_readsNumber_80 rfl f_RX11_214 rfl ?_
        refine r_iconst (v := 1) (pc := 83) dX11_readsNumber_83 (by decide) ?_
        refine r_iadd (pc := 84) dX11_readsNumber_84 ?_
        refine rs_putI _ (pc := 85) dX11_readsNumber_85 rfl f_RX11_214 (by decide) (mfs_7 _) ?_
        refine r_goto 29 (pc := 88) dX11_readsNumber_88 (by decide) ?_
        rw [R_nl, if_neg (by rw [← h7]; assumption), if_neg (by assumption)] at KK
        refine ih (p + 1) _ _ (by omega) (by rw [upd_s, h7]; exact nI_1 p) (by rw [upd_n (by decide)]; exact h6) ?_
        rw [upd_upd, upd_upd, upd_s]
        exact KK
/-- from where a number is read, and what comes of it -/
def R_n0 (t : Nat → Int32) (ln p : Nat) : Nat := R_sp t ln (ln - p) p
def R_n1 (t : Nat → Int32) (ln p : Nat) : Nat × Int32 := R_nl t ln (nI (R_n0 t ln p)) (ln - R_n0 t ln p) (R_n0 t ln p) 0
def R_gt (q f : Int32) : Int32 := if q ≤ f then 0 else 1
theorem gt01 (q f : Int32) : R_gt q f = 0 ∨ R_gt q f = 1 := by
  unfold R_gt
  split
  · exact Or.inl rfl
  · exact Or.inr rfl
theorem s_X11_readsNumber_no {om : OM} {l : Launch} {B : Nat × Nat} {h0 : Hp} {I : Nat → Int32} {J : Nat → Int64} {A a v t n : Nat → Int32} (hl : l.stackTraces = false) (p ln kk : Nat) (kx : Int32) (hkx : kx = nI kk) (hkk : kk < 5) (h7 : I 7 = nI p) (h6 : I 6 = nI ln) (hp : p ≤ ln) (hln : ln ≤ 150) (h : R_an t ln p 32 32 = 0) : Runs om l M_X11_readsNumber B 0 (entL 3 [.ref 119, .int kx]) [] (rH h0 I J A a v t n) (Det (some (.int 0)) (rH h0 I J A a v t n)) := by
  show Runs om l M_X11_readsNumber B 0 [some (.ref 119), some (.int kx), none] [] _ _
  refine r_aload_n (pc := 0) dX11_readsNumber_0 rfl rfl ?_
  refine r_bipush (v := 32) (pc := 1) dX11_readsNumber_1 (by decide) ?_
  refine r_bipush (v := 32) (pc := 3) dX11_readsNumber_3 (by decide) ?_
  refine rs_call (vs := [.int _, .int _]) (pc := 5) dX11_readsNumber_5 rfl l_RX11_217 rfl rfl ⟨by decide, by decide⟩ rfl (Nat.le_of_ble_eq_true rfl) hl (Nat.le_of_ble_eq_true rfl) (s_X11_isAt hl p ln _ _ h7 h6 (by omega) hln) rfl ?_
  refine r_if_ne 13 (pc := 8) dX11_readsNumber_8 (by decide) (fun c8 => absurd h c8) (fun c8 => ?_)
  refine r_iconst (v := 0) (pc := 11) dX11_readsNumber_11 (by decide) ?_
  exact r_ireturn (S := []) (pc := 12) dX11_readsNumber_12 rfl rfl ⟨rfl, rfl⟩
theorem s_X11_readsNumber_yes {om : OM} {l : Launch} {B : Nat × Nat} {h0 : Hp} {I : Nat → Int32} {J : Nat → Int64} {A a v t n : Nat → Int32} (hl : l.stackTraces = false) (p ln kk : Nat) (kx : Int32) (hkx : kx = nI kk) (hkk : kk < 5) (h7 : I 7 = nI p) (h6 : I 6 = nI ln) (hp : p ≤ ln) (hln : ln ≤ 150) (h : ¬ R_an t ln p 32 32 = 0) : Runs om l M_X11_readsNumber B 0 (entL 3 [.ref 119, .int kx]) [] (rH h0 I J A a v t n) (Det (some (.int (R_gt (nI (R_n1 t ln p).1) (nI (R_n0 t ln p))))) (rH h0 (upd I 7 (nI (R_n1 t ln p).1)) J A a v t (upd n kk (R_n1 t ln p).2))) := by
  show Runs om l M_X11_readsNumber B 0 [some (.ref 119), some (.int kx), none] [] _ _
  refine r_aload_n (pc := 0) dX11_readsNumber_0 rfl rfl ?_
  refine r_bipush (v := 32) (pc := 1) dX11_readsNumber_1 (by decide) ?_
  refine r_bipush (v := 32) (pc := 3) dX11_readsNumber_3 (by decide) ?_
  refine rs_call (vs := [.int _, .int _]) (pc := 5) dX11_readsNumber_5 rfl l_RX11_217 rfl rfl ⟨by decide, by decide⟩ rfl (Nat.le_of_ble_eq_true rfl) hl (Nat.le_of_ble_eq_true rfl) (s_X11_isAt hl p ln _ _ h7 h6 (by omega) hln) rfl ?_
  refine r_if_ne 13 (pc := 8) dX11_readsNumber_8 (by decide) (fun c8 => ?_) (fun c8 => absurd c8 h)
  refine r_aload_n (pc := 13) dX11_readsNumber_13 rfl rfl ?_
  refine rs_call (vs := []) (pc := 14) dX11_readsNumber_14 rfl l_RX11_250 rfl rfl ⟨by decide, by decide⟩ rfl (Nat.le_of_ble_eq_true rfl) hl (Nat.le_of_ble_eq_true rfl) (s_X11_spaces hl p ln h7 h6 hp hln) rfl ?_
  refine r_aload_n (pc := 17) dX11_readsNumber_17 rfl rfl ?_
  refine rs_get (pc := 18) dX11_readsNumber_18 rfl f_RX11_214 rfl ?_
  refine q_istore_n [_, _, _] (pc := 21) dX11_readsNumber_21 rfl (by decide) rfl ?_
  refine r_aload_n (pc := 22) dX11_readsNumber_22 rfl rfl ?_
  refine rs_get (pc := 23) dX11_readsNumber_23 rfl f_RX11_23 rfl ?_
  refine r_iload_n (pc := 26) dX11_readsNumber_26 rfl rfl ?_
  refine r_iconst (v := 0) (pc := 27) dX11_readsNumber_27 (by decide) ?_
  refine rs_stn (kk) (pc := 28) dX11_readsNumber_28 hkx (by omega) ?_
  show Runs om l M_X11_readsNumber B 29 [some (.ref 119), some (.int kx), some (.int (nI (R_n0 t ln p)))] [] (rH h0 (upd I 7 (nI (R_n0 t ln p))) J A a v t (upd n kk 0)) _
  refine lp_num (I := I) (n := n) hl ln hln kk kx _ hkx hkk (ln - R_n0 t ln p) (R_n0 t ln p) _ _ (by have := sp_le (t := t) (ln := ln) (ln - p) p; unfold R_n0; omega) upd_s (by rw [upd_n (by decide)]; exact h6) ?_
  rw [upd_upd, upd_upd, upd_s]
  show Runs om l M_X11_readsNumber B 91 [some (.ref 119), some (.int kx), some (.int (nI (R_n0 t ln p)))] [] (rH h0 (upd I 7 (nI (R_n1 t ln p).1)) J A a v t (upd n kk (R_n1 t ln p).2)) _
  refine r_join 104 (R_gt (nI (R_n1 t ln p).1) (nI (R_n0 t ln p))) ?_ (fun J91 => ?_)
  · exact r_ireturn (S := []) (pc := 104) dX11_readsNumber_104 rfl (nar_b (gt01 _ _)) ⟨rfl, rfl⟩
  · refine r_aload_n (pc := 91) dX11_readsNumber_91 rfl rfl ?_
    refine rs_get (pc := 92) dX11_readsNumber_92 rfl f_RX11_214 rfl ?_
    refine r_iload_n (pc := 95) dX11_readsNumber_95 rfl rfl ?_
    refine r_icmp_le 103 (pc := 96) dX11_readsNumber_96 (by decide) (fun c96 => ?_) (fun c96 => ?_)
    · refine r_iconst (v := 0) (pc := 103) dX11_readsNumber_103 (by decide) ?_
      exact J91 _ (by rw [R_gt]; (repeat (first | rw [if_pos (by assumption)] | rw [if_neg (by assumption)])))
    · refine r_iconst (v := 1) (pc := 99) dX11_readsNumber_99 (by decide) ?_
      refine r_goto 104 (pc := 100) dX11_readsNumber_100 (by decide) ?_
      exact J91 _ (by rw [R_gt]; (repeat (first | rw [if_pos (by assumption)] | rw [if_neg (by assumption)])))
