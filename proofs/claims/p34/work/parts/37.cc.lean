/-! the class: chance, picks, rows of candidates -/
def K_bet (C : Nat → Int32) (mode told : Int32) (p q : Nat) : Int32 := if mode = 1 then (if C (42 + 4 * p + 2) ≤ C (42 + 4 * q + 2) then 0 else 1) else if mode = 2 then (if told = -1 then 0 else if (if 0 ≤ C (42 + 4 * q + 1) - told then C (42 + 4 * q + 1) - told else 0 - (C (42 + 4 * q + 1) - told)) ≤ (if 0 ≤ C (42 + 4 * p + 1) - told then C (42 + 4 * p + 1) - told else 0 - (C (42 + 4 * p + 1) - told)) then 0 else 1) else 0
def K_pkb (C : Nat → Int32) (mode told : Int32) (k : Nat) (x : Int32) : Int32 := if K_mk (C (42 + 4 * k + 3)) 1 = 0 then x else if K_mk (C (42 + 4 * k + 3)) 2 = 0 then (if x = -1 then nI k else if K_bet C mode told k (cl x) = 0 then x else nI k) else x
def K_best (C : Nat → Int32) (mode told : Int32) (K : Nat) : Int32 := itN (K_pkb C mode told) K (-1)
def KPI (k : Nat) (x : Int32) : Prop := x = -1 ∨ ∃ e, e < k ∧ x = nI e
theorem KPI_best {C : Nat → Int32} {mode told : Int32} (k : Nat) : KPI k (K_best C mode told k) := by
  induction k with
  | zero => exact Or.inl rfl
  | succ k ih =>
    have h1 : KPI (k + 1) (K_best C mode told k) := ih.elim Or.inl fun ⟨e, h2, h3⟩ => Or.inr ⟨e, by omega, h3⟩
    have h2 : KPI (k + 1) (nI k) := Or.inr ⟨k, by omega, rfl⟩
    unfold K_best at h1 ⊢
    rw [itN_s, K_pkb]
    split
    · exact h1
    · split
      · split
        · exact h2
        · split
          · exact h1
          · exact h2
      · exact h1
def K_abs (x : Int32) : Int32 := if 0 ≤ x then x else 0 - x
def K_nearl (C : Nat → Int32) (q : Nat) (d : Int32) : Nat → Nat → Int32
  | 0, _ => 0
  | m + 1, k => if 15 < K_abs (C (q + k) - d) then K_nearl C q d m (k + 1) else 1
def K_tkb (k : Nat) (X : Nat → Int32) : Nat → Int32 := if K_mk (X (42 + 4 * k + 3)) 1 = 0 then X else upd (upd X (103 + cl (X 102)) (X (42 + 4 * k + 1))) 102 (upd X (103 + cl (X 102)) (X (42 + 4 * k + 1)) 102 + 1)
def K_take (C : Nat → Int32) : Nat → Int32 := itN K_tkb (cl (C 41)) (upd C 102 0)
def KTI (k0 : Nat) (A X : Nat → Int32) : Prop := (∃ c, X 102 = nI c ∧ c ≤ k0) ∧ ∀ j, (j < 102 ∨ 118 ≤ j) → X j = A j
theorem KTI_r {C : Nat → Int32} (k : Nat) : k ≤ 15 → KTI k C (itN K_tkb k (upd C 102 0)) := by
  induction k with
  | zero => exact fun _ => ⟨⟨0, upd_s, Nat.le_refl _⟩, fun j hj => upd_n (by omega)⟩
  | succ k ih =>
    intro hk
    obtain ⟨⟨c, hc, hck⟩, h2⟩ := ih (by omega)
    rw [itN_s, K_tkb]
    split
    · exact ⟨⟨c, hc, by omega⟩, h2⟩
    · rw [cl_nI hc (by omega)]
      refine ⟨⟨c + 1, ?_, by omega⟩, fun j hj => ?_⟩
      · rw [upd_s, upd_n (by omega), hc]
        exact (nI_succ c).symm
      · rw [upd_n (by omega), upd_n (by omega)]
        exact h2 j hj
def K_old (C : Nat → Int32) : Nat → Int32 := fun j => if 118 ≤ j ∧ j < 134 then C (j - 16) else C j
theorem lp_X3_chance {om : OM} {l : Launch} {B : Nat × Nat} {h0 : Hp} {b : Nat} {C : Nat → Int32} {W : Nat → Int64} {Post : Out → Hp → Prop} (hl : l.stackTraces = false) (x jt : Int32) (jn : Nat) (hj : jt = nI jn) (hj20 : jn ≤ 20) (K : Nat) (hK15 : K ≤ 15) : ∀ (n9 k : Nat) (g : Nat → Int32), k + n9 = K → g = itN (K_chb x jt) k (upd C 41 0) → Runs om l M_X3_meetChance B 113 [some (.ref (b + 8)), some (.ref (b + 1)), some (.int x), some (.int jt), some (.int (nI K)), some (.int (nI K)), none, none] [] (sH h0 b ((itN (K_chb x jt) K (upd C 41 0))) W) Post → Runs om l M_X3_meetChance B 19 [some (.ref (b + 8)), some (.ref (b + 1)), some (.int x), some (.int jt), some (.int (nI K)), some (.int (nI k)), none, none] [] (sH h0 b g W) Post := by
  intro n9
  induction n9 with
  | zero =>
    intro k g hk e_g KK
    obtain ⟨c, hc, hck⟩ := K_ch_41 (x := x) (jt := jt) (C := C) k (by omega)
    rw [← e_g] at hc
    have e9 : k = K := by omega
    refine r_iload (pc := 19) dX3_meetChance_19 rfl ?_
    refine r_iload (pc := 21) dX3_meetChance_21 rfl ?_
    refine r_icmp_ge 113 (pc := 23) dX3_meetChance_23 (by decide) (fun c23 => ?_) (fun c23 => absurd (c_get rfl rfl (a := k) (b := K) (by omega) (by omega) (by omega)) c23)
    subst e9
    subst e_g
    exact KK
  | succ n9 ih =>
    intro k g hk e_g KK
    obtain ⟨c, hc, hck⟩ := K_ch_41 (x := x) (jt := jt) (C := C) k (by omega)
    rw [← e_g] at hc
    refine r_iload (pc := 19) dX3_meetChance_19 rfl ?_
    refine r_iload (pc := 21) dX3_meetChance_21 rfl ?_
    refine r_icmp_ge 113 (pc := 23) dX3_meetChance_23 (by decide) (fun c23 => absurd c23 (c_gef rfl rfl (a := k) (b := K) (by omega) (by omega) (by omega))) (fun c23 => ?_)
    refine r_aload_n (pc := 26) dX3_meetChance_26 rfl rfl ?_
    refine r_bipush (v := 100) (pc := 27) dX3_meetChance_27 (by decide) ?_
    refine q_callV (ci := 7) (T := TX8) (N := 14) (vs := [.int _]) (pc := 29) dX3_meetChance_29 rfl l_RX3_46 rfl ⟨by decide, by decide⟩ rfl (Nat.le_of_ble_eq_true rfl) hl (sH_at (i := 1) (by decide)) rfl (Nat.le_of_ble_eq_true rfl) (s_X8_draw 100 100 rfl (by omega) (by omega)) sH_22 ?_
    refine r_iload_n (pc := 32) dX3_meetChance_32 rfl rfl ?_
    refine r_icmp_ge 40 (pc := 33) dX3_meetChance_33 (by decide) (fun c33 => ?_) (fun c33 => ?_)
    · refine r_iconst (v := 0) (pc := 40) dX3_meetChance_40 (by decide) ?_
      refine q_istore [_, _, _, _, _, _, _, _] (pc := 41) dX3_meetChance_41 (by decide) rfl ?_
      refine r_iload (pc := 43) dX3_meetChance_43 rfl ?_
      refine r_if_ne 107 (pc := 45) dX3_meetChance_45 (by decide) (fun c45 => absurd (c_eqt rfl rfl (a := 0) (b := 0) (by omega) (by omega) (by omega)) c45) (fun c45 => ?_)
      refine r_iload_n (pc := 48) dX3_meetChance_48 rfl rfl ?_
      refine r_if_le 74 (pc := 49) dX3_meetChance_49 (by decide) (fun c49 => ?_) (fun c49 => ?_)
      · refine r_aload_n (pc := 74) dX3_meetChance_74 rfl rfl ?_
        refine cs_get (i := 8) (pc := 75) dX3_meetChance_75 rfl f_RX3_19 (by decide) rfl rfl ?_
        refine r_iload (pc := 78) dX3_meetChance_78 rfl ?_
        refine cs_ld (i := 10) (n := 15) (k := k) (pc := 80) dX3_meetChance_80 (by decide) rfl rfl (by omega) (by decide) ?_
        refine q_istore [_, _, _, _, _, _, _, _] (pc := 81) dX3_meetChance_81 (by decide) rfl ?_
        refine r_aload_n (pc := 83) dX3_meetChance_83 rfl rfl ?_
        refine r_aload_n (pc := 84) dX3_meetChance_84 rfl rfl ?_
        refine cs_get (i := 8) (pc := 85) dX3_meetChance_85 rfl f_RX3_15 (by decide) rfl rfl ?_
        refine r_iload (pc := 88) dX3_meetChance_88 rfl ?_
        refine cs_ld (i := 9) (n := 15) (k := k) (pc := 90) dX3_meetChance_90 (by decide) rfl rfl (by omega) (by decide) ?_
        refine r_iconst (v := 0) (pc := 91) dX3_meetChance_91 (by decide) ?_
        refine r_iload (pc := 92) dX3_meetChance_92 rfl ?_
        refine r_max (pc := 94) dX3_meetChance_94 rfl l_RX3_52 (by decide) (Nat.le_of_ble_eq_true rfl) ?_
        rw [max_gr]
        refine r_aload_n (pc := 97) dX3_meetChance_97 rfl rfl ?_
        refine cs_get (i := 8) (pc := 98) dX3_meetChance_98 rfl f_RX3_22 (by decide) rfl rfl ?_
        refine r_iload (pc := 101) dX3_meetChance_101 rfl ?_
        refine cs_ld (i := 11) (n := 15) (k := k) (pc := 103) dX3_meetChance_103 (by decide) rfl rfl (by omega) (by decide) ?_
        refine q_callV (ci := 2) (T := TX3) (N := 5) (vs := [.int _, .int _, .int _]) (pc := 104) dX3_meetChance_104 rfl l_RX3_55 rfl ⟨by decide, by decide⟩ rfl (Nat.le_of_ble_eq_true rfl) hl (sH_at (i := 8) (by decide)) rfl (Nat.le_of_ble_eq_true rfl) (s_X3_insert hl c ((d1_n (by omega)).trans hc) (by omega) _ _ _) sH_22 ?_
        refine q_iinc (nI (k + 1)) [_, _, _, _, _, _, _, _] (pc := 107) dX3_meetChance_107 rfl (by decide) (ninc 1 rfl) rfl ?_
        refine r_goto 19 (pc := 110) dX3_meetChance_110 (by decide) ?_
        refine r_wk [some _, some _, some _, some _, some _, some _, none, none] ⟨rfl, ⟨rfl, ⟨rfl, ⟨rfl, ⟨rfl, ⟨rfl, trivial⟩⟩⟩⟩⟩⟩ ?_
        exact ih (k + 1) _ (by omega) (by rw [itN_s, ← e_g, K_chb]; first | (rw [if_neg (by rw [K_lost, if_neg c33]; decide)]; done) | (rw [if_pos (by rw [K_lost, if_pos c33]), cl_nI hc (by omega), K_mv, if_pos c49]; done) | (rw [if_pos (by rw [K_lost, if_pos c33]), cl_nI hc (by omega), K_mv, if_neg c49]; done) | (rw [if_pos (by rw [K_lost, if_pos c33]), cl_nI hc (by omega), K_mv, if_pos c49]; rfl) | (rw [if_pos (by rw [K_lost, if_pos c33]), cl_nI hc (by omega), K_mv, if_neg c49]; rfl)) KK
      · refine r_aload_n (pc := 52) dX3_meetChance_52 rfl rfl ?_
        refine cs_get (i := 8) (pc := 53) dX3_meetChance_53 rfl f_RX3_19 (by decide) rfl rfl ?_
        refine r_iload (pc := 56) dX3_meetChance_56 rfl ?_
        refine cs_ld (i := 10) (n := 15) (k := k) (pc := 58) dX3_meetChance_58 (by decide) rfl rfl (by omega) (by decide) ?_
        refine r_aload_n (pc := 59) dX3_meetChance_59 rfl rfl ?_
        refine r_iconst (v := 2) (pc := 60) dX3_meetChance_60 (by decide) ?_
        refine r_iload_n (pc := 61) dX3_meetChance_61 rfl rfl ?_
        refine r_imul (pc := 62) dX3_meetChance_62 ?_
        refine r_iconst (v := 1) (pc := 63) dX3_meetChance_63 (by decide) ?_
        refine r_iadd (pc := 64) dX3_meetChance_64 ?_
        refine q_callV (ci := 7) (T := TX8) (N := 14) (vs := [.int _]) (pc := 65) dX3_meetChance_65 rfl l_RX3_46 rfl ⟨by decide, by decide⟩ rfl (Nat.le_of_ble_eq_true rfl) hl (sH_at (i := 1) (by decide)) rfl (Nat.le_of_ble_eq_true rfl) (s_X8_draw (2 * jt + 1) (2 * jn + 1) (nadd (x := 2 * jn) (y := 1) (nmul (x := 2) (y := jn) rfl hj) rfl) (by omega) (by omega)) sH_22 ?_
        refine r_iadd (pc := 68) dX3_meetChance_68 ?_
        refine r_iload_n (pc := 69) dX3_meetChance_69 rfl rfl ?_
        refine r_isub (pc := 70) dX3_meetChance_70 ?_
        refine r_goto 81 (pc := 71) dX3_meetChance_71 (by decide) ?_
        refine q_istore [_, _, _, _, _, _, _, _] (pc := 81) dX3_meetChance_81 (by decide) rfl ?_
        refine r_aload_n (pc := 83) dX3_meetChance_83 rfl rfl ?_
        refine r_aload_n (pc := 84) dX3_meetChance_84 rfl rfl ?_
        refine cs_get (i := 8) (pc := 85) dX3_meetChance_85 rfl f_RX3_15 (by decide) rfl rfl ?_
        refine r_iload (pc := 88) dX3_meetChance_88 rfl ?_
        refine cs_ld (i := 9) (n := 15) (k := k) (pc := 90) dX3_meetChance_90 (by decide) rfl rfl (by omega) (by decide) ?_
        refine r_iconst (v := 0) (pc := 91) dX3_meetChance_91 (by decide) ?_
        refine r_iload (pc := 92) dX3_meetChance_92 rfl ?_
        refine r_max (pc := 94) dX3_meetChance_94 rfl l_RX3_52 (by decide) (Nat.le_of_ble_eq_true rfl) ?_
        rw [max_gr]
        refine r_aload_n (pc := 97) dX3_meetChance_97 rfl rfl ?_
        refine cs_get (i := 8) (pc := 98) dX3_meetChance_98 rfl f_RX3_22 (by decide) rfl rfl ?_
        refine r_iload (pc := 101) dX3_meetChance_101 rfl ?_
        refine cs_ld (i := 11) (n := 15) (k := k) (pc := 103) dX3_meetChance_103 (by decide) rfl rfl (by omega) (by decide) ?_
        refine q_callV (ci := 2) (T := TX3) (N := 5) (vs := [.int _, .int _, .int _]) (pc := 104) dX3_meetChance_104 rfl l_RX3_55 rfl ⟨by decide, by decide⟩ rfl (Nat.le_of_ble_eq_true rfl) hl (sH_at (i := 8) (by decide)) rfl (Nat.le_of_ble_eq_true rfl) (s_X3_insert hl c ((d1_n (by omega)).trans ((d1_n (by omega)).trans hc)) (by omega) _ _ _) sH_22 ?_
        refine q_iinc (nI (k + 1)) [_, _, _, _, _, _, _, _] (pc := 107) dX3_meetChance_107 rfl (by decide) (ninc 1 rfl) rfl ?_
        refine r_goto 19 (pc := 110) dX3_meetChance_110 (by decide) ?_
        refine r_wk [some _, some _, some _, some _, some _, some _, none, none] ⟨rfl, ⟨rfl, ⟨rfl, ⟨rfl, ⟨rfl, ⟨rfl, trivial⟩⟩⟩⟩⟩⟩ ?_
        exact ih (k + 1) _ (by omega) (by rw [itN_s, ← e_g, K_chb]; first | (rw [if_neg (by rw [K_lost, if_neg c33]; decide)]; done) | (rw [if_pos (by rw [K_lost, if_pos c33]), cl_nI hc (by omega), K_mv, if_pos c49]; done) | (rw [if_pos (by rw [K_lost, if_pos c33]), cl_nI hc (by omega), K_mv, if_neg c49]; done) | (rw [if_pos (by rw [K_lost, if_pos c33]), cl_nI hc (by omega), K_mv, if_pos c49]; rfl) | (rw [if_pos (by rw [K_lost, if_pos c33]), cl_nI hc (by omega), K_mv, if_neg c49]; rfl)) KK
    · refine r_iconst (v := 1) (pc := 36) dX3_meetChance_36 (by decide) ?_
      refine r_goto 41 (pc := 37) dX3_meetChance_37 (by decide) ?_
      refine q_istore [_, _, _, _, _, _, _, _] (pc := 41) dX3_meetChance_41 (by decide) rfl ?_
      refine r_iload (pc := 43) dX3_meetChance_43 rfl ?_
      refine r_if_ne 107 (pc := 45) dX3_meetChance_45 (by decide) (fun c45 => ?_) (fun c45 => absurd c45 (c_eqf rfl rfl (a := 1) (b := 0) (by omega) (by omega) (by omega)))
      refine q_iinc (nI (k + 1)) [_, _, _, _, _, _, _, _] (pc := 107) dX3_meetChance_107 rfl (by decide) (ninc 1 rfl) rfl ?_
      refine r_goto 19 (pc := 110) dX3_meetChance_110 (by decide) ?_
      refine r_wk [some _, some _, some _, some _, some _, some _, none, none] ⟨rfl, ⟨rfl, ⟨rfl, ⟨rfl, ⟨rfl, ⟨rfl, trivial⟩⟩⟩⟩⟩⟩ ?_
      exact ih (k + 1) _ (by omega) (by rw [itN_s, ← e_g, K_chb]; first | (rw [if_neg (by rw [K_lost, if_neg c33]; decide)]; done) | (rw [if_pos (by rw [K_lost, if_pos c33]), cl_nI hc (by omega), K_mv, if_pos c49]; done) | (rw [if_pos (by rw [K_lost, if_pos c33]), cl_nI hc (by omega), K_mv, if_neg c49]; done) | (rw [if_pos (by rw [K_lost, if_pos c33]), cl_nI hc (by omega), K_mv, if_pos c49]; rfl) | (rw [if_pos (by rw [K_lost, if_pos c33]), cl_nI hc (by omega), K_mv, if_neg c49]; rfl)) KK
theorem s_X3_meetChance {om : OM} {l : Launch} {B : Nat × Nat} {h0 : Hp} {b : Nat} {C : Nat → Int32} {W : Nat → Int64} (hl : l.stackTraces = false) (x jt : Int32) (jn : Nat) (hj : jt = nI jn) (hj20 : jn ≤ 20) (K : Nat) (hK : C 41 = nI K) (hK15 : K ≤ 15) : Runs om l M_X3_meetChance B 0 (entL 8 [.ref (b + 8), .ref (b + 1), .int x, .int jt]) [] (sH h0 b C W) (Det (none) (sH h0 b (K_chance C x jt) W)) := by
  show Runs om l M_X3_meetChance B 0 [some (.ref (b + 8)), some (.ref (b + 1)), some (.int x), some (.int jt), none, none, none, none] [] _ _
  refine r_aload_n (pc := 0) dX3_meetChance_0 rfl rfl ?_
  refine cs_get (i := 8) (pc := 1) dX3_meetChance_1 rfl f_RX3_9 (by decide) rfl rfl ?_
  refine r_bipush (v := 15) (pc := 4) dX3_meetChance_4 (by decide) ?_
  refine r_min (pc := 6) dX3_meetChance_6 rfl l_RX3_40 (by decide) (Nat.le_of_ble_eq_true rfl) ?_
  rw [min_n hK (show (15 : Int32) = nI 15 from rfl) (by omega) (by omega), Nat.min_eq_left hK15]
  refine q_istore [_, _, _, _, _, _, _, _] (pc := 9) dX3_meetChance_9 (by decide) rfl ?_
  refine r_aload_n (pc := 11) dX3_meetChance_11 rfl rfl ?_
  refine r_iconst (v := 0) (pc := 12) dX3_meetChance_12 (by decide) ?_
  refine cs_put (i := 8) 41 (pc := 13) dX3_meetChance_13 rfl f_RX3_9 (by decide) rfl (Nat.le_of_ble_eq_true rfl) rfl rfl ?_
  refine r_iconst (v := 0) (pc := 16) dX3_meetChance_16 (by decide) ?_
  refine q_istore [_, _, _, _, _, _, _, _] (pc := 17) dX3_meetChance_17 (by decide) rfl ?_
  rw [show K_chance C x jt = itN (K_chb x jt) K (upd C 41 0) by rw [K_chance, cl_nI hK (by omega)]]
  refine lp_X3_chance hl x jt jn hj hj20 K hK15 K 0 _ (by omega) rfl ?_
  exact r_return (S := []) (pc := 113) dX3_meetChance_113 rfl ⟨rfl, rfl⟩
theorem s_X3_isBetter {om : OM} {l : Launch} {B : Nat × Nat} {h0 : Hp} {b : Nat} {C : Nat → Int32} {W : Nat → Int64} (hl : l.stackTraces = false) (p q K : Nat) (x y : Int32) (hx : x = nI p) (hy : y = nI q) (hK : C 41 = nI K) (hp : p < K) (hq : q < K) (h15 : K ≤ 15) (mode told : Int32) : Runs om l M_X3_isBetter B 0 (entL 5 [.ref (b + 8), .int x, .int y, .int mode, .int told]) [] (sH h0 b C W) (Det (some (.int (K_bet C mode told p q))) (sH h0 b C W)) := by
  show Runs om l M_X3_isBetter B 0 [some (.ref (b + 8)), some (.int x), some (.int y), some (.int mode), some (.int told)] [] _ _
  refine r_iload_n (pc := 0) dX3_isBetter_0 rfl rfl ?_
  refine r_iconst (v := 1) (pc := 1) dX3_isBetter_1 (by decide) ?_
  refine r_icmp_ne 24 (pc := 2) dX3_isBetter_2 (by decide) (fun c2 => ?_) (fun c2 => ?_)
  · refine r_iload_n (pc := 24) dX3_isBetter_24 rfl rfl ?_
    refine r_iconst (v := 2) (pc := 25) dX3_isBetter_25 (by decide) ?_
    refine r_icmp_ne 66 (pc := 26) dX3_isBetter_26 (by decide) (fun c26 => ?_) (fun c26 => ?_)
    · refine r_iconst (v := 0) (pc := 66) dX3_isBetter_66 (by decide) ?_
      exact r_ireturn (S := []) (pc := 67) dX3_isBetter_67 rfl rfl ⟨by rw [K_bet]; (repeat (first | rw [if_pos (by assumption)] | rw [if_neg (by assumption)])); try rfl, rfl⟩
    · refine r_iload (pc := 29) dX3_isBetter_29 rfl ?_
      refine r_iconst (v := (-1)) (pc := 31) dX3_isBetter_31 (by decide) ?_
      refine r_icmp_eq 66 (pc := 32) dX3_isBetter_32 (by decide) (fun c32 => ?_) (fun c32 => ?_)
      · refine r_iconst (v := 0) (pc := 66) dX3_isBetter_66 (by decide) ?_
        exact r_ireturn (S := []) (pc := 67) dX3_isBetter_67 rfl rfl ⟨by rw [K_bet]; (repeat (first | rw [if_pos (by assumption)] | rw [if_neg (by assumption)])); try rfl, rfl⟩
      · refine r_aload_n (pc := 35) dX3_isBetter_35 rfl rfl ?_
        refine r_iload_n (pc := 36) dX3_isBetter_36 rfl rfl ?_
        refine q_callV (ci := 2) (T := TX3) (N := 5) (vs := [.int _]) (pc := 37) dX3_isBetter_37 rfl l_RX3_73 rfl ⟨by decide, by decide⟩ rfl (Nat.le_of_ble_eq_true rfl) hl (sH_at (i := 8) (by decide)) rfl (Nat.le_of_ble_eq_true rfl) (s_X3_distance hl _ p K hx hK hp h15) sH_22 ?_
        refine r_iload (pc := 40) dX3_isBetter_40 rfl ?_
        refine r_isub (pc := 42) dX3_isBetter_42 ?_
        refine r_abs (pc := 43) dX3_isBetter_43 rfl l_RX3_76 (by decide) (Nat.le_of_ble_eq_true rfl) ?_
        refine r_aload_n (pc := 46) dX3_isBetter_46 rfl rfl ?_
        refine r_iload_n (pc := 47) dX3_isBetter_47 rfl rfl ?_
        refine q_callV (ci := 2) (T := TX3) (N := 5) (vs := [.int _]) (pc := 48) dX3_isBetter_48 rfl l_RX3_73 rfl ⟨by decide, by decide⟩ rfl (Nat.le_of_ble_eq_true rfl) hl (sH_at (i := 8) (by decide)) rfl (Nat.le_of_ble_eq_true rfl) (s_X3_distance hl _ q K hy hK hq h15) sH_22 ?_
        refine r_iload (pc := 51) dX3_isBetter_51 rfl ?_
        refine r_isub (pc := 53) dX3_isBetter_53 ?_
        refine r_abs (pc := 54) dX3_isBetter_54 rfl l_RX3_76 (by decide) (Nat.le_of_ble_eq_true rfl) ?_
        refine r_icmp_ge 64 (pc := 57) dX3_isBetter_57 (by decide) (fun c57 => ?_) (fun c57 => ?_)
        · refine r_iconst (v := 0) (pc := 64) dX3_isBetter_64 (by decide) ?_
          exact r_ireturn (S := []) (pc := 65) dX3_isBetter_65 rfl rfl ⟨by rw [K_bet]; (repeat (first | rw [if_pos (by assumption)] | rw [if_neg (by assumption)])); try rfl, rfl⟩
        · refine r_iconst (v := 1) (pc := 60) dX3_isBetter_60 (by decide) ?_
          refine r_goto 65 (pc := 61) dX3_isBetter_61 (by decide) ?_
          exact r_ireturn (S := []) (pc := 65) dX3_isBetter_65 rfl rfl ⟨by rw [K_bet]; (repeat (first | rw [if_pos (by assumption)] | rw [if_neg (by assumption)])); try rfl, rfl⟩
  · refine r_aload_n (pc := 5) dX3_isBetter_5 rfl rfl ?_
    refine r_iload_n (pc := 6) dX3_isBetter_6 rfl rfl ?_
    refine q_callV (ci := 2) (T := TX3) (N := 5) (vs := [.int _]) (pc := 7) dX3_isBetter_7 rfl l_RX3_70 rfl ⟨by decide, by decide⟩ rfl (Nat.le_of_ble_eq_true rfl) hl (sH_at (i := 8) (by decide)) rfl (Nat.le_of_ble_eq_true rfl) (s_X3_strength hl _ p K hx hK hp h15) sH_22 ?_
    refine r_aload_n (pc := 10) dX3_isBetter_10 rfl rfl ?_
    refine r_iload_n (pc := 11) dX3_isBetter_11 rfl rfl ?_
    refine q_callV (ci := 2) (T := TX3) (N := 5) (vs := [.int _]) (pc := 12) dX3_isBetter_12 rfl l_RX3_70 rfl ⟨by decide, by decide⟩ rfl (Nat.le_of_ble_eq_true rfl) hl (sH_at (i := 8) (by decide)) rfl (Nat.le_of_ble_eq_true rfl) (s_X3_strength hl _ q K hy hK hq h15) sH_22 ?_
    refine r_icmp_le 22 (pc := 15) dX3_isBetter_15 (by decide) (fun c15 => ?_) (fun c15 => ?_)
    · refine r_iconst (v := 0) (pc := 22) dX3_isBetter_22 (by decide) ?_
      exact r_ireturn (S := []) (pc := 23) dX3_isBetter_23 rfl rfl ⟨by rw [K_bet]; (repeat (first | rw [if_pos (by assumption)] | rw [if_neg (by assumption)])); try rfl, rfl⟩
    · refine r_iconst (v := 1) (pc := 18) dX3_isBetter_18 (by decide) ?_
      refine r_goto 23 (pc := 19) dX3_isBetter_19 (by decide) ?_
      exact r_ireturn (S := []) (pc := 23) dX3_isBetter_23 rfl rfl ⟨by rw [K_bet]; (repeat (first | rw [if_pos (by assumption)] | rw [if_neg (by assumption)])); try rfl, rfl⟩
theorem lp_X3_best {om : OM} {l : Launch} {B : Nat × Nat} {h0 : Hp} {b : Nat} {C : Nat → Int32} {W : Nat → Int64} {Post : Out → Hp → Prop} (hl : l.stackTraces = false) (mode told : Int32) (K : Nat) (hK : C 41 = nI K) (hK15 : K ≤ 15) : ∀ (n9 k : Nat) (bb : Int32), k + n9 = K → bb = K_best C mode told k → Runs om l M_X3_bestOf B 60 [some (.ref (b + 8)), some (.int mode), some (.int told), some (.int (K_best C mode told K)), some (.int (nI K))] [] (sH h0 b C W) Post → Runs om l M_X3_bestOf B 5 [some (.ref (b + 8)), some (.int mode), some (.int told), some (.int bb), some (.int (nI k))] [] (sH h0 b C W) Post := by
  intro n9
  induction n9 with
  | zero =>
    intro k bb hk e_bb KK
    have hPI := KPI_best (C := C) (mode := mode) (told := told) k
    rw [← e_bb] at hPI
    have e9 : k = K := by omega
    refine r_iload (pc := 5) dX3_bestOf_5 rfl ?_
    refine r_aload_n (pc := 7) dX3_bestOf_7 rfl rfl ?_
    refine cs_get (i := 8) (pc := 8) dX3_bestOf_8 rfl f_RX3_9 (by decide) rfl rfl ?_
    refine r_icmp_ge 60 (pc := 11) dX3_bestOf_11 (by decide) (fun c11 => ?_) (fun c11 => absurd (c_get rfl hK (a := k) (b := K) (by omega) (by omega) (by omega)) c11)
    subst e9
    subst e_bb
    exact KK
  | succ n9 ih =>
    intro k bb hk e_bb KK
    have hPI := KPI_best (C := C) (mode := mode) (told := told) k
    rw [← e_bb] at hPI
    refine r_iload (pc := 5) dX3_bestOf_5 rfl ?_
    refine r_aload_n (pc := 7) dX3_bestOf_7 rfl rfl ?_
    refine cs_get (i := 8) (pc := 8) dX3_bestOf_8 rfl f_RX3_9 (by decide) rfl rfl ?_
    refine r_icmp_ge 60 (pc := 11) dX3_bestOf_11 (by decide) (fun c11 => absurd c11 (c_gef rfl hK (a := k) (b := K) (by omega) (by omega) (by omega))) (fun c11 => ?_)
    refine r_aload_n (pc := 14) dX3_bestOf_14 rfl rfl ?_
    refine r_iload (pc := 15) dX3_bestOf_15 rfl ?_
    refine r_iconst (v := 1) (pc := 17) dX3_bestOf_17 (by decide) ?_
    refine q_callV (ci := 2) (T := TX3) (N := 5) (vs := [.int _, .int _]) (pc := 18) dX3_bestOf_18 rfl l_RX3_63 rfl ⟨by decide, by decide⟩ rfl (Nat.le_of_ble_eq_true rfl) hl (sH_at (i := 8) (by decide)) rfl (Nat.le_of_ble_eq_true rfl) (s_X3_isMarked hl _ k K rfl hK (by omega) hK15 _) sH_22 ?_
    refine r_if_eq 54 (pc := 21) dX3_bestOf_21 (by decide) (fun c21 => ?_) (fun c21 => ?_)
    · refine q_iinc (nI (k + 1)) [_, _, _, _, _] (pc := 54) dX3_bestOf_54 rfl (by decide) (ninc 1 rfl) rfl ?_
      refine r_goto 5 (pc := 57) dX3_bestOf_57 (by decide) ?_
      exact ih (k + 1) _ (by omega) (by first | (rw [show K_best C mode told (k + 1) = K_pkb C mode told k (K_best C mode told k) from rfl, ← e_bb, K_pkb]; (repeat (first | rw [if_pos (by assumption)] | rw [if_neg (by assumption)])); done) | (rw [show K_best C mode told (k + 1) = K_pkb C mode told k (K_best C mode told k) from rfl, ← e_bb, K_pkb, if_neg c21, if_pos c31, if_neg c36, cl_nI he (by omega)]; (repeat (first | rw [if_pos (by assumption)] | rw [if_neg (by assumption)])); done)) KK
    · refine r_aload_n (pc := 24) dX3_bestOf_24 rfl rfl ?_
      refine r_iload (pc := 25) dX3_bestOf_25 rfl ?_
      refine r_iconst (v := 2) (pc := 27) dX3_bestOf_27 (by decide) ?_
      refine q_callV (ci := 2) (T := TX3) (N := 5) (vs := [.int _, .int _]) (pc := 28) dX3_bestOf_28 rfl l_RX3_63 rfl ⟨by decide, by decide⟩ rfl (Nat.le_of_ble_eq_true rfl) hl (sH_at (i := 8) (by decide)) rfl (Nat.le_of_ble_eq_true rfl) (s_X3_isMarked hl _ k K rfl hK (by omega) hK15 _) sH_22 ?_
      refine r_if_ne 54 (pc := 31) dX3_bestOf_31 (by decide) (fun c31 => ?_) (fun c31 => ?_)
      · refine q_iinc (nI (k + 1)) [_, _, _, _, _] (pc := 54) dX3_bestOf_54 rfl (by decide) (ninc 1 rfl) rfl ?_
        refine r_goto 5 (pc := 57) dX3_bestOf_57 (by decide) ?_
        exact ih (k + 1) _ (by omega) (by first | (rw [show K_best C mode told (k + 1) = K_pkb C mode told k (K_best C mode told k) from rfl, ← e_bb, K_pkb]; (repeat (first | rw [if_pos (by assumption)] | rw [if_neg (by assumption)])); done) | (rw [show K_best C mode told (k + 1) = K_pkb C mode told k (K_best C mode told k) from rfl, ← e_bb, K_pkb, if_neg c21, if_pos c31, if_neg c36, cl_nI he (by omega)]; (repeat (first | rw [if_pos (by assumption)] | rw [if_neg (by assumption)])); done)) KK
      · refine r_iload_n (pc := 34) dX3_bestOf_34 rfl rfl ?_
        refine r_iconst (v := (-1)) (pc := 35) dX3_bestOf_35 (by decide) ?_
        refine r_icmp_eq 51 (pc := 36) dX3_bestOf_36 (by decide) (fun c36 => ?_) (fun c36 => ?_)
        · refine r_iload (pc := 51) dX3_bestOf_51 rfl ?_
          refine q_istore_n [_, _, _, _, _] (pc := 53) dX3_bestOf_53 rfl (by decide) rfl ?_
          refine q_iinc (nI (k + 1)) [_, _, _, _, _] (pc := 54) dX3_bestOf_54 rfl (by decide) (ninc 1 rfl) rfl ?_
          refine r_goto 5 (pc := 57) dX3_bestOf_57 (by decide) ?_
          exact ih (k + 1) _ (by omega) (by first | (rw [show K_best C mode told (k + 1) = K_pkb C mode told k (K_best C mode told k) from rfl, ← e_bb, K_pkb]; (repeat (first | rw [if_pos (by assumption)] | rw [if_neg (by assumption)])); done) | (rw [show K_best C mode told (k + 1) = K_pkb C mode told k (K_best C mode told k) from rfl, ← e_bb, K_pkb, if_neg c21, if_pos c31, if_neg c36, cl_nI he (by omega)]; (repeat (first | rw [if_pos (by assumption)] | rw [if_neg (by assumption)])); done)) KK
        · obtain ⟨e, he1, he⟩ := hPI.resolve_left c36
          refine r_aload_n (pc := 39) dX3_bestOf_39 rfl rfl ?_
          refine r_iload (pc := 40) dX3_bestOf_40 rfl ?_
          refine r_iload_n (pc := 42) dX3_bestOf_42 rfl rfl ?_
          refine r_iload_n (pc := 43) dX3_bestOf_43 rfl rfl ?_
          refine r_iload_n (pc := 44) dX3_bestOf_44 rfl rfl ?_
          refine q_callV (ci := 2) (T := TX3) (N := 5) (vs := [.int _, .int _, .int _, .int _]) (pc := 45) dX3_bestOf_45 rfl l_RX3_67 rfl ⟨by decide, by decide⟩ rfl (Nat.le_of_ble_eq_true rfl) hl (sH_at (i := 8) (by decide)) rfl (Nat.le_of_ble_eq_true rfl) (s_X3_isBetter hl k e K _ _ rfl he hK (by omega) (by omega) hK15 _ _) sH_22 ?_
          refine r_if_eq 54 (pc := 48) dX3_bestOf_48 (by decide) (fun c48 => ?_) (fun c48 => ?_)
          · refine q_iinc (nI (k + 1)) [_, _, _, _, _] (pc := 54) dX3_bestOf_54 rfl (by decide) (ninc 1 rfl) rfl ?_
            refine r_goto 5 (pc := 57) dX3_bestOf_57 (by decide) ?_
            exact ih (k + 1) _ (by omega) (by first | (rw [show K_best C mode told (k + 1) = K_pkb C mode told k (K_best C mode told k) from rfl, ← e_bb, K_pkb]; (repeat (first | rw [if_pos (by assumption)] | rw [if_neg (by assumption)])); done) | (rw [show K_best C mode told (k + 1) = K_pkb C mode told k (K_best C mode told k) from rfl, ← e_bb, K_pkb, if_neg c21, if_pos c31, if_neg c36, cl_nI he (by omega)]; (repeat (first | rw [if_pos (by assumption)] | rw [if_neg (by assumption)])); done)) KK
          · refine r_iload (pc := 51) dX3_bestOf_51 rfl ?_
            refine q_istore_n [_, _, _, _, _] (pc := 53) dX3_bestOf_53 rfl (by decide) rfl ?_
            refine q_iinc (nI (k + 1)) [_, _, _, _, _] (pc := 54) dX3_bestOf_54 rfl (by decide) (ninc 1 rfl) rfl ?_
            refine r_goto 5 (pc := 57) dX3_bestOf_57 (by decide) ?_
            exact ih (k + 1) _ (by omega) (by first | (rw [show K_best C mode told (k + 1) = K_pkb C mode told k (K_best C mode told k) from rfl, ← e_bb, K_pkb]; (repeat (first | rw [if_pos (by assumption)] | rw [if_neg (by assumption)])); done) | (rw [show K_best C mode told (k + 1) = K_pkb C mode told k (K_best C mode told k) from rfl, ← e_bb, K_pkb, if_neg c21, if_pos c31, if_neg c36, cl_nI he (by omega)]; (repeat (first | rw [if_pos (by assumption)] | rw [if_neg (by assumption)])); done)) KK
theorem s_X3_bestOf {om : OM} {l : Launch} {B : Nat × Nat} {h0 : Hp} {b : Nat} {C : Nat → Int32} {W : Nat → Int64} (hl : l.stackTraces = false) (mode told : Int32) (K : Nat) (hK : C 41 = nI K) (hK15 : K ≤ 15) : Runs om l M_X3_bestOf B 0 (entL 5 [.ref (b + 8), .int mode, .int told]) [] (sH h0 b C W) (Det (some (.int (K_best C mode told K))) (sH h0 b C W)) := by
  show Runs om l M_X3_bestOf B 0 [some (.ref (b + 8)), some (.int mode), some (.int told), none, none] [] _ _
  refine r_iconst (v := (-1)) (pc := 0) dX3_bestOf_0 (by decide) ?_
  refine q_istore_n [_, _, _, _, _] (pc := 1) dX3_bestOf_1 rfl (by decide) rfl ?_
  refine r_iconst (v := 0) (pc := 2) dX3_bestOf_2 (by decide) ?_
  refine q_istore [_, _, _, _, _] (pc := 3) dX3_bestOf_3 (by decide) rfl ?_
  refine lp_X3_best hl mode told K hK hK15 K 0 _ (by omega) rfl ?_
  refine r_iload_n (pc := 60) dX3_bestOf_60 rfl rfl ?_
  exact r_ireturn (S := []) (pc := 61) dX3_bestOf_61 rfl rfl ⟨rfl, rfl⟩
theorem lp_X2_near15 {om : OM} {l : Launch} {B : Nat × Nat} {h0 : Hp} {b : Nat} {C : Nat → Int32} {W : Nat → Int64} (d : Int32) (K : Nat) (hK : C 102 = nI K) (hK15 : K ≤ 15) : ∀ (n9 k : Nat), k + n9 = K → Runs om l M_X2_hasNear B 2 [some (.ref (b + 15)), some (.int d), some (.int (nI k))] [] (sH h0 b C W) (Det (some (.int (K_nearl C 103 d n9 k))) (sH h0 b C W)) := by
  intro n9
  induction n9 with
  | zero =>
    intro k hk
    refine r_iload_n (pc := 2) dX2_hasNear_2 rfl rfl ?_
    refine r_aload_n (pc := 3) dX2_hasNear_3 rfl rfl ?_
    refine cs_get (i := 15) (pc := 4) dX2_hasNear_4 rfl f_RX2_9 (by decide) rfl rfl ?_
    refine r_icmp_ge 43 (pc := 7) dX2_hasNear_7 (by decide) (fun c7 => ?_) (fun c7 => absurd (c_get rfl hK (a := k) (b := K) (by omega) (by omega) (by omega)) c7)
    refine r_iconst (v := 0) (pc := 43) dX2_hasNear_43 (by decide) ?_
    exact r_ireturn (S := []) (pc := 44) dX2_hasNear_44 rfl rfl ⟨rfl, rfl⟩
  | succ n9 ih =>
    intro k hk
    refine r_iload_n (pc := 2) dX2_hasNear_2 rfl rfl ?_
    refine r_aload_n (pc := 3) dX2_hasNear_3 rfl rfl ?_
    refine cs_get (i := 15) (pc := 4) dX2_hasNear_4 rfl f_RX2_9 (by decide) rfl rfl ?_
    refine r_icmp_ge 43 (pc := 7) dX2_hasNear_7 (by decide) (fun c7 => absurd c7 (c_gef rfl hK (a := k) (b := K) (by omega) (by omega) (by omega))) (fun c7 => ?_)
    refine r_iload_n (pc := 10) dX2_hasNear_10 rfl rfl ?_
    refine r_aload_n (pc := 11) dX2_hasNear_11 rfl rfl ?_
    refine cs_get (i := 15) (pc := 12) dX2_hasNear_12 rfl f_RX2_15 (by decide) rfl rfl ?_
    refine cs_len (i := 16) (n := 15) (pc := 15) dX2_hasNear_15 (by decide) rfl ?_
    refine r_icmp_ge 43 (pc := 16) dX2_hasNear_16 (by decide) (fun c16 => absurd c16 (c_gef rfl rfl (a := k) (b := 15) (by omega) (by omega) (by omega))) (fun c16 => ?_)
    refine r_aload_n (pc := 19) dX2_hasNear_19 rfl rfl ?_
    refine cs_get (i := 15) (pc := 20) dX2_hasNear_20 rfl f_RX2_15 (by decide) rfl rfl ?_
    refine r_iload_n (pc := 23) dX2_hasNear_23 rfl rfl ?_
    refine cs_ld (i := 16) (n := 15) (k := k) (pc := 24) dX2_hasNear_24 (by decide) rfl rfl (by omega) (by decide) ?_
    refine r_iload_n (pc := 25) dX2_hasNear_25 rfl rfl ?_
    refine r_isub (pc := 26) dX2_hasNear_26 ?_
    refine r_abs (pc := 27) dX2_hasNear_27 rfl l_RX2_34 (by decide) (Nat.le_of_ble_eq_true rfl) ?_
    refine r_bipush (v := 15) (pc := 30) dX2_hasNear_30 (by decide) ?_
    refine r_icmp_gt 37 (pc := 32) dX2_hasNear_32 (by decide) (fun c32 => ?_) (fun c32 => ?_)
    · refine q_iinc (nI (k + 1)) [_, _, _] (pc := 37) dX2_hasNear_37 rfl (by decide) (ninc 1 rfl) rfl ?_
      refine r_goto 2 (pc := 40) dX2_hasNear_40 (by decide) ?_
      rw [show K_nearl C 103 d (n9 + 1) k = K_nearl C 103 d n9 (k + 1) by rw [K_nearl, K_abs, if_pos c32]]
      exact ih (k + 1) (by omega)
    · refine r_iconst (v := 1) (pc := 35) dX2_hasNear_35 (by decide) ?_
      exact r_ireturn (S := []) (pc := 36) dX2_hasNear_36 rfl rfl ⟨by rw [K_nearl, K_abs, if_neg c32], rfl⟩
theorem s_X2_hasNear15 {om : OM} {l : Launch} {B : Nat × Nat} {h0 : Hp} {b : Nat} {C : Nat → Int32} {W : Nat → Int64} (d : Int32) (K : Nat) (hK : C 102 = nI K) (hK15 : K ≤ 15) : Runs om l M_X2_hasNear B 0 (entL 3 [.ref (b + 15), .int d]) [] (sH h0 b C W) (Det (some (.int (K_nearl C 103 d K 0))) (sH h0 b C W)) := by
  show Runs om l M_X2_hasNear B 0 [some (.ref (b + 15)), some (.int d), none] [] _ _
  refine r_iconst (v := 0) (pc := 0) dX2_hasNear_0 (by decide) ?_
  refine q_istore_n [_, _, _] (pc := 1) dX2_hasNear_1 rfl (by decide) rfl ?_
  exact lp_X2_near15 d K hK hK15 K 0 (by omega)
theorem s_X2_reset15 {om : OM} {l : Launch} {B : Nat × Nat} {h0 : Hp} {b : Nat} {C : Nat → Int32} {W : Nat → Int64}  : Runs om l M_X2_reset B 0 (entL 1 [.ref (b + 15)]) [] (sH h0 b C W) (Det (none) (sH h0 b (upd C 102 0) W)) := by
  show Runs om l M_X2_reset B 0 [some (.ref (b + 15))] [] _ _
  refine r_aload_n (pc := 0) dX2_reset_0 rfl rfl ?_
  refine r_iconst (v := 0) (pc := 1) dX2_reset_1 (by decide) ?_
  refine cs_put (i := 15) 102 (pc := 2) dX2_reset_2 rfl f_RX2_9 (by decide) rfl (Nat.le_of_ble_eq_true rfl) rfl rfl ?_
  exact r_return (S := []) (pc := 5) dX2_reset_5 rfl ⟨rfl, rfl⟩
theorem lp_X2_near17 {om : OM} {l : Launch} {B : Nat × Nat} {h0 : Hp} {b : Nat} {C : Nat → Int32} {W : Nat → Int64} (d : Int32) (K : Nat) (hK : C 118 = nI K) (hK15 : K ≤ 15) : ∀ (n9 k : Nat), k + n9 = K → Runs om l M_X2_hasNear B 2 [some (.ref (b + 17)), some (.int d), some (.int (nI k))] [] (sH h0 b C W) (Det (some (.int (K_nearl C 119 d n9 k))) (sH h0 b C W)) := by
  intro n9
  induction n9 with
  | zero =>
    intro k hk
    refine r_iload_n (pc := 2) dX2_hasNear_2 rfl rfl ?_
    refine r_aload_n (pc := 3) dX2_hasNear_3 rfl rfl ?_
    refine cs_get (i := 17) (pc := 4) dX2_hasNear_4 rfl f_RX2_9 (by decide) rfl rfl ?_
    refine r_icmp_ge 43 (pc := 7) dX2_hasNear_7 (by decide) (fun c7 => ?_) (fun c7 => absurd (c_get rfl hK (a := k) (b := K) (by omega) (by omega) (by omega)) c7)
    refine r_iconst (v := 0) (pc := 43) dX2_hasNear_43 (by decide) ?_
    exact r_ireturn (S := []) (pc := 44) dX2_hasNear_44 rfl rfl ⟨rfl, rfl⟩
  | succ n9 ih =>
    intro k hk
    refine r_iload_n (pc := 2) dX2_hasNear_2 rfl rfl ?_
    refine r_aload_n (pc := 3) dX2_hasNear_3 rfl rfl ?_
    refine cs_get (i := 17) (pc := 4) dX2_hasNear_4 rfl f_RX2_9 (by decide) rfl rfl ?_
    refine r_icmp_ge 43 (pc := 7) dX2_hasNear_7 (by decide) (fun c7 => absurd c7 (c_gef rfl hK (a := k) (b := K) (by omega) (by omega) (by omega))) (fun c7 => ?_)
    refine r_iload_n (pc := 10) dX2_hasNear_10 rfl rfl ?_
    refine r_aload_n (pc := 11) dX2_hasNear_11 rfl rfl ?_
    refine cs_get (i := 17) (pc := 12) dX2_hasNear_12 rfl f_RX2_15 (by decide) rfl rfl ?_
    refine cs_len (i := 18) (n := 15) (pc := 15) dX2_hasNear_15 (by decide) rfl ?_
    refine r_icmp_ge 43 (pc := 16) dX2_hasNear_16 (by decide) (fun c16 => absurd c16 (c_gef rfl rfl (a := k) (b := 15) (by omega) (by omega) (by omega))) (fun c16 => ?_)
    refine r_aload_n (pc := 19) dX2_hasNear_19 rfl rfl ?_
    refine cs_get (i := 17) (pc := 20) dX2_hasNear_20 rfl f_RX2_15 (by decide) rfl rfl ?_
    refine r_iload_n (pc := 23) dX2_hasNear_23 rfl rfl ?_
    refine cs_ld (i := 18) (n := 15) (k := k) (pc := 24) dX2_hasNear_24 (by decide) rfl rfl (by omega) (by decide) ?_
    refine r_iload_n (pc := 25) dX2_hasNear_25 rfl rfl ?_
    refine r_isub (pc := 26) dX2_hasNear_26 ?_
    refine r_abs (pc := 27) dX2_hasNear_27 rfl l_RX2_34 (by decide) (Nat.le_of_ble_eq_true rfl) ?_
    refine r_bipush (v := 15) (pc := 30) dX2_hasNear_30 (by decide) ?_
    refine r_icmp_gt 37 (pc := 32) dX2_hasNear_32 (by decide) (fun c32 => ?_) (fun c32 => ?_)
    · refine q_iinc (nI (k + 1)) [_, _, _] (pc := 37) dX2_hasNear_37 rfl (by decide) (ninc 1 rfl) rfl ?_
      refine r_goto 2 (pc := 40) dX2_hasNear_40 (by decide) ?_
      rw [show K_nearl C 119 d (n9 + 1) k = K_nearl C 119 d n9 (k + 1) by rw [K_nearl, K_abs, if_pos c32]]
      exact ih (k + 1) (by omega)
    · refine r_iconst (v := 1) (pc := 35) dX2_hasNear_35 (by decide) ?_
      exact r_ireturn (S := []) (pc := 36) dX2_hasNear_36 rfl rfl ⟨by rw [K_nearl, K_abs, if_neg c32], rfl⟩
theorem s_X2_hasNear17 {om : OM} {l : Launch} {B : Nat × Nat} {h0 : Hp} {b : Nat} {C : Nat → Int32} {W : Nat → Int64} (d : Int32) (K : Nat) (hK : C 118 = nI K) (hK15 : K ≤ 15) : Runs om l M_X2_hasNear B 0 (entL 3 [.ref (b + 17), .int d]) [] (sH h0 b C W) (Det (some (.int (K_nearl C 119 d K 0))) (sH h0 b C W)) := by
  show Runs om l M_X2_hasNear B 0 [some (.ref (b + 17)), some (.int d), none] [] _ _
  refine r_iconst (v := 0) (pc := 0) dX2_hasNear_0 (by decide) ?_
  refine q_istore_n [_, _, _] (pc := 1) dX2_hasNear_1 rfl (by decide) rfl ?_
  exact lp_X2_near17 d K hK hK15 K 0 (by omega)
theorem s_X2_reset17 {om : OM} {l : Launch} {B : Nat × Nat} {h0 : Hp} {b : Nat} {C : Nat → Int32} {W : Nat → Int64}  : Runs om l M_X2_reset B 0 (entL 1 [.ref (b + 17)]) [] (sH h0 b C W) (Det (none) (sH h0 b (upd C 118 0) W)) := by
  show Runs om l M_X2_reset B 0 [some (.ref (b + 17))] [] _ _
  refine r_aload_n (pc := 0) dX2_reset_0 rfl rfl ?_
  refine r_iconst (v := 0) (pc := 1) dX2_reset_1 (by decide) ?_
  refine cs_put (i := 17) 118 (pc := 2) dX2_reset_2 rfl f_RX2_9 (by decide) rfl (Nat.le_of_ble_eq_true rfl) rfl rfl ?_
  exact r_return (S := []) (pc := 5) dX2_reset_5 rfl ⟨rfl, rfl⟩
theorem lp_X2_take {om : OM} {l : Launch} {B : Nat × Nat} {h0 : Hp} {b : Nat} {C : Nat → Int32} {W : Nat → Int64} {Post : Out → Hp → Prop} (hl : l.stackTraces = false) (K : Nat) (hK : C 41 = nI K) (hK15 : K ≤ 15) : ∀ (n9 k : Nat) (g : Nat → Int32), k + n9 = K → g = itN K_tkb k (upd C 102 0) → Runs om l M_X2_takeCandidates B 66 [some (.ref (b + 15)), some (.ref (b + 8)), some (.int (nI K))] [] (sH h0 b ((itN K_tkb K (upd C 102 0))) W) Post → Runs om l M_X2_takeCandidates B 7 [some (.ref (b + 15)), some (.ref (b + 8)), some (.int (nI k))] [] (sH h0 b g W) Post := by
  intro n9
  induction n9 with
  | zero =>
    intro k g hk e_g KK
    have hM := KTI_r (C := C) k (by omega)
    rw [← e_g] at hM
    obtain ⟨⟨c, hc, hck⟩, hout⟩ := hM
    have h41g : g 41 = nI K := (hout 41 (by omega)).trans hK
    have e9 : k = K := by omega
    refine r_iload_n (pc := 7) dX2_takeCandidates_7 rfl rfl ?_
    refine r_aload_n (pc := 8) dX2_takeCandidates_8 rfl rfl ?_
    refine cs_get (i := 8) (pc := 9) dX2_takeCandidates_9 rfl f_RX2_23 (by decide) rfl rfl ?_
    refine r_icmp_ge 66 (pc := 12) dX2_takeCandidates_12 (by decide) (fun c12 => ?_) (fun c12 => absurd (c_get rfl h41g (a := k) (b := K) (by omega) (by omega) (by omega)) c12)
    subst e9
    subst e_g
    exact KK
  | succ n9 ih =>
    intro k g hk e_g KK
    have hM := KTI_r (C := C) k (by omega)
    rw [← e_g] at hM
    obtain ⟨⟨c, hc, hck⟩, hout⟩ := hM
    have h41g : g 41 = nI K := (hout 41 (by omega)).trans hK
    refine r_iload_n (pc := 7) dX2_takeCandidates_7 rfl rfl ?_
    refine r_aload_n (pc := 8) dX2_takeCandidates_8 rfl rfl ?_
    refine cs_get (i := 8) (pc := 9) dX2_takeCandidates_9 rfl f_RX2_23 (by decide) rfl rfl ?_
    refine r_icmp_ge 66 (pc := 12) dX2_takeCandidates_12 (by decide) (fun c12 => absurd c12 (c_gef rfl h41g (a := k) (b := K) (by omega) (by omega) (by omega))) (fun c12 => ?_)
    refine r_aload_n (pc := 15) dX2_takeCandidates_15 rfl rfl ?_
    refine r_iload_n (pc := 16) dX2_takeCandidates_16 rfl rfl ?_
    refine r_iconst (v := 1) (pc := 17) dX2_takeCandidates_17 (by decide) ?_
    refine q_callV (ci := 2) (T := TX3) (N := 5) (vs := [.int _, .int _]) (pc := 18) dX2_takeCandidates_18 rfl l_RX2_26 rfl ⟨by decide, by decide⟩ rfl (Nat.le_of_ble_eq_true rfl) hl (sH_at (i := 8) (by decide)) rfl (Nat.le_of_ble_eq_true rfl) (s_X3_isMarked hl _ k K rfl h41g (by omega) hK15 _) sH_22 ?_
    refine r_if_eq 60 (pc := 21) dX2_takeCandidates_21 (by decide) (fun c21 => ?_) (fun c21 => ?_)
    · refine q_iinc (nI (k + 1)) [_, _, _] (pc := 60) dX2_takeCandidates_60 rfl (by decide) (ninc 1 rfl) rfl ?_
      refine r_goto 7 (pc := 63) dX2_takeCandidates_63 (by decide) ?_
      exact ih (k + 1) _ (by omega) (by rw [itN_s, ← e_g, K_tkb]; first | (rw [if_pos c21]; done) | (rw [if_neg c21, cl_nI hc (by omega)]; done) | (rw [if_neg c21, cl_nI hc (by omega)]; rfl)) KK
    · refine r_aload_n (pc := 24) dX2_takeCandidates_24 rfl rfl ?_
      refine cs_get (i := 15) (pc := 25) dX2_takeCandidates_25 rfl f_RX2_9 (by decide) rfl rfl ?_
      refine r_aload_n (pc := 28) dX2_takeCandidates_28 rfl rfl ?_
      refine cs_get (i := 15) (pc := 29) dX2_takeCandidates_29 rfl f_RX2_15 (by decide) rfl rfl ?_
      refine cs_len (i := 16) (n := 15) (pc := 32) dX2_takeCandidates_32 (by decide) rfl ?_
      refine r_icmp_ge 60 (pc := 33) dX2_takeCandidates_33 (by decide) (fun c33 => absurd c33 (c_gef hc rfl (a := c) (b := 15) (by omega) (by omega) (by omega))) (fun c33 => ?_)
      refine r_aload_n (pc := 36) dX2_takeCandidates_36 rfl rfl ?_
      refine cs_get (i := 15) (pc := 37) dX2_takeCandidates_37 rfl f_RX2_15 (by decide) rfl rfl ?_
      refine r_aload_n (pc := 40) dX2_takeCandidates_40 rfl rfl ?_
      refine cs_get (i := 15) (pc := 41) dX2_takeCandidates_41 rfl f_RX2_9 (by decide) rfl rfl ?_
      refine r_aload_n (pc := 44) dX2_takeCandidates_44 rfl rfl ?_
      refine r_iload_n (pc := 45) dX2_takeCandidates_45 rfl rfl ?_
      refine q_callV (ci := 2) (T := TX3) (N := 5) (vs := [.int _]) (pc := 46) dX2_takeCandidates_46 rfl l_RX2_30 rfl ⟨by decide, by decide⟩ rfl (Nat.le_of_ble_eq_true rfl) hl (sH_at (i := 8) (by decide)) rfl (Nat.le_of_ble_eq_true rfl) (s_X3_distance hl _ k K rfl h41g (by omega) hK15) sH_22 ?_
      refine cs_st (i := 16) (n := 15) (k := c) (103 + c) (pc := 49) dX2_takeCandidates_49 (by decide) rfl hc (by omega) (by decide) (ow_16 (by omega)) st_16 ?_
      refine r_aload_n (pc := 50) dX2_takeCandidates_50 rfl rfl ?_
      refine r_dup (pc := 51) dX2_takeCandidates_51 rfl ?_
      refine cs_get (i := 15) (pc := 52) dX2_takeCandidates_52 rfl f_RX2_9 (by decide) rfl rfl ?_
      refine r_iconst (v := 1) (pc := 55) dX2_takeCandidates_55 (by decide) ?_
      refine r_iadd (pc := 56) dX2_takeCandidates_56 ?_
      refine cs_put (i := 15) 102 (pc := 57) dX2_takeCandidates_57 rfl f_RX2_9 (by decide) rfl (Nat.le_of_ble_eq_true rfl) rfl rfl ?_
      refine q_iinc (nI (k + 1)) [_, _, _] (pc := 60) dX2_takeCandidates_60 rfl (by decide) (ninc 1 rfl) rfl ?_
      refine r_goto 7 (pc := 63) dX2_takeCandidates_63 (by decide) ?_
      exact ih (k + 1) _ (by omega) (by rw [itN_s, ← e_g, K_tkb]; first | (rw [if_pos c21]; done) | (rw [if_neg c21, cl_nI hc (by omega)]; done) | (rw [if_neg c21, cl_nI hc (by omega)]; rfl)) KK
theorem s_X2_takeCandidates {om : OM} {l : Launch} {B : Nat × Nat} {h0 : Hp} {b : Nat} {C : Nat → Int32} {W : Nat → Int64} (hl : l.stackTraces = false) (K : Nat) (hK : C 41 = nI K) (hK15 : K ≤ 15) : Runs om l M_X2_takeCandidates B 0 (entL 3 [.ref (b + 15), .ref (b + 8)]) [] (sH h0 b C W) (Det (none) (sH h0 b (K_take C) W)) := by
  show Runs om l M_X2_takeCandidates B 0 [some (.ref (b + 15)), some (.ref (b + 8)), none] [] _ _
  refine r_aload_n (pc := 0) dX2_takeCandidates_0 rfl rfl ?_
  refine r_iconst (v := 0) (pc := 1) dX2_takeCandidates_1 (by decide) ?_
  refine cs_put (i := 15) 102 (pc := 2) dX2_takeCandidates_2 rfl f_RX2_9 (by decide) rfl (Nat.le_of_ble_eq_true rfl) rfl rfl ?_
  refine r_iconst (v := 0) (pc := 5) dX2_takeCandidates_5 (by decide) ?_
  refine q_istore_n [_, _, _] (pc := 6) dX2_takeCandidates_6 rfl (by decide) rfl ?_
  rw [show K_take C = itN K_tkb K (upd C 102 0) by rw [K_take, cl_nI hK (by omega)]]
  refine lp_X2_take hl K hK hK15 K 0 _ (by omega) rfl ?_
  exact r_return (S := []) (pc := 66) dX2_takeCandidates_66 rfl ⟨rfl, rfl⟩
theorem s_copyOld {om : OM} {l : Launch} {B : Nat × Nat} {h0 : Hp} {b : Nat} {C : Nat → Int32} {W : Nat → Int64} : Runs om l M_X10_copyRow B 0 (entL 2 [.ref (b + 16), .ref (b + 18)]) [] (sH h0 b (upd C 118 (C 102)) W) (Det none (sH h0 b (K_old C) W)) := by
  have h1 : hs (sH h0 b (upd C 118 (C 102)) W) (b + 18) (ar 15 (fun j => upd C 118 (C 102) (103 + j))) = sH h0 b (K_old C) W := by
    refine sH_hs (by decide) (ar_congr fun j hj => ?_) fun m hm => sc_congr m fun j hj => ?_
    · rw [upd_n (by omega), K_old, if_pos (by omega), show 119 + j - 16 = 103 + j by omega]
    · unfold K_old
      by_cases h2 : j = 118
      · subst h2; rw [upd_s, if_pos (by omega)]
      · rw [upd_n h2, if_neg fun z => hm (hj.symm.trans (own_18 (by omega)))]
  rw [← h1]
  exact s_copyRow (by decide) (sH_at (i := 16) (by decide)) (sH_at (i := 18) (by decide))
theorem s_X2_copyOld {om : OM} {l : Launch} {B : Nat × Nat} {h0 : Hp} {b : Nat} {C : Nat → Int32} {W : Nat → Int64} (hl : l.stackTraces = false)  : Runs om l M_X2_copyFrom B 0 (entL 2 [.ref (b + 17), .ref (b + 15)]) [] (sH h0 b C W) (Det (none) (sH h0 b (K_old C) W)) := by
  show Runs om l M_X2_copyFrom B 0 [some (.ref (b + 17)), some (.ref (b + 15))] [] _ _
  refine r_aload_n (pc := 0) dX2_copyFrom_0 rfl rfl ?_
  refine r_aload_n (pc := 1) dX2_copyFrom_1 rfl rfl ?_
  refine cs_get (i := 15) (pc := 2) dX2_copyFrom_2 rfl f_RX2_9 (by decide) rfl rfl ?_
  refine cs_put (i := 17) 118 (pc := 5) dX2_copyFrom_5 rfl f_RX2_9 (by decide) rfl (Nat.le_of_ble_eq_true rfl) rfl rfl ?_
  refine r_aload_n (pc := 8) dX2_copyFrom_8 rfl rfl ?_
  refine cs_get (i := 15) (pc := 9) dX2_copyFrom_9 rfl f_RX2_15 (by decide) rfl rfl ?_
  refine r_aload_n (pc := 12) dX2_copyFrom_12 rfl rfl ?_
  refine cs_get (i := 17) (pc := 13) dX2_copyFrom_13 rfl f_RX2_15 (by decide) rfl rfl ?_
  refine q_callSN (vs := [.ref _, .ref _]) (pc := 16) dX2_copyFrom_16 rfl l_RX2_19 rfl ⟨by decide, by decide⟩ rfl (Nat.le_of_ble_eq_true rfl) hl (Nat.le_of_ble_eq_true rfl) (s_copyOld) sH_22 ?_
  exact r_return (S := []) (pc := 19) dX2_copyFrom_19 rfl ⟨rfl, rfl⟩
theorem s_X2_copyFrom15 {om : OM} {l : Launch} {B : Nat × Nat} {h0 : Hp} {b b2 : Nat} {C C2 : Nat → Int32} {W W2 : Nat → Int64} (hl : l.stackTraces = false) (hd : b + 19 ≤ b2 ∨ b2 + 19 ≤ b) : Runs om l M_X2_copyFrom B 0 (entL 2 [.ref (b + 15), .ref (b2 + 15)]) [] (sH ((sH h0 b2 C2 W2)) b C W) (Det (none) (sH ((sH h0 b2 C2 W2)) b (blk 16 C2 (upd C 102 (C2 102))) W)) := by
  show Runs om l M_X2_copyFrom B 0 [some (.ref (b + 15)), some (.ref (b2 + 15))] [] _ _
  refine r_aload_n (pc := 0) dX2_copyFrom_0 rfl rfl ?_
  refine r_aload_n (pc := 1) dX2_copyFrom_1 rfl rfl ?_
  refine r_getfield (pc := 2) dX2_copyFrom_2 rfl f_RX2_9 (sH_far (i := 15) hd (by decide)) rfl ?_
  refine cs_put (i := 15) 102 (pc := 5) dX2_copyFrom_5 rfl f_RX2_9 (by decide) rfl (Nat.le_of_ble_eq_true rfl) rfl rfl ?_
  refine r_aload_n (pc := 8) dX2_copyFrom_8 rfl rfl ?_
  refine r_getfield (pc := 9) dX2_copyFrom_9 rfl f_RX2_15 (sH_far (i := 15) hd (by decide)) rfl ?_
  refine r_aload_n (pc := 12) dX2_copyFrom_12 rfl rfl ?_
  refine cs_get (i := 15) (pc := 13) dX2_copyFrom_13 rfl f_RX2_15 (by decide) rfl rfl ?_
  refine q_callSN (vs := [.ref _, .ref _]) (pc := 16) dX2_copyFrom_16 rfl l_RX2_19 rfl ⟨by decide, by decide⟩ rfl (Nat.le_of_ble_eq_true rfl) hl (Nat.le_of_ble_eq_true rfl) (s_copyRowB 16 (n := 15) hd (by decide) (by decide) rfl rfl rfl) sH_22 ?_
  exact r_return (S := []) (pc := 19) dX2_copyFrom_19 rfl ⟨rfl, rfl⟩
theorem s_X2_copyFrom17 {om : OM} {l : Launch} {B : Nat × Nat} {h0 : Hp} {b b2 : Nat} {C C2 : Nat → Int32} {W W2 : Nat → Int64} (hl : l.stackTraces = false) (hd : b + 19 ≤ b2 ∨ b2 + 19 ≤ b) : Runs om l M_X2_copyFrom B 0 (entL 2 [.ref (b + 17), .ref (b2 + 17)]) [] (sH ((sH h0 b2 C2 W2)) b C W) (Det (none) (sH ((sH h0 b2 C2 W2)) b (blk 18 C2 (upd C 118 (C2 118))) W)) := by
  show Runs om l M_X2_copyFrom B 0 [some (.ref (b + 17)), some (.ref (b2 + 17))] [] _ _
  refine r_aload_n (pc := 0) dX2_copyFrom_0 rfl rfl ?_
  refine r_aload_n (pc := 1) dX2_copyFrom_1 rfl rfl ?_
  refine r_getfield (pc := 2) dX2_copyFrom_2 rfl f_RX2_9 (sH_far (i := 17) hd (by decide)) rfl ?_
  refine cs_put (i := 17) 118 (pc := 5) dX2_copyFrom_5 rfl f_RX2_9 (by decide) rfl (Nat.le_of_ble_eq_true rfl) rfl rfl ?_
  refine r_aload_n (pc := 8) dX2_copyFrom_8 rfl rfl ?_
  refine r_getfield (pc := 9) dX2_copyFrom_9 rfl f_RX2_15 (sH_far (i := 17) hd (by decide)) rfl ?_
  refine r_aload_n (pc := 12) dX2_copyFrom_12 rfl rfl ?_
  refine cs_get (i := 17) (pc := 13) dX2_copyFrom_13 rfl f_RX2_15 (by decide) rfl rfl ?_
  refine q_callSN (vs := [.ref _, .ref _]) (pc := 16) dX2_copyFrom_16 rfl l_RX2_19 rfl ⟨by decide, by decide⟩ rfl (Nat.le_of_ble_eq_true rfl) hl (Nat.le_of_ble_eq_true rfl) (s_copyRowB 18 (n := 15) hd (by decide) (by decide) rfl rfl rfl) sH_22 ?_
  exact r_return (S := []) (pc := 19) dX2_copyFrom_19 rfl ⟨rfl, rfl⟩
theorem s_X3_copyFrom {om : OM} {l : Launch} {B : Nat × Nat} {h0 : Hp} {b b2 : Nat} {C C2 : Nat → Int32} {W W2 : Nat → Int64} (hl : l.stackTraces = false) (hd : b + 19 ≤ b2 ∨ b2 + 19 ≤ b) : Runs om l M_X3_copyFrom B 0 (entL 2 [.ref (b + 8), .ref (b2 + 8)]) [] (sH ((sH h0 b2 C2 W2)) b C W) (Det (none) (sH ((sH h0 b2 C2 W2)) b (blk 12 C2 (blk 11 C2 (blk 10 C2 (blk 9 C2 (upd C 41 (C2 41)))))) W)) := by
  show Runs om l M_X3_copyFrom B 0 [some (.ref (b + 8)), some (.ref (b2 + 8))] [] _ _
  refine r_aload_n (pc := 0) dX3_copyFrom_0 rfl rfl ?_
  refine r_aload_n (pc := 1) dX3_copyFrom_1 rfl rfl ?_
  refine r_getfield (pc := 2) dX3_copyFrom_2 rfl f_RX3_9 (sH_far (i := 8) hd (by decide)) rfl ?_
  refine cs_put (i := 8) 41 (pc := 5) dX3_copyFrom_5 rfl f_RX3_9 (by decide) rfl (Nat.le_of_ble_eq_true rfl) rfl rfl ?_
  refine r_aload_n (pc := 8) dX3_copyFrom_8 rfl rfl ?_
  refine r_getfield (pc := 9) dX3_copyFrom_9 rfl f_RX3_15 (sH_far (i := 8) hd (by decide)) rfl ?_
  refine r_aload_n (pc := 12) dX3_copyFrom_12 rfl rfl ?_
  refine cs_get (i := 8) (pc := 13) dX3_copyFrom_13 rfl f_RX3_15 (by decide) rfl rfl ?_
  refine q_callSN (vs := [.ref _, .ref _]) (pc := 16) dX3_copyFrom_16 rfl l_RX3_28 rfl ⟨by decide, by decide⟩ rfl (Nat.le_of_ble_eq_true rfl) hl (Nat.le_of_ble_eq_true rfl) (s_copyRowB 9 (n := 15) hd (by decide) (by decide) rfl rfl rfl) sH_22 ?_
  refine r_aload_n (pc := 19) dX3_copyFrom_19 rfl rfl ?_
  refine r_getfield (pc := 20) dX3_copyFrom_20 rfl f_RX3_19 (sH_far (i := 8) hd (by decide)) rfl ?_
  refine r_aload_n (pc := 23) dX3_copyFrom_23 rfl rfl ?_
  refine cs_get (i := 8) (pc := 24) dX3_copyFrom_24 rfl f_RX3_19 (by decide) rfl rfl ?_
  refine q_callSN (vs := [.ref _, .ref _]) (pc := 27) dX3_copyFrom_27 rfl l_RX3_28 rfl ⟨by decide, by decide⟩ rfl (Nat.le_of_ble_eq_true rfl) hl (Nat.le_of_ble_eq_true rfl) (s_copyRowB 10 (n := 15) hd (by decide) (by decide) rfl rfl rfl) sH_22 ?_
  refine r_aload_n (pc := 30) dX3_copyFrom_30 rfl rfl ?_
  refine r_getfield (pc := 31) dX3_copyFrom_31 rfl f_RX3_22 (sH_far (i := 8) hd (by decide)) rfl ?_
  refine r_aload_n (pc := 34) dX3_copyFrom_34 rfl rfl ?_
  refine cs_get (i := 8) (pc := 35) dX3_copyFrom_35 rfl f_RX3_22 (by decide) rfl rfl ?_
  refine q_callSN (vs := [.ref _, .ref _]) (pc := 38) dX3_copyFrom_38 rfl l_RX3_28 rfl ⟨by decide, by decide⟩ rfl (Nat.le_of_ble_eq_true rfl) hl (Nat.le_of_ble_eq_true rfl) (s_copyRowB 11 (n := 15) hd (by decide) (by decide) rfl rfl rfl) sH_22 ?_
  refine r_aload_n (pc := 41) dX3_copyFrom_41 rfl rfl ?_
  refine r_getfield (pc := 42) dX3_copyFrom_42 rfl f_RX3_25 (sH_far (i := 8) hd (by decide)) rfl ?_
  refine r_aload_n (pc := 45) dX3_copyFrom_45 rfl rfl ?_
  refine cs_get (i := 8) (pc := 46) dX3_copyFrom_46 rfl f_RX3_25 (by decide) rfl rfl ?_
  refine q_callSN (vs := [.ref _, .ref _]) (pc := 49) dX3_copyFrom_49 rfl l_RX3_28 rfl ⟨by decide, by decide⟩ rfl (Nat.le_of_ble_eq_true rfl) hl (Nat.le_of_ble_eq_true rfl) (s_copyRowB 12 (n := 15) hd (by decide) (by decide) rfl rfl rfl) sH_22 ?_
  exact r_return (S := []) (pc := 52) dX3_copyFrom_52 rfl ⟨rfl, rfl⟩
