
/-! the digest -/
def R_mx (h : Int64) (x : Int32) : Int64 := 31 * h + x.toInt64
def R_mixN (f : Nat → Int32) (k : Nat) (h : Int64) : Int64 := itN (fun j x => R_mx x (f j)) k h
theorem mixN_0 {f : Nat → Int32} {h : Int64} : R_mixN f 0 h = h := rfl
theorem mixN_s {f : Nat → Int32} {k : Nat} {h : Int64} : R_mixN f (k + 1) h = R_mx (R_mixN f k h) (f k) := by simp only [R_mixN, itN_s]
theorem rem6 (k : Nat) (hk : k < 2 ^ 31) : nI k - nI k / 6 * 6 = nI (k % 6) := by
  have h1 : nI k / 6 = nI (k / 6) := ndiv rfl rfl hk (by omega) (by omega)
  have h2 : nI k / 6 * 6 = nI (k / 6 * 6) := nmul h1 rfl
  rw [nsub rfl h2 (by omega)]
  congr 1
  omega
def R_pv (A : Nat → Int32) (k : Nat) : Int32 := if A 31 ≤ nI k then -1 else A (32 + k)
def R_ev (A : Nat → Int32) (j : Nat) : Int32 := R_echoOf A (j / 6) (j % 6) (nI (j % 6))
def R_dig (I A : Nat → Int32) (K4 K5 K41 L : Nat) : Int64 := R_mixN (fun j => A (146 + j)) 501 (R_mixN (R_pv A) L (R_mixN (R_ev A) (6 * K41) (R_mixN (fun j => R_angle A (nI j)) K5 (R_mixN (fun j => A (134 + j)) (2 * K4) (R_mixN (R_gauge A) 13 (R_mixN (fun j => A j) 24 (R_mx (R_mx 18907 (I 4)) (I 6))))))))
theorem lp_dg1 {om : OM} {l : Launch} {B : Nat × Nat} {h0 : Hp} {I : Nat → Int32} {J : Nat → Int64} {A a v t n : Nat → Int32} {Post : Out → Hp → Prop} (hl : l.stackTraces = false)  (hs : Int64) : ∀ (n9 k : Nat) (hh : Int64), k + n9 = 24 → hh = R_mixN (fun j => A j) k hs → Runs om l M_X11_digest B 52 [some (.ref 119), some (.int (nI 24))] [] (rH h0 I (updJ J 10 (R_mixN (fun j => A j) 24 hs)) A a v t n) Post → Runs om l M_X11_digest B 30 [some (.ref 119), some (.int (nI k))] [] (rH h0 I (updJ J 10 hh) A a v t n) Post := by
  intro n9
  induction n9 with
  | zero =>
    intro k hh hk e_hh KK
    have e9 : k = 24 := by omega
    subst e9
    refine r_iload_n (pc := 30) dX11_digest_30 rfl rfl ?_
    refine r_bipush (v := 24) (pc := 31) dX11_digest_31 (by decide) ?_
    refine r_icmp_ge 52 (pc := 33) dX11_digest_33 (by decide) (fun c33 => ?_) (fun c33 => absurd (c_get rfl rfl (a := 24) (b := 24) (by omega) (by omega) (by omega)) c33)
    subst e_hh
    exact KK
  | succ n9 ih =>
    intro k hh hk e_hh KK
    refine r_iload_n (pc := 30) dX11_digest_30 rfl rfl ?_
    refine r_bipush (v := 24) (pc := 31) dX11_digest_31 (by decide) ?_
    refine r_icmp_ge 52 (pc := 33) dX11_digest_33 (by decide) (fun c33 => absurd c33 (c_gef rfl rfl (a := k) (b := 24) (by omega) (by omega) (by omega))) (fun c33 => ?_)
    refine r_aload_n (pc := 36) dX11_digest_36 rfl rfl ?_
    refine r_aload_n (pc := 37) dX11_digest_37 rfl rfl ?_
    refine rs_get (pc := 38) dX11_digest_38 rfl f_RX11_7 rfl ?_
    refine r_iload_n (pc := 41) dX11_digest_41 rfl rfl ?_
    refine rs_ld (k) (pc := 42) dX11_digest_42 rfl (by omega) ?_
    refine rs_call (vs := [.int _]) (pc := 43) dX11_digest_43 rfl l_RX11_272 rfl rfl ⟨by decide, by decide⟩ rfl (Nat.le_of_ble_eq_true rfl) hl (Nat.le_of_ble_eq_true rfl) (s_X11_mixH _ _) rfl ?_
    refine q_iinc (nI (k + 1)) [_, _] (pc := 46) dX11_digest_46 rfl (by decide) (ninc 1 rfl) rfl ?_
    refine r_goto 30 (pc := 49) dX11_digest_49 (by decide) ?_
    exact ih (k + 1) _ (by omega) (by rw [mixN_s, ← e_hh]; rfl) KK
theorem lp_dg2 {om : OM} {l : Launch} {B : Nat × Nat} {h0 : Hp} {I : Nat → Int32} {J : Nat → Int64} {A a v t n : Nat → Int32} {Post : Out → Hp → Prop} (hl : l.stackTraces = false) (K : Nat) (hK : A 31 = nI K) (hK9 : K ≤ 9) (hs : Int64) : ∀ (n9 k : Nat) (hh : Int64), k + n9 = 13 → hh = R_mixN (R_gauge A) k hs → Runs om l M_X11_digest B 75 [some (.ref 119), some (.int (nI 13))] [] (rH h0 I (updJ J 10 (R_mixN (R_gauge A) 13 hs)) A a v t n) Post → Runs om l M_X11_digest B 54 [some (.ref 119), some (.int (nI k))] [] (rH h0 I (updJ J 10 hh) A a v t n) Post := by
  intro n9
  induction n9 with
  | zero =>
    intro k hh hk e_hh KK
    have e9 : k = 13 := by omega
    subst e9
    refine r_iload_n (pc := 54) dX11_digest_54 rfl rfl ?_
    refine r_bipush (v := 13) (pc := 55) dX11_digest_55 (by decide) ?_
    refine r_icmp_ge 75 (pc := 57) dX11_digest_57 (by decide) (fun c57 => ?_) (fun c57 => absurd (c_get rfl rfl (a := 13) (b := 13) (by omega) (by omega) (by omega)) c57)
    subst e_hh
    exact KK
  | succ n9 ih =>
    intro k hh hk e_hh KK
    refine r_iload_n (pc := 54) dX11_digest_54 rfl rfl ?_
    refine r_bipush (v := 13) (pc := 55) dX11_digest_55 (by decide) ?_
    refine r_icmp_ge 75 (pc := 57) dX11_digest_57 (by decide) (fun c57 => absurd c57 (c_gef rfl rfl (a := k) (b := 13) (by omega) (by omega) (by omega))) (fun c57 => ?_)
    refine r_aload_n (pc := 60) dX11_digest_60 rfl rfl ?_
    refine r_aload_n (pc := 61) dX11_digest_61 rfl rfl ?_
    refine r_iload_n (pc := 62) dX11_digest_62 rfl rfl ?_
    refine rs_call (vs := [.int _]) (pc := 63) dX11_digest_63 rfl l_RX11_197 rfl rfl ⟨by decide, by decide⟩ rfl (Nat.le_of_ble_eq_true rfl) hl (Nat.le_of_ble_eq_true rfl) (s_X11_gaugeOf hl k _ rfl (by omega) K hK hK9) rfl ?_
    refine rs_call (vs := [.int _]) (pc := 66) dX11_digest_66 rfl l_RX11_272 rfl rfl ⟨by decide, by decide⟩ rfl (Nat.le_of_ble_eq_true rfl) hl (Nat.le_of_ble_eq_true rfl) (s_X11_mixH _ _) rfl ?_
    refine q_iinc (nI (k + 1)) [_, _] (pc := 69) dX11_digest_69 rfl (by decide) (ninc 1 rfl) rfl ?_
    refine r_goto 54 (pc := 72) dX11_digest_72 (by decide) ?_
    exact ih (k + 1) _ (by omega) (by rw [mixN_s, ← e_hh]; rfl) KK
theorem lp_dg3 {om : OM} {l : Launch} {B : Nat × Nat} {h0 : Hp} {I : Nat → Int32} {J : Nat → Int64} {A a v t n : Nat → Int32} {Post : Out → Hp → Prop} (hl : l.stackTraces = false) (K4 E : Nat) (h4 : A 4 = nI K4) (hK4 : K4 ≤ 6) (hE : E = 2 * K4) (hs : Int64) : ∀ (n9 k : Nat) (hh : Int64), k + n9 = E → hh = R_mixN (fun j => A (134 + j)) k hs → Runs om l M_X11_digest B 109 [some (.ref 119), some (.int (nI E))] [] (rH h0 I (updJ J 10 (R_mixN (fun j => A (134 + j)) E hs)) A a v t n) Post → Runs om l M_X11_digest B 77 [some (.ref 119), some (.int (nI k))] [] (rH h0 I (updJ J 10 hh) A a v t n) Post := by
  intro n9
  induction n9 with
  | zero =>
    intro k hh hk e_hh KK
    have e9 : k = E := by omega
    refine r_iload_n (pc := 77) dX11_digest_77 rfl rfl ?_
    refine r_iconst (v := 2) (pc := 78) dX11_digest_78 (by decide) ?_
    refine r_aload_n (pc := 79) dX11_digest_79 rfl rfl ?_
    refine rs_get (pc := 80) dX11_digest_80 rfl f_RX11_7 rfl ?_
    refine r_iconst (v := 4) (pc := 83) dX11_digest_83 (by decide) ?_
    refine rs_ld (4) (pc := 84) dX11_digest_84 rfl (by omega) ?_
    refine r_imul (pc := 85) dX11_digest_85 ?_
    refine r_icmp_ge 109 (pc := 86) dX11_digest_86 (by decide) (fun c86 => ?_) (fun c86 => absurd (c_get rfl (nmul rfl h4) (a := k) (b := 2 * K4) (by omega) (by omega) (by omega)) c86)
    subst e9
    subst e_hh
    exact KK
  | succ n9 ih =>
    intro k hh hk e_hh KK
    refine r_iload_n (pc := 77) dX11_digest_77 rfl rfl ?_
    refine r_iconst (v := 2) (pc := 78) dX11_digest_78 (by decide) ?_
    refine r_aload_n (pc := 79) dX11_digest_79 rfl rfl ?_
    refine rs_get (pc := 80) dX11_digest_80 rfl f_RX11_7 rfl ?_
    refine r_iconst (v := 4) (pc := 83) dX11_digest_83 (by decide) ?_
    refine rs_ld (4) (pc := 84) dX11_digest_84 rfl (by omega) ?_
    refine r_imul (pc := 85) dX11_digest_85 ?_
    refine r_icmp_ge 109 (pc := 86) dX11_digest_86 (by decide) (fun c86 => absurd c86 (c_gef rfl (nmul rfl h4) (a := k) (b := 2 * K4) (by omega) (by omega) (by omega))) (fun c86 => ?_)
    refine r_aload_n (pc := 89) dX11_digest_89 rfl rfl ?_
    refine r_aload_n (pc := 90) dX11_digest_90 rfl rfl ?_
    refine rs_get (pc := 91) dX11_digest_91 rfl f_RX11_7 rfl ?_
    refine r_sipush (v := 134) (pc := 94) dX11_digest_94 (by decide) ?_
    refine r_iload_n (pc := 97) dX11_digest_97 rfl rfl ?_
    refine r_iadd (pc := 98) dX11_digest_98 ?_
    refine rs_ld (134 + k) (pc := 99) dX11_digest_99 (nadd rfl rfl) (by omega) ?_
    refine rs_call (vs := [.int _]) (pc := 100) dX11_digest_100 rfl l_RX11_272 rfl rfl ⟨by decide, by decide⟩ rfl (Nat.le_of_ble_eq_true rfl) hl (Nat.le_of_ble_eq_true rfl) (s_X11_mixH _ _) rfl ?_
    refine q_iinc (nI (k + 1)) [_, _] (pc := 103) dX11_digest_103 rfl (by decide) (ninc 1 rfl) rfl ?_
    refine r_goto 77 (pc := 106) dX11_digest_106 (by decide) ?_
    exact ih (k + 1) _ (by omega) (by rw [mixN_s, ← e_hh]; rfl) KK
theorem lp_dg4 {om : OM} {l : Launch} {B : Nat × Nat} {h0 : Hp} {I : Nat → Int32} {J : Nat → Int64} {A a v t n : Nat → Int32} {Post : Out → Hp → Prop} (hl : l.stackTraces = false) (K5 : Nat) (h5 : A 5 = nI K5) (hK5 : K5 ≤ 6) (hs : Int64) : ∀ (n9 k : Nat) (hh : Int64), k + n9 = K5 → hh = R_mixN (fun j => R_angle A (nI j)) k hs → Runs om l M_X11_digest B 136 [some (.ref 119), some (.int (nI K5))] [] (rH h0 I (updJ J 10 (R_mixN (fun j => R_angle A (nI j)) K5 hs)) A a v t n) Post → Runs om l M_X11_digest B 111 [some (.ref 119), some (.int (nI k))] [] (rH h0 I (updJ J 10 hh) A a v t n) Post := by
  intro n9
  induction n9 with
  | zero =>
    intro k hh hk e_hh KK
    have e9 : k = K5 := by omega
    refine r_iload_n (pc := 111) dX11_digest_111 rfl rfl ?_
    refine r_aload_n (pc := 112) dX11_digest_112 rfl rfl ?_
    refine rs_get (pc := 113) dX11_digest_113 rfl f_RX11_7 rfl ?_
    refine r_iconst (v := 5) (pc := 116) dX11_digest_116 (by decide) ?_
    refine rs_ld (5) (pc := 117) dX11_digest_117 rfl (by omega) ?_
    refine r_icmp_ge 136 (pc := 118) dX11_digest_118 (by decide) (fun c118 => ?_) (fun c118 => absurd (c_get rfl h5 (a := k) (b := K5) (by omega) (by omega) (by omega)) c118)
    subst e9
    subst e_hh
    exact KK
  | succ n9 ih =>
    intro k hh hk e_hh KK
    refine r_iload_n (pc := 111) dX11_digest_111 rfl rfl ?_
    refine r_aload_n (pc := 112) dX11_digest_112 rfl rfl ?_
    refine rs_get (pc := 113) dX11_digest_113 rfl f_RX11_7 rfl ?_
    refine r_iconst (v := 5) (pc := 116) dX11_digest_116 (by decide) ?_
    refine rs_ld (5) (pc := 117) dX11_digest_117 rfl (by omega) ?_
    refine r_icmp_ge 136 (pc := 118) dX11_digest_118 (by decide) (fun c118 => absurd c118 (c_gef rfl h5 (a := k) (b := K5) (by omega) (by omega) (by omega))) (fun c118 => ?_)
    refine r_aload_n (pc := 121) dX11_digest_121 rfl rfl ?_
    refine r_aload_n (pc := 122) dX11_digest_122 rfl rfl ?_
    refine r_iload_n (pc := 123) dX11_digest_123 rfl rfl ?_
    refine rs_call (vs := [.int _]) (pc := 124) dX11_digest_124 rfl l_RX11_56 rfl rfl ⟨by decide, by decide⟩ rfl (Nat.le_of_ble_eq_true rfl) hl (Nat.le_of_ble_eq_true rfl) (s_X11_angleOf _ (c_eqf h5 (b := 0) rfl (by omega) (by omega) (by omega))) rfl ?_
    refine rs_call (vs := [.int _]) (pc := 127) dX11_digest_127 rfl l_RX11_272 rfl rfl ⟨by decide, by decide⟩ rfl (Nat.le_of_ble_eq_true rfl) hl (Nat.le_of_ble_eq_true rfl) (s_X11_mixH _ _) rfl ?_
    refine q_iinc (nI (k + 1)) [_, _] (pc := 130) dX11_digest_130 rfl (by decide) (ninc 1 rfl) rfl ?_
    refine r_goto 111 (pc := 133) dX11_digest_133 (by decide) ?_
    exact ih (k + 1) _ (by omega) (by rw [mixN_s, ← e_hh]; rfl) KK
theorem lp_dg5 {om : OM} {l : Launch} {B : Nat × Nat} {h0 : Hp} {I : Nat → Int32} {J : Nat → Int64} {A a v t n : Nat → Int32} {Post : Out → Hp → Prop} (hl : l.stackTraces = false) (K41 E : Nat) (h41 : A 41 = nI K41) (hK41 : K41 ≤ 15) (hE : E = 6 * K41) (hs : Int64) : ∀ (n9 k : Nat) (hh : Int64), k + n9 = E → hh = R_mixN (R_ev A) k hs → Runs om l M_X11_digest B 174 [some (.ref 119), some (.int (nI E))] [] (rH h0 I (updJ J 10 (R_mixN (R_ev A) E hs)) A a v t n) Post → Runs om l M_X11_digest B 138 [some (.ref 119), some (.int (nI k))] [] (rH h0 I (updJ J 10 hh) A a v t n) Post := by
  intro n9
  induction n9 with
  | zero =>
    intro k hh hk e_hh KK
    have e9 : k = E := by omega
    refine r_iload_n (pc := 138) dX11_digest_138 rfl rfl ?_
    refine r_bipush (v := 6) (pc := 139) dX11_digest_139 (by decide) ?_
    refine r_aload_n (pc := 141) dX11_digest_141 rfl rfl ?_
    refine rs_get (pc := 142) dX11_digest_142 rfl f_RX11_7 rfl ?_
    refine r_bipush (v := 41) (pc := 145) dX11_digest_145 (by decide) ?_
    refine rs_ld (41) (pc := 147) dX11_digest_147 rfl (by omega) ?_
    refine r_imul (pc := 148) dX11_digest_148 ?_
    refine r_icmp_ge 174 (pc := 149) dX11_digest_149 (by decide) (fun c149 => ?_) (fun c149 => absurd (c_get rfl (nmul rfl h41) (a := k) (b := 6 * K41) (by omega) (by omega) (by omega)) c149)
    subst e9
    subst e_hh
    exact KK
  | succ n9 ih =>
    intro k hh hk e_hh KK
    refine r_iload_n (pc := 138) dX11_digest_138 rfl rfl ?_
    refine r_bipush (v := 6) (pc := 139) dX11_digest_139 (by decide) ?_
    refine r_aload_n (pc := 141) dX11_digest_141 rfl rfl ?_
    refine rs_get (pc := 142) dX11_digest_142 rfl f_RX11_7 rfl ?_
    refine r_bipush (v := 41) (pc := 145) dX11_digest_145 (by decide) ?_
    refine rs_ld (41) (pc := 147) dX11_digest_147 rfl (by omega) ?_
    refine r_imul (pc := 148) dX11_digest_148 ?_
    refine r_icmp_ge 174 (pc := 149) dX11_digest_149 (by decide) (fun c149 => absurd c149 (c_gef rfl (nmul rfl h41) (a := k) (b := 6 * K41) (by omega) (by omega) (by omega))) (fun c149 => ?_)
    refine r_aload_n (pc := 152) dX11_digest_152 rfl rfl ?_
    refine r_aload_n (pc := 153) dX11_digest_153 rfl rfl ?_
    refine r_iload_n (pc := 154) dX11_digest_154 rfl rfl ?_
    refine r_bipush (v := 6) (pc := 155) dX11_digest_155 (by decide) ?_
    refine r_idiv (pc := 157) dX11_digest_157 (by decide) ?_
    refine r_iload_n (pc := 158) dX11_digest_158 rfl rfl ?_
    refine r_bipush (v := 6) (pc := 159) dX11_digest_159 (by decide) ?_
    refine r_irem (pc := 161) dX11_digest_161 (by decide) ?_
    rw [rem6 k (by omega)]
    refine rs_call (vs := [.int _, .int _]) (pc := 162) dX11_digest_162 rfl l_RX11_194 rfl rfl ⟨by decide, by decide⟩ rfl (Nat.le_of_ble_eq_true rfl) hl (Nat.le_of_ble_eq_true rfl) (s_X11_echoOf (k / 6) (k % 6) _ _ (ndiv rfl rfl (by omega) (by omega) (by omega)) (by omega) rfl (by omega)) rfl ?_
    refine rs_call (vs := [.int _]) (pc := 165) dX11_digest_165 rfl l_RX11_272 rfl rfl ⟨by decide, by decide⟩ rfl (Nat.le_of_ble_eq_true rfl) hl (Nat.le_of_ble_eq_true rfl) (s_X11_mixH _ _) rfl ?_
    refine q_iinc (nI (k + 1)) [_, _] (pc := 168) dX11_digest_168 rfl (by decide) (ninc 1 rfl) rfl ?_
    refine r_goto 138 (pc := 171) dX11_digest_171 (by decide) ?_
    exact ih (k + 1) _ (by omega) (by rw [mixN_s, ← e_hh]; rfl) KK
theorem lp_dg6 {om : OM} {l : Launch} {B : Nat × Nat} {h0 : Hp} {I : Nat → Int32} {J : Nat → Int64} {A a v t n : Nat → Int32} {Post : Out → Hp → Prop} (hl : l.stackTraces = false) (K18 : Nat) (h18 : A 18 = nI K18) (hK18 : K18 ≤ 9) (hs : Int64) : ∀ (n9 k : Nat) (hh : Int64), k + n9 = K18 → hh = R_mixN (R_pv A) k hs → Runs om l M_X11_digest B 221 [some (.ref 119), some (.int (nI K18))] [] (rH h0 I (updJ J 10 (R_mixN (R_pv A) K18 hs)) A a v t n) Post → Runs om l M_X11_digest B 176 [some (.ref 119), some (.int (nI k))] [] (rH h0 I (updJ J 10 hh) A a v t n) Post := by
  intro n9
  induction n9 with
  | zero =>
    intro k hh hk e_hh KK
    have e9 : k = K18 := by omega
    refine r_iload_n (pc := 176) dX11_digest_176 rfl rfl ?_
    refine r_aload_n (pc := 177) dX11_digest_177 rfl rfl ?_
    refine rs_get (pc := 178) dX11_digest_178 rfl f_RX11_7 rfl ?_
    refine r_bipush (v := 18) (pc := 181) dX11_digest_181 (by decide) ?_
    refine rs_ld (18) (pc := 183) dX11_digest_183 rfl (by omega) ?_
    refine r_icmp_ge 221 (pc := 184) dX11_digest_184 (by decide) (fun c184 => ?_) (fun c184 => absurd (c_get rfl h18 (a := k) (b := K18) (by omega) (by omega) (by omega)) c184)
    subst e9
    subst e_hh
    exact KK
  | succ n9 ih =>
    intro k hh hk e_hh KK
    refine r_iload_n (pc := 176) dX11_digest_176 rfl rfl ?_
    refine r_aload_n (pc := 177) dX11_digest_177 rfl rfl ?_
    refine rs_get (pc := 178) dX11_digest_178 rfl f_RX11_7 rfl ?_
    refine r_bipush (v := 18) (pc := 181) dX11_digest_181 (by decide) ?_
    refine rs_ld (18) (pc := 183) dX11_digest_183 rfl (by omega) ?_
    refine r_icmp_ge 221 (pc := 184) dX11_digest_184 (by decide) (fun c184 => absurd c184 (c_gef rfl h18 (a := k) (b := K18) (by omega) (by omega) (by omega))) (fun c184 => ?_)
    refine r_aload_n (pc := 187) dX11_digest_187 rfl rfl ?_
    refine r_join 212 (R_pv A k) ?_ (fun J188 => ?_)
    · refine rs_call (vs := [.int _]) (pc := 212) dX11_digest_212 rfl l_RX11_272 rfl rfl ⟨by decide, by decide⟩ rfl (Nat.le_of_ble_eq_true rfl) hl (Nat.le_of_ble_eq_true rfl) (s_X11_mixH _ _) rfl ?_
      refine q_iinc (nI (k + 1)) [_, _] (pc := 215) dX11_digest_215 rfl (by decide) (ninc 1 rfl) rfl ?_
      refine r_goto 176 (pc := 218) dX11_digest_218 (by decide) ?_
      exact ih (k + 1) _ (by omega) (by rw [mixN_s, ← e_hh]; rfl) KK
    · refine r_iload_n (pc := 188) dX11_digest_188 rfl rfl ?_
      refine r_aload_n (pc := 189) dX11_digest_189 rfl rfl ?_
      refine rs_get (pc := 190) dX11_digest_190 rfl f_RX11_7 rfl ?_
      refine r_bipush (v := 31) (pc := 193) dX11_digest_193 (by decide) ?_
      refine rs_ld (31) (pc := 195) dX11_digest_195 rfl (by omega) ?_
      refine r_icmp_ge 211 (pc := 196) dX11_digest_196 (by decide) (fun c196 => ?_) (fun c196 => ?_)
      · refine r_iconst (v := (-1)) (pc := 211) dX11_digest_211 (by decide) ?_
        exact J188 _ (by rw [R_pv]; (repeat (first | rw [if_pos (by assumption)] | rw [if_neg (by assumption)])))
      · refine r_aload_n (pc := 199) dX11_digest_199 rfl rfl ?_
        refine rs_get (pc := 200) dX11_digest_200 rfl f_RX11_7 rfl ?_
        refine r_bipush (v := 32) (pc := 203) dX11_digest_203 (by decide) ?_
        refine r_iload_n (pc := 205) dX11_digest_205 rfl rfl ?_
        refine r_iadd (pc := 206) dX11_digest_206 ?_
        refine rs_ld (32 + k) (pc := 207) dX11_digest_207 (nadd rfl rfl) (by omega) ?_
        refine r_goto 212 (pc := 208) dX11_digest_208 (by decide) ?_
        exact J188 _ (by rw [R_pv]; (repeat (first | rw [if_pos (by assumption)] | rw [if_neg (by assumption)])))
theorem lp_dg7 {om : OM} {l : Launch} {B : Nat × Nat} {h0 : Hp} {I : Nat → Int32} {J : Nat → Int64} {A a v t n : Nat → Int32} {Post : Out → Hp → Prop} (hl : l.stackTraces = false)  (hs : Int64) : ∀ (n9 k : Nat) (hh : Int64), k + n9 = 501 → hh = R_mixN (fun j => A (146 + j)) k hs → Runs om l M_X11_digest B 250 [some (.ref 119), some (.int (nI 501))] [] (rH h0 I (updJ J 10 (R_mixN (fun j => A (146 + j)) 501 hs)) A a v t n) Post → Runs om l M_X11_digest B 223 [some (.ref 119), some (.int (nI k))] [] (rH h0 I (updJ J 10 hh) A a v t n) Post := by
  intro n9
  induction n9 with
  | zero =>
    intro k hh hk e_hh KK
    have e9 : k = 501 := by omega
    subst e9
    refine r_iload_n (pc := 223) dX11_digest_223 rfl rfl ?_
    refine r_sipush (v := 501) (pc := 224) dX11_digest_224 (by decide) ?_
    refine r_icmp_ge 250 (pc := 227) dX11_digest_227 (by decide) (fun c227 => ?_) (fun c227 => absurd (c_get rfl rfl (a := 501) (b := 501) (by omega) (by omega) (by omega)) c227)
    subst e_hh
    exact KK
  | succ n9 ih =>
    intro k hh hk e_hh KK
    refine r_iload_n (pc := 223) dX11_digest_223 rfl rfl ?_
    refine r_sipush (v := 501) (pc := 224) dX11_digest_224 (by decide) ?_
    refine r_icmp_ge 250 (pc := 227) dX11_digest_227 (by decide) (fun c227 => absurd c227 (c_gef rfl rfl (a := k) (b := 501) (by omega) (by omega) (by omega))) (fun c227 => ?_)
    refine r_aload_n (pc := 230) dX11_digest_230 rfl rfl ?_
    refine r_aload_n (pc := 231) dX11_digest_231 rfl rfl ?_
    refine rs_get (pc := 232) dX11_digest_232 rfl f_RX11_7 rfl ?_
    refine r_sipush (v := 146) (pc := 235) dX11_digest_235 (by decide) ?_
    refine r_iload_n (pc := 238) dX11_digest_238 rfl rfl ?_
    refine r_iadd (pc := 239) dX11_digest_239 ?_
    refine rs_ld (146 + k) (pc := 240) dX11_digest_240 (nadd rfl rfl) (by omega) ?_
    refine rs_call (vs := [.int _]) (pc := 241) dX11_digest_241 rfl l_RX11_272 rfl rfl ⟨by decide, by decide⟩ rfl (Nat.le_of_ble_eq_true rfl) hl (Nat.le_of_ble_eq_true rfl) (s_X11_mixH _ _) rfl ?_
    refine q_iinc (nI (k + 1)) [_, _] (pc := 244) dX11_digest_244 rfl (by decide) (ninc 1 rfl) rfl ?_
    refine r_goto 223 (pc := 247) dX11_digest_247 (by decide) ?_
    exact ih (k + 1) _ (by omega) (by rw [mixN_s, ← e_hh]; rfl) KK
theorem s_X11_digest {om : OM} {l : Launch} {B : Nat × Nat} {h0 : Hp} {I : Nat → Int32} {J : Nat → Int64} {A a v t n : Nat → Int32} (hl : l.stackTraces = false) (K31 K4 K5 K41 K18 : Nat) (h31 : A 31 = nI K31) (hK31 : K31 ≤ 9) (h4 : A 4 = nI K4) (hK4 : K4 ≤ 6) (h5 : A 5 = nI K5) (hK5 : K5 ≤ 6) (h41 : A 41 = nI K41) (hK41 : K41 ≤ 15) (h18 : A 18 = nI K18) (hK18 : K18 ≤ 9) : Runs om l M_X11_digest B 0 (entL 2 [.ref 119]) [] (rH h0 I J A a v t n) (Det (some (.long (R_dig I A K4 K5 K41 K18))) (rH h0 (upd I 0 0) (updJ J 10 (R_dig I A K4 K5 K41 K18)) A a v t n)) := by
  show Runs om l M_X11_digest B 0 [some (.ref 119), none] [] _ _
  refine r_aload_n (pc := 0) dX11_digest_0 rfl rfl ?_
  refine r_iconst (v := 0) (pc := 1) dX11_digest_1 (by decide) ?_
  refine rs_putI _ (pc := 2) dX11_digest_2 rfl f_RX11_30 (by decide) (mfs_0 _) ?_
  refine r_aload_n (pc := 5) dX11_digest_5 rfl rfl ?_
  refine r_ldc2 (pc := 6) dX11_digest_6 rfl k_RX11_270 ?_
  refine rs_putJ _ (pc := 9) dX11_digest_9 rfl f_RX11_267 (by decide) (mfs_10 _) ?_
  refine r_aload_n (pc := 12) dX11_digest_12 rfl rfl ?_
  refine r_aload_n (pc := 13) dX11_digest_13 rfl rfl ?_
  refine rs_get (pc := 14) dX11_digest_14 rfl f_RX11_34 rfl ?_
  refine rs_call (vs := [.int _]) (pc := 17) dX11_digest_17 rfl l_RX11_272 rfl rfl ⟨by decide, by decide⟩ rfl (Nat.le_of_ble_eq_true rfl) hl (Nat.le_of_ble_eq_true rfl) (s_X11_mixH _ _) rfl ?_
  refine r_aload_n (pc := 20) dX11_digest_20 rfl rfl ?_
  refine r_aload_n (pc := 21) dX11_digest_21 rfl rfl ?_
  refine rs_get (pc := 22) dX11_digest_22 rfl f_RX11_211 rfl ?_
  refine rs_call (vs := [.int _]) (pc := 25) dX11_digest_25 rfl l_RX11_272 rfl rfl ⟨by decide, by decide⟩ rfl (Nat.le_of_ble_eq_true rfl) hl (Nat.le_of_ble_eq_true rfl) (s_X11_mixH _ _) rfl ?_
  refine r_iconst (v := 0) (pc := 28) dX11_digest_28 (by decide) ?_
  refine q_istore_n [_, _] (pc := 29) dX11_digest_29 rfl (by decide) rfl ?_
  refine lp_dg1 hl _ 24 0 _ (by omega) (by rw [mixN_0]) ?_
  refine r_iconst (v := 0) (pc := 52) dX11_digest_52 (by decide) ?_
  refine q_istore_n [_, _] (pc := 53) dX11_digest_53 rfl (by decide) rfl ?_
  refine lp_dg2 hl K31 h31 hK31 _ 13 0 _ (by omega) (by rw [mixN_0]) ?_
  refine r_iconst (v := 0) (pc := 75) dX11_digest_75 (by decide) ?_
  refine q_istore_n [_, _] (pc := 76) dX11_digest_76 rfl (by decide) rfl ?_
  refine lp_dg3 hl K4 (2 * K4) h4 hK4 rfl _ (2 * K4) 0 _ (by omega) (by rw [mixN_0]) ?_
  refine r_iconst (v := 0) (pc := 109) dX11_digest_109 (by decide) ?_
  refine q_istore_n [_, _] (pc := 110) dX11_digest_110 rfl (by decide) rfl ?_
  refine lp_dg4 hl K5 h5 hK5 _ K5 0 _ (by omega) (by rw [mixN_0]) ?_
  refine r_iconst (v := 0) (pc := 136) dX11_digest_136 (by decide) ?_
  refine q_istore_n [_, _] (pc := 137) dX11_digest_137 rfl (by decide) rfl ?_
  refine lp_dg5 hl K41 (6 * K41) h41 hK41 rfl _ (6 * K41) 0 _ (by omega) (by rw [mixN_0]) ?_
  refine r_iconst (v := 0) (pc := 174) dX11_digest_174 (by decide) ?_
  refine q_istore_n [_, _] (pc := 175) dX11_digest_175 rfl (by decide) rfl ?_
  refine lp_dg6 hl K18 h18 hK18 _ K18 0 _ (by omega) (by rw [mixN_0]) ?_
  refine r_iconst (v := 0) (pc := 221) dX11_digest_221 (by decide) ?_
  refine q_istore_n [_, _] (pc := 222) dX11_digest_222 rfl (by decide) rfl ?_
  refine lp_dg7 hl _ 501 0 _ (by omega) (by rw [mixN_0]) ?_
  refine r_aload_n (pc := 250) dX11_digest_250 rfl rfl ?_
  refine rs_get (pc := 251) dX11_digest_251 rfl f_RX11_267 rfl ?_
  exact r_lreturn (S := []) (pc := 254) dX11_digest_254 rfl ⟨by rw [updJ_s]; rfl, rfl⟩
