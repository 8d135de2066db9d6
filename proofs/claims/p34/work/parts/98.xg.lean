/-! the law's checks behind a deed -/
theorem gau_0 {A : Nat → Int32} : R_gauge A 0 = A 24 := rfl
theorem gau_1 {A : Nat → Int32} : R_gauge A 1 = A 25 := rfl
theorem gau_2 {A : Nat → Int32} : R_gauge A 2 = A 26 := rfl
theorem gau_3 {A : Nat → Int32} : R_gauge A 3 = R_gl A := rfl
theorem gau_5 {A : Nat → Int32} : R_gauge A 5 = A 28 := rfl
theorem gau_6 {A : Nat → Int32} : R_gauge A 6 = R_mkd A 501 := rfl
theorem gau_7 {A : Nat → Int32} : R_gauge A 7 = A 41 := rfl
theorem gau_8 {A : Nat → Int32} : R_gauge A 8 = A 31 := rfl
theorem gau_9 {A : Nat → Int32} : R_gauge A 9 = R_kp A (cl (A 31)) := rfl
theorem eo_1 {A : Nat → Int32} {k : Nat} : R_echoOf A k 1 (nI 1) = A (42 + 4 * k + 1) := if_neg (by decide)
theorem eo_2 {A : Nat → Int32} {k : Nat} : R_echoOf A k 2 (nI 2) = A (42 + 4 * k + 2) := if_neg (by decide)
def eb (A : Nat → Int32) (k q : Nat) : Int32 := R_echoOf A k q (nI q)
theorem eb_m {A : Nat → Int32} {k : Nat} (h : M4 (A (42 + 4 * k + 3))) : (A (42 + 4 * k + 3) = 0 ∧ eb A k 3 = 0 ∧ eb A k 4 = 0 ∧ eb A k 5 = 0) ∨ (A (42 + 4 * k + 3) = 1 ∧ eb A k 3 = 1 ∧ eb A k 4 = 0 ∧ eb A k 5 = 0) ∨ (A (42 + 4 * k + 3) = 3 ∧ eb A k 3 = 1 ∧ eb A k 4 = 1 ∧ eb A k 5 = 0) ∨ (A (42 + 4 * k + 3) = 5 ∧ eb A k 3 = 1 ∧ eb A k 4 = 0 ∧ eb A k 5 = 1) := by
  have e : ∀ q, (q = 3 ∨ q = 4 ∨ q = 5) → eb A k q = (A (42 + 4 * k + 3) >>> (R_sft (nI q) &&& 31)) &&& 1 := fun q hq => by
    unfold eb R_echoOf
    rcases hq with rfl | rfl | rfl <;> exact if_pos (by decide)
  rw [e 3 (by omega), e 4 (by omega), e 5 (by omega)]
  rcases h with h | h | h | h <;> rw [h] <;> decide
/-- picked so far -/
def P5 (A : Nat → Int32) : Nat → Int32
  | 0 => 0
  | k + 1 => P5 A k + eb A k 5
theorem P5_ex {A : Nat → Int32} {n : Nat} (hM : ∀ e, e < n → M4 (A (42 + 4 * e + 3))) (hU : U5 n A) (k : Nat) : k ≤ n → P5 A k = 0 ∨ (P5 A k = 1 ∧ ∃ e, e < k ∧ A (42 + 4 * e + 3) = 5) := by
  induction k with
  | zero => exact fun _ => Or.inl rfl
  | succ k ih =>
    intro hk
    have ek : P5 A (k + 1) = P5 A k + eb A k 5 := rfl
    rw [ek]
    have i := ih (by omega)
    have z : eb A k 5 = 0 ∨ (eb A k 5 = 1 ∧ A (42 + 4 * k + 3) = 5) := by
      rcases eb_m (hM k (by omega)) with h | h | h | h
      · exact Or.inl h.2.2.2
      · exact Or.inl h.2.2.2
      · exact Or.inl h.2.2.2
      · exact Or.inr ⟨h.2.2.2, h.1⟩
    rcases z with z | ⟨z, z5⟩
    · rw [z, Int32.add_zero]
      rcases i with i | ⟨i, e, he, i5⟩
      · exact Or.inl i
      · exact Or.inr ⟨i, e, by omega, i5⟩
    · rcases i with i | ⟨i, e, he, i5⟩
      · rw [i, z]
        exact Or.inr ⟨by decide, k, by omega, z5⟩
      · exact absurd (hU e k (by omega) (by omega) i5 z5) (by omega)
section LK
variable {om : OM} {l : Launch} {B : Nat × Nat} {g : Hp} {C : Nat → Int32} {W : Nat → Int64} {S : Nat → Nat → Int32} {V : Nat → Nat → Int64} {p c : Nat} {A : Nat → Int32}
theorem qg (hl : l.stackTraces = false) (hA : AG C W A) (o : OKA A) (x : Int32) (k : Nat) (hx : x = nI k) (hk : k ≤ 12) {r : Int32} (hr : R_gauge A k = r) : Runs om l M_X10_gauge B 0 (entL 3 [.ref 0, .int x]) [] (EW g C W S V p c) (Det (some (.int r)) (EW g C W S V p c)) := by
  rw [← hr]
  exact qs_gauge hl hA o x k hx hk
theorem qe (hl : l.stackTraces = false) (hA : AG C W A) (o : OKA A) (x y : Int32) (k q K : Nat) (hx : x = nI k) (hy : y = nI q) (hq : q ≤ 5) (hK : A 41 = nI K) (hK15 : K ≤ 15) (hk : k < K) {r : Int32} (hr : R_echoOf A k q (nI q) = r) : Runs om l M_X10_echo B 0 (entL 3 [.ref 0, .int x, .int y]) [] (EW g C W S V p c) (Det (some (.int r)) (EW g C W S V p c)) := by
  rw [← hr]
  exact qs_echo hl hA o x y k q K hx hy hq hK hK15 hk
theorem qt0 (hl : l.stackTraces = false) (hA : AG C W A) (x : Int32) (hx : x = nI 0) : Runs om l M_X10_tank B 0 (entL 3 [.ref 0, .int x]) [] (EW g C W S V p c) (Det (some (.int (A 0))) (EW g C W S V p c)) := by
  rw [← hA.1.lo (j := 0) (by omega)]
  exact qs_tank hl x 0 hx (by omega)
theorem qn (hl : l.stackTraces = false) (hA : AG C W A) (d : Int32) (x : Nat) (hd : d = nI x) (hx : x ≤ 10000) : Runs om l M_X10_need B 0 (entL 2 [.ref 0, .int d]) [] (EW g C W S V p c) (Det (some (.int (R_need A (nI x)))) (EW g C W S V p c)) := by
  rw [← hd]
  exact qs_need hl hA d x hd hx
end LK
theorem oe_lt {A : Nat → Int32} {a b : Nat} (h : OE A a b) : ¬ A (42 + 4 * b + 1) < A (42 + 4 * a + 1) := by
  intro z
  have z2 := Int32.lt_iff_toInt_lt.mp z
  unfold OE DE SE at h
  omega
theorem oe_le {A : Nat → Int32} {a b : Nat} (h : OE A a b) (e : A (42 + 4 * b + 1) = A (42 + 4 * a + 1)) : A (42 + 4 * b + 2) ≤ A (42 + 4 * a + 2) := by
  rw [Int32.le_iff_toInt_le]
  unfold OE DE SE at h
  have e2 := congrArg Int32.toInt e
  omega
theorem eb_le {A : Nat → Int32} {k : Nat} (h : M4 (A (42 + 4 * k + 3))) : eb A k 5 + eb A k 4 ≤ eb A k 3 := by
  rcases eb_m h with ⟨-, a, b, d⟩ | ⟨-, a, b, d⟩ | ⟨-, a, b, d⟩ | ⟨-, a, b, d⟩ <;> rw [a, b, d] <;> decide
theorem eb3 {A : Nat → Int32} {k : Nat} (h : M4 (A (42 + 4 * k + 3))) : (A (42 + 4 * k + 3) = 0 → eb A k 3 = 0) ∧ (¬ A (42 + 4 * k + 3) = 0 → eb A k 3 = 1) := by
  rcases eb_m h with ⟨m, a, -, -⟩ | ⟨m, a, -, -⟩ | ⟨m, a, -, -⟩ | ⟨m, a, -, -⟩ <;> rw [m, a] <;> exact ⟨by decide, by decide⟩
theorem eb5 {A : Nat → Int32} {k : Nat} (h : M4 (A (42 + 4 * k + 3))) (e : eb A k 5 = 1) : A (42 + 4 * k + 3) = 5 := by
  rcases eb_m h with ⟨m, -, -, a⟩ | ⟨m, -, -, a⟩ | ⟨m, -, -, a⟩ | ⟨m, -, -, a⟩
  · rw [a] at e; exact absurd e (by decide)
  · rw [a] at e; exact absurd e (by decide)
  · rw [a] at e; exact absurd e (by decide)
  · exact m
/-- a candidate by what is asked -/
theorem cd_1 {A : Nat → Int32} {k : Nat} (h : A 0 < A (42 + 4 * k + 1)) : R_cand A (42 + 4 * k) = 0 := by
  unfold R_cand
  rw [if_pos h]
theorem cd_2 {A : Nat → Int32} {k t : Nat} (hd : A (42 + 4 * k + 1) = nI t) (ht : t ≤ 10000) (h : ¬ R_isM A t = 0) : R_cand A (42 + 4 * k) = 0 := by
  unfold R_cand
  have h1 : A (146 + t / 20) = 1 := by
    refine Classical.byContradiction fun z => h ?_
    unfold R_isM
    rw [if_neg z]
  rw [hd, cl_nI rfl (by omega), h1]
  split
  · rfl
  · exact if_neg (by decide)
theorem cd_3 {A : Nat → Int32} {k t : Nat} (hd : A (42 + 4 * k + 1) = nI t) (h : A (42 + 4 * k + 2) < R_need A (nI t)) : R_cand A (42 + 4 * k) = 0 := by
  unfold R_cand
  rw [hd]
  by_cases a : A 0 < nI t
  · rw [if_pos a]
  · rw [if_neg a]
    by_cases b : A (146 + cl (nI t) / 20) = 0
    · rw [if_pos b, if_pos h]
    · rw [if_neg b]
theorem cd_4 {A : Nat → Int32} {k t : Nat} (hB : B01 A) (hd : A (42 + 4 * k + 1) = nI t) (ht : t ≤ 10000) (h0 : ¬ A 0 < A (42 + 4 * k + 1)) (h : R_isM A t = 0) (h3 : ¬ A (42 + 4 * k + 2) < R_need A (nI t)) : ¬ R_cand A (42 + 4 * k) = 0 := by
  have h1 : A (146 + t / 20) = 0 := by
    rcases hB (t / 20) (by omega) with z | z
    · exact z
    · unfold R_isM at h
      rw [if_pos z] at h
      exact absurd h (by decide)
  unfold R_cand
  rw [if_neg h0, hd, cl_nI rfl (by omega), if_pos h1, if_neg h3]
  decide
abbrev LL (sv e v sh sn : Int32) (was : Int64) (got pd k d : Int32) : List (Option Value) := [some (.ref 100000), some (.ref 0), some (.int sv), some (.int e), some (.int v), some (.int sh), some (.int sn), some (.long was), none, some (.int got), some (.int pd), some (.int k), some (.int d)]
section LE
variable {om : OM} {l : Launch} {B : Nat × Nat} {g : Hp} {C : Nat → Int32} {W : Nat → Int64} {S : Nat → Nat → Int32} {V : Nat → Nat → Int64} {p c : Nat} {A : Nat → Int32} {sv e v sh sn got pd : Int32} {was : Int64} {k K : Nat} {Post : Out → Hp → Prop}
theorem seg_A (hl : l.stackTraces = false) (hA : AG C W A) (o : OKA A) (h41 : A 41 = nI K) (hK : K ≤ 15) (hk : k < K) (hS : SOp K A) (KK : Runs om l M_L_law B 200 (LL sv e v sh sn was got pd (nI k) (A (42 + 4 * k + 1))) [] (EW g C W S V p c) Post) : Runs om l M_L_law B 146 (LL sv e v sh sn was got pd (nI k) (A (42 + 4 * k + 1))) [] (EW g C W S V p c) Post := by
  by_cases k0 : k = 0
  · refine r_iload (pc := 146) dL_law_146 rfl ?_
    refine r_if_le 200 (pc := 148) dL_law_148 (by decide) (fun c148 => ?_) (fun c148 => absurd (c_let rfl rfl (a := k) (b := 0) (by omega) (by omega) (by omega)) c148)
    exact KK
  · have oe : OE A (k - 1) k := hS (k - 1) k (by omega) hk
    refine r_iload (pc := 146) dL_law_146 rfl ?_
    refine r_if_le 200 (pc := 148) dL_law_148 (by decide) (fun c148 => absurd c148 (c_lef rfl rfl (a := k) (b := 0) (by omega) (by omega) (by omega))) (fun c148 => ?_)
    refine r_iload (pc := 151) dL_law_151 rfl ?_
    refine r_aload_n (pc := 153) dL_law_153 rfl rfl ?_
    refine r_iload (pc := 154) dL_law_154 rfl ?_
    refine r_iconst (v := 1) (pc := 156) dL_law_156 (by decide) ?_
    refine r_isub (pc := 157) dL_law_157 ?_
    refine r_iconst (v := 1) (pc := 158) dL_law_158 (by decide) ?_
    refine q_callV (ci := 8) (T := TX10) (N := 6) (vs := [.int _, .int _]) (pc := 159) dL_law_159 rfl l_RL_79 rfl ⟨by decide, by decide⟩ rfl (Nat.le_of_ble_eq_true rfl) hl EW_0 rfl (Nat.le_of_ble_eq_true rfl) (qe hl hA o _ _ (k - 1) 1 K (nsub rfl rfl (by omega)) rfl (by omega) h41 hK (by omega) eo_1) rfl ?_
    refine r_icmp_lt 198 (pc := 162) dL_law_162 (by decide) (fun c162 => absurd c162 (oe_lt oe)) (fun c162 => ?_)
    refine r_iload (pc := 165) dL_law_165 rfl ?_
    refine r_aload_n (pc := 167) dL_law_167 rfl rfl ?_
    refine r_iload (pc := 168) dL_law_168 rfl ?_
    refine r_iconst (v := 1) (pc := 170) dL_law_170 (by decide) ?_
    refine r_isub (pc := 171) dL_law_171 ?_
    refine r_iconst (v := 1) (pc := 172) dL_law_172 (by decide) ?_
    refine q_callV (ci := 8) (T := TX10) (N := 6) (vs := [.int _, .int _]) (pc := 173) dL_law_173 rfl l_RL_79 rfl ⟨by decide, by decide⟩ rfl (Nat.le_of_ble_eq_true rfl) hl EW_0 rfl (Nat.le_of_ble_eq_true rfl) (qe hl hA o _ _ (k - 1) 1 K (nsub rfl rfl (by omega)) rfl (by omega) h41 hK (by omega) eo_1) rfl ?_
    refine r_icmp_ne 200 (pc := 176) dL_law_176 (by decide) (fun c176 => ?_) (fun c176 => ?_)
    · exact KK
    · refine r_aload_n (pc := 179) dL_law_179 rfl rfl ?_
      refine r_iload (pc := 180) dL_law_180 rfl ?_
      refine r_iconst (v := 2) (pc := 182) dL_law_182 (by decide) ?_
      refine q_callV (ci := 8) (T := TX10) (N := 6) (vs := [.int _, .int _]) (pc := 183) dL_law_183 rfl l_RL_79 rfl ⟨by decide, by decide⟩ rfl (Nat.le_of_ble_eq_true rfl) hl EW_0 rfl (Nat.le_of_ble_eq_true rfl) (qe hl hA o _ _ (k) 2 K rfl rfl (by omega) h41 hK (by omega) eo_2) rfl ?_
      refine r_aload_n (pc := 186) dL_law_186 rfl rfl ?_
      refine r_iload (pc := 187) dL_law_187 rfl ?_
      refine r_iconst (v := 1) (pc := 189) dL_law_189 (by decide) ?_
      refine r_isub (pc := 190) dL_law_190 ?_
      refine r_iconst (v := 2) (pc := 191) dL_law_191 (by decide) ?_
      refine q_callV (ci := 8) (T := TX10) (N := 6) (vs := [.int _, .int _]) (pc := 192) dL_law_192 rfl l_RL_79 rfl ⟨by decide, by decide⟩ rfl (Nat.le_of_ble_eq_true rfl) hl EW_0 rfl (Nat.le_of_ble_eq_true rfl) (qe hl hA o _ _ (k - 1) 2 K (nsub rfl rfl (by omega)) rfl (by omega) h41 hK (by omega) eo_2) rfl ?_
      refine r_icmp_le 200 (pc := 195) dL_law_195 (by decide) (fun c195 => ?_) (fun c195 => absurd (oe_le oe c176) c195)
      exact KK
theorem seg_B (hl : l.stackTraces = false) (hA : AG C W A) (o : OKA A) (h41 : A 41 = nI K) (hK : K ≤ 15) (hk : k < K) (hM : M4 (A (42 + 4 * k + 3))) (KK : Runs om l M_L_law B 239 (LL sv e v sh sn was got (pd + eb A k 5) (nI k) (A (42 + 4 * k + 1))) [] (EW g C W S V p c) Post) : Runs om l M_L_law B 200 (LL sv e v sh sn was got pd (nI k) (A (42 + 4 * k + 1))) [] (EW g C W S V p c) Post := by
  refine r_iload (pc := 200) dL_law_200 rfl ?_
  refine r_aload_n (pc := 202) dL_law_202 rfl rfl ?_
  refine r_iload (pc := 203) dL_law_203 rfl ?_
  refine r_iconst (v := 5) (pc := 205) dL_law_205 (by decide) ?_
  refine q_callV (ci := 8) (T := TX10) (N := 6) (vs := [.int _, .int _]) (pc := 206) dL_law_206 rfl l_RL_79 rfl ⟨by decide, by decide⟩ rfl (Nat.le_of_ble_eq_true rfl) hl EW_0 rfl (Nat.le_of_ble_eq_true rfl) (qe hl hA o _ _ (k) 5 K rfl rfl (by omega) h41 hK (by omega) (r := eb A k 5) rfl) rfl ?_
  refine r_iadd (pc := 209) dL_law_209 ?_
  refine q_istore [_, _, _, _, _, _, _, _, _, _, _, _, _] (pc := 210) dL_law_210 (by decide) rfl ?_
  refine r_aload_n (pc := 212) dL_law_212 rfl rfl ?_
  refine r_iload (pc := 213) dL_law_213 rfl ?_
  refine r_iconst (v := 5) (pc := 215) dL_law_215 (by decide) ?_
  refine q_callV (ci := 8) (T := TX10) (N := 6) (vs := [.int _, .int _]) (pc := 216) dL_law_216 rfl l_RL_79 rfl ⟨by decide, by decide⟩ rfl (Nat.le_of_ble_eq_true rfl) hl EW_0 rfl (Nat.le_of_ble_eq_true rfl) (qe hl hA o _ _ (k) 5 K rfl rfl (by omega) h41 hK (by omega) (r := eb A k 5) rfl) rfl ?_
  refine r_aload_n (pc := 219) dL_law_219 rfl rfl ?_
  refine r_iload (pc := 220) dL_law_220 rfl ?_
  refine r_iconst (v := 4) (pc := 222) dL_law_222 (by decide) ?_
  refine q_callV (ci := 8) (T := TX10) (N := 6) (vs := [.int _, .int _]) (pc := 223) dL_law_223 rfl l_RL_79 rfl ⟨by decide, by decide⟩ rfl (Nat.le_of_ble_eq_true rfl) hl EW_0 rfl (Nat.le_of_ble_eq_true rfl) (qe hl hA o _ _ (k) 4 K rfl rfl (by omega) h41 hK (by omega) (r := eb A k 4) rfl) rfl ?_
  refine r_iadd (pc := 226) dL_law_226 ?_
  refine r_aload_n (pc := 227) dL_law_227 rfl rfl ?_
  refine r_iload (pc := 228) dL_law_228 rfl ?_
  refine r_iconst (v := 3) (pc := 230) dL_law_230 (by decide) ?_
  refine q_callV (ci := 8) (T := TX10) (N := 6) (vs := [.int _, .int _]) (pc := 231) dL_law_231 rfl l_RL_79 rfl ⟨by decide, by decide⟩ rfl (Nat.le_of_ble_eq_true rfl) hl EW_0 rfl (Nat.le_of_ble_eq_true rfl) (qe hl hA o _ _ (k) 3 K rfl rfl (by omega) h41 hK (by omega) (r := eb A k 3) rfl) rfl ?_
  refine r_icmp_le 239 (pc := 234) dL_law_234 (by decide) (fun c234 => ?_) (fun c234 => absurd (eb_le hM) c234)
  exact KK
theorem seg_C0 (hl : l.stackTraces = false) (hA : AG C W A) (o : OKA A) (h41 : A 41 = nI K) (hK : K ≤ 15) (hk : k < K) (KK : Runs om l M_L_law B 324 (LL sv e v 0 sn was got pd (nI k) (A (42 + 4 * k + 1))) [] (EW g C W S V p c) Post) : Runs om l M_L_law B 239 (LL sv e v 0 sn was got pd (nI k) (A (42 + 4 * k + 1))) [] (EW g C W S V p c) Post := by
  refine r_iload (pc := 239) dL_law_239 rfl ?_
  refine r_if_eq 324 (pc := 241) dL_law_241 (by decide) (fun c241 => ?_) (fun c241 => absurd (c_eqt rfl rfl (a := 0) (b := 0) (by omega) (by omega) (by omega)) c241)
  exact KK
theorem seg_C1 (hl : l.stackTraces = false) (hA : AG C W A) (o : OKA A) (h41 : A 41 = nI K) (hK : K ≤ 15) (hk : k < K) (hM : M4 (A (42 + 4 * k + 3))) (hF : SF A) (KK : Runs om l M_L_law B 324 (LL sv e v 1 sn was got pd (nI k) (A (42 + 4 * k + 1))) [] (EW g C W S V p c) Post) : Runs om l M_L_law B 239 (LL sv e v 1 sn was got pd (nI k) (A (42 + 4 * k + 1))) [] (EW g C W S V p c) Post := by
  have m0 : A (42 + 4 * k + 3) = 0 ↔ R_cand A (42 + 4 * k) = 0 := (hF.1 k (by rw [cl_nI h41 (by omega)]; exact hk)).1.1
  have d0 : 0 ≤ A (42 + 4 * k + 1) := (hF.1 k (by rw [cl_nI h41 (by omega)]; exact hk)).2
  have no : R_cand A (42 + 4 * k) = 0 → eb A k 3 = 0 := fun z => (eb3 hM).1 (m0.mpr z)
  have ye : ¬ R_cand A (42 + 4 * k) = 0 → eb A k 3 = 1 := fun z => (eb3 hM).2 (fun y => z (m0.mp y))
  by_cases hH : A 0 < A (42 + 4 * k + 1)
  · refine r_iload (pc := 239) dL_law_239 rfl ?_
    refine r_if_eq 324 (pc := 241) dL_law_241 (by decide) (fun c241 => absurd c241 (c_eqf rfl rfl (a := 1) (b := 0) (by omega) (by omega) (by omega))) (fun c241 => ?_)
    refine r_aload_n (pc := 244) dL_law_244 rfl rfl ?_
    refine r_iload (pc := 245) dL_law_245 rfl ?_
    refine r_iconst (v := 3) (pc := 247) dL_law_247 (by decide) ?_
    refine q_callV (ci := 8) (T := TX10) (N := 6) (vs := [.int _, .int _]) (pc := 248) dL_law_248 rfl l_RL_79 rfl ⟨by decide, by decide⟩ rfl (Nat.le_of_ble_eq_true rfl) hl EW_0 rfl (Nat.le_of_ble_eq_true rfl) (qe hl hA o _ _ (k) 3 K rfl rfl (by omega) h41 hK (by omega) (r := eb A k 3) rfl) rfl ?_
    refine r_iload (pc := 251) dL_law_251 rfl ?_
    refine r_aload_n (pc := 253) dL_law_253 rfl rfl ?_
    refine r_iconst (v := 0) (pc := 254) dL_law_254 (by decide) ?_
    refine q_callV (ci := 8) (T := TX10) (N := 6) (vs := [.int _]) (pc := 255) dL_law_255 rfl l_RL_8 rfl ⟨by decide, by decide⟩ rfl (Nat.le_of_ble_eq_true rfl) hl EW_0 rfl (Nat.le_of_ble_eq_true rfl) (qt0 hl hA _ rfl) rfl ?_
    refine r_icmp_gt 318 (pc := 258) dL_law_258 (by decide) (fun c258 => ?_) (fun c258 => absurd hH c258)
    refine r_iconst (v := 0) (pc := 318) dL_law_318 (by decide) ?_
    refine r_icmp_eq 324 (pc := 319) dL_law_319 (by decide) (fun c319 => ?_) (fun c319 => absurd (no (cd_1 hH)) c319)
    exact KK
  · obtain ⟨D, hD, hD1⟩ := o.1.D
    obtain ⟨t, htD, hd⟩ := cand_d hD hD1 d0 hH
    have ht : t ≤ 10000 := by omega
    by_cases t1 : t < 10000
    · refine r_iload (pc := 239) dL_law_239 rfl ?_
      refine r_if_eq 324 (pc := 241) dL_law_241 (by decide) (fun c241 => absurd c241 (c_eqf rfl rfl (a := 1) (b := 0) (by omega) (by omega) (by omega))) (fun c241 => ?_)
      refine r_aload_n (pc := 244) dL_law_244 rfl rfl ?_
      refine r_iload (pc := 245) dL_law_245 rfl ?_
      refine r_iconst (v := 3) (pc := 247) dL_law_247 (by decide) ?_
      refine q_callV (ci := 8) (T := TX10) (N := 6) (vs := [.int _, .int _]) (pc := 248) dL_law_248 rfl l_RL_79 rfl ⟨by decide, by decide⟩ rfl (Nat.le_of_ble_eq_true rfl) hl EW_0 rfl (Nat.le_of_ble_eq_true rfl) (qe hl hA o _ _ (k) 3 K rfl rfl (by omega) h41 hK (by omega) (r := eb A k 3) rfl) rfl ?_
      refine r_iload (pc := 251) dL_law_251 rfl ?_
      refine r_aload_n (pc := 253) dL_law_253 rfl rfl ?_
      refine r_iconst (v := 0) (pc := 254) dL_law_254 (by decide) ?_
      refine q_callV (ci := 8) (T := TX10) (N := 6) (vs := [.int _]) (pc := 255) dL_law_255 rfl l_RL_8 rfl ⟨by decide, by decide⟩ rfl (Nat.le_of_ble_eq_true rfl) hl EW_0 rfl (Nat.le_of_ble_eq_true rfl) (qt0 hl hA _ rfl) rfl ?_
      refine r_icmp_gt 318 (pc := 258) dL_law_258 (by decide) (fun c258 => absurd c258 hH) (fun c258 => ?_)
      refine r_aload_n (pc := 261) dL_law_261 rfl rfl ?_
      refine r_iload (pc := 262) dL_law_262 rfl ?_
      refine r_sipush (v := 10000) (pc := 264) dL_law_264 (by decide) ?_
      refine r_icmp_ge 275 (pc := 267) dL_law_267 (by decide) (fun c267 => absurd c267 (c_gef hd rfl (a := t) (b := 10000) (by omega) (by omega) (by omega))) (fun c267 => ?_)
      refine r_iload (pc := 270) dL_law_270 rfl ?_
      refine r_goto 278 (pc := 272) dL_law_272 (by decide) ?_
      refine q_callV (ci := 8) (T := TX10) (N := 6) (vs := [.int _]) (pc := 278) dL_law_278 rfl l_RL_82 rfl ⟨by decide, by decide⟩ rfl (Nat.le_of_ble_eq_true rfl) hl EW_0 rfl (Nat.le_of_ble_eq_true rfl) (qs_isM hl hA _ t hd ht) rfl ?_
      refine r_if_ne 318 (pc := 281) dL_law_281 (by decide) (fun c281 => ?_) (fun c281 => ?_)
      · refine r_iconst (v := 0) (pc := 318) dL_law_318 (by decide) ?_
        refine r_icmp_eq 324 (pc := 319) dL_law_319 (by decide) (fun c319 => ?_) (fun c319 => absurd (no (cd_2 hd ht c281)) c319)
        exact KK
      · refine r_aload_n (pc := 284) dL_law_284 rfl rfl ?_
        refine r_iload (pc := 285) dL_law_285 rfl ?_
        refine r_iconst (v := 2) (pc := 287) dL_law_287 (by decide) ?_
        refine q_callV (ci := 8) (T := TX10) (N := 6) (vs := [.int _, .int _]) (pc := 288) dL_law_288 rfl l_RL_79 rfl ⟨by decide, by decide⟩ rfl (Nat.le_of_ble_eq_true rfl) hl EW_0 rfl (Nat.le_of_ble_eq_true rfl) (qe hl hA o _ _ (k) 2 K rfl rfl (by omega) h41 hK (by omega) eo_2) rfl ?_
        refine r_aload_n (pc := 291) dL_law_291 rfl rfl ?_
        refine r_iload (pc := 292) dL_law_292 rfl ?_
        refine r_sipush (v := 10000) (pc := 294) dL_law_294 (by decide) ?_
        refine r_icmp_ge 305 (pc := 297) dL_law_297 (by decide) (fun c297 => absurd c297 (c_gef hd rfl (a := t) (b := 10000) (by omega) (by omega) (by omega))) (fun c297 => ?_)
        refine r_iload (pc := 300) dL_law_300 rfl ?_
        refine r_goto 308 (pc := 302) dL_law_302 (by decide) ?_
        refine q_callV (ci := 8) (T := TX10) (N := 6) (vs := [.int _]) (pc := 308) dL_law_308 rfl l_RL_86 rfl ⟨by decide, by decide⟩ rfl (Nat.le_of_ble_eq_true rfl) hl EW_0 rfl (Nat.le_of_ble_eq_true rfl) (qn hl hA _ t hd ht) rfl ?_
        refine r_icmp_lt 318 (pc := 311) dL_law_311 (by decide) (fun c311 => ?_) (fun c311 => ?_)
        · refine r_iconst (v := 0) (pc := 318) dL_law_318 (by decide) ?_
          refine r_icmp_eq 324 (pc := 319) dL_law_319 (by decide) (fun c319 => ?_) (fun c319 => absurd (no (cd_3 hd c311)) c319)
          exact KK
        · refine r_iconst (v := 1) (pc := 314) dL_law_314 (by decide) ?_
          refine r_goto 319 (pc := 315) dL_law_315 (by decide) ?_
          refine r_icmp_eq 324 (pc := 319) dL_law_319 (by decide) (fun c319 => ?_) (fun c319 => absurd (ye (cd_4 o.2.1.b01 hd ht hH c281 c311)) c319)
          exact KK
    · have te : (10000 : Int32) = nI t := by rw [show t = 10000 by omega]; rfl
      refine r_iload (pc := 239) dL_law_239 rfl ?_
      refine r_if_eq 324 (pc := 241) dL_law_241 (by decide) (fun c241 => absurd c241 (c_eqf rfl rfl (a := 1) (b := 0) (by omega) (by omega) (by omega))) (fun c241 => ?_)
      refine r_aload_n (pc := 244) dL_law_244 rfl rfl ?_
      refine r_iload (pc := 245) dL_law_245 rfl ?_
      refine r_iconst (v := 3) (pc := 247) dL_law_247 (by decide) ?_
      refine q_callV (ci := 8) (T := TX10) (N := 6) (vs := [.int _, .int _]) (pc := 248) dL_law_248 rfl l_RL_79 rfl ⟨by decide, by decide⟩ rfl (Nat.le_of_ble_eq_true rfl) hl EW_0 rfl (Nat.le_of_ble_eq_true rfl) (qe hl hA o _ _ (k) 3 K rfl rfl (by omega) h41 hK (by omega) (r := eb A k 3) rfl) rfl ?_
      refine r_iload (pc := 251) dL_law_251 rfl ?_
      refine r_aload_n (pc := 253) dL_law_253 rfl rfl ?_
      refine r_iconst (v := 0) (pc := 254) dL_law_254 (by decide) ?_
      refine q_callV (ci := 8) (T := TX10) (N := 6) (vs := [.int _]) (pc := 255) dL_law_255 rfl l_RL_8 rfl ⟨by decide, by decide⟩ rfl (Nat.le_of_ble_eq_true rfl) hl EW_0 rfl (Nat.le_of_ble_eq_true rfl) (qt0 hl hA _ rfl) rfl ?_
      refine r_icmp_gt 318 (pc := 258) dL_law_258 (by decide) (fun c258 => absurd c258 hH) (fun c258 => ?_)
      refine r_aload_n (pc := 261) dL_law_261 rfl rfl ?_
      refine r_iload (pc := 262) dL_law_262 rfl ?_
      refine r_sipush (v := 10000) (pc := 264) dL_law_264 (by decide) ?_
      refine r_icmp_ge 275 (pc := 267) dL_law_267 (by decide) (fun c267 => ?_) (fun c267 => absurd (c_get hd rfl (a := t) (b := 10000) (by omega) (by omega) (by omega)) c267)
      refine r_sipush (v := 10000) (pc := 275) dL_law_275 (by decide) ?_
      refine q_callV (ci := 8) (T := TX10) (N := 6) (vs := [.int _]) (pc := 278) dL_law_278 rfl l_RL_82 rfl ⟨by decide, by decide⟩ rfl (Nat.le_of_ble_eq_true rfl) hl EW_0 rfl (Nat.le_of_ble_eq_true rfl) (qs_isM hl hA _ t te ht) rfl ?_
      refine r_if_ne 318 (pc := 281) dL_law_281 (by decide) (fun c281 => ?_) (fun c281 => ?_)
      · refine r_iconst (v := 0) (pc := 318) dL_law_318 (by decide) ?_
        refine r_icmp_eq 324 (pc := 319) dL_law_319 (by decide) (fun c319 => ?_) (fun c319 => absurd (no (cd_2 hd ht c281)) c319)
        exact KK
      · refine r_aload_n (pc := 284) dL_law_284 rfl rfl ?_
        refine r_iload (pc := 285) dL_law_285 rfl ?_
        refine r_iconst (v := 2) (pc := 287) dL_law_287 (by decide) ?_
        refine q_callV (ci := 8) (T := TX10) (N := 6) (vs := [.int _, .int _]) (pc := 288) dL_law_288 rfl l_RL_79 rfl ⟨by decide, by decide⟩ rfl (Nat.le_of_ble_eq_true rfl) hl EW_0 rfl (Nat.le_of_ble_eq_true rfl) (qe hl hA o _ _ (k) 2 K rfl rfl (by omega) h41 hK (by omega) eo_2) rfl ?_
        refine r_aload_n (pc := 291) dL_law_291 rfl rfl ?_
        refine r_iload (pc := 292) dL_law_292 rfl ?_
        refine r_sipush (v := 10000) (pc := 294) dL_law_294 (by decide) ?_
        refine r_icmp_ge 305 (pc := 297) dL_law_297 (by decide) (fun c297 => ?_) (fun c297 => absurd (c_get hd rfl (a := t) (b := 10000) (by omega) (by omega) (by omega)) c297)
        refine r_sipush (v := 10000) (pc := 305) dL_law_305 (by decide) ?_
        refine q_callV (ci := 8) (T := TX10) (N := 6) (vs := [.int _]) (pc := 308) dL_law_308 rfl l_RL_86 rfl ⟨by decide, by decide⟩ rfl (Nat.le_of_ble_eq_true rfl) hl EW_0 rfl (Nat.le_of_ble_eq_true rfl) (qn hl hA _ t te ht) rfl ?_
        refine r_icmp_lt 318 (pc := 311) dL_law_311 (by decide) (fun c311 => ?_) (fun c311 => ?_)
        · refine r_iconst (v := 0) (pc := 318) dL_law_318 (by decide) ?_
          refine r_icmp_eq 324 (pc := 319) dL_law_319 (by decide) (fun c319 => ?_) (fun c319 => absurd (no (cd_3 hd c311)) c319)
          exact KK
        · refine r_iconst (v := 1) (pc := 314) dL_law_314 (by decide) ?_
          refine r_goto 319 (pc := 315) dL_law_315 (by decide) ?_
          refine r_icmp_eq 324 (pc := 319) dL_law_319 (by decide) (fun c319 => ?_) (fun c319 => absurd (ye (cd_4 o.2.1.b01 hd ht hH c281 c311)) c319)
          exact KK
theorem seg_D0 (hl : l.stackTraces = false) (hA : AG C W A) (o : OKA A) (h41 : A 41 = nI K) (hK : K ≤ 15) (hk : k < K) (KK : Runs om l M_L_law B 360 (LL sv e v 0 sn was got pd (nI k) (A (42 + 4 * k + 1))) [] (EW g C W S V p c) Post) : Runs om l M_L_law B 324 (LL sv e v 0 sn was got pd (nI k) (A (42 + 4 * k + 1))) [] (EW g C W S V p c) Post := by
  refine r_aload_n (pc := 324) dL_law_324 rfl rfl ?_
  refine r_iload (pc := 325) dL_law_325 rfl ?_
  refine r_iconst (v := 5) (pc := 327) dL_law_327 (by decide) ?_
  refine q_callV (ci := 8) (T := TX10) (N := 6) (vs := [.int _, .int _]) (pc := 328) dL_law_328 rfl l_RL_79 rfl ⟨by decide, by decide⟩ rfl (Nat.le_of_ble_eq_true rfl) hl EW_0 rfl (Nat.le_of_ble_eq_true rfl) (qe hl hA o _ _ (k) 5 K rfl rfl (by omega) h41 hK (by omega) (r := eb A k 5) rfl) rfl ?_
  refine r_iconst (v := 1) (pc := 331) dL_law_331 (by decide) ?_
  refine r_icmp_ne 360 (pc := 332) dL_law_332 (by decide) (fun c332 => ?_) (fun c332 => ?_)
  · exact KK
  · refine r_iload (pc := 335) dL_law_335 rfl ?_
    refine r_if_eq 360 (pc := 337) dL_law_337 (by decide) (fun c337 => ?_) (fun c337 => absurd (c_eqt rfl rfl (a := 0) (b := 0) (by omega) (by omega) (by omega)) c337)
    exact KK
theorem seg_D1 (hl : l.stackTraces = false) (hA : AG C W A) (o : OKA A) (h41 : A 41 = nI K) (hK : K ≤ 15) (hk : k < K) (hM : M4 (A (42 + 4 * k + 3))) (hF : SF A) (KK : Runs om l M_L_law B 360 (LL sv e v 1 sn was got pd (nI k) (A (42 + 4 * k + 1))) [] (EW g C W S V p c) Post) : Runs om l M_L_law B 324 (LL sv e v 1 sn was got pd (nI k) (A (42 + 4 * k + 1))) [] (EW g C W S V p c) Post := by
  have pk : eb A k 5 = 1 → ¬ R_pv A 0 < 0 → R_pv A 0 = A (42 + 4 * k + 1) := fun h5 hn => by
    have h32 := (hF.1 k (by rw [cl_nI h41 (by omega)]; exact hk)).1.2 (eb5 hM h5)
    unfold R_pv at hn ⊢
    by_cases q : A 31 ≤ nI 0
    · rw [if_pos q] at hn; exact absurd (by decide) hn
    · rw [if_neg q] at hn ⊢
      rcases h32 with h32 | h32
      · exact h32
      · have e32 : A (32 + 0) = -1 := h32
        rw [e32] at hn; exact absurd (by decide) hn
  refine r_aload_n (pc := 324) dL_law_324 rfl rfl ?_
  refine r_iload (pc := 325) dL_law_325 rfl ?_
  refine r_iconst (v := 5) (pc := 327) dL_law_327 (by decide) ?_
  refine q_callV (ci := 8) (T := TX10) (N := 6) (vs := [.int _, .int _]) (pc := 328) dL_law_328 rfl l_RL_79 rfl ⟨by decide, by decide⟩ rfl (Nat.le_of_ble_eq_true rfl) hl EW_0 rfl (Nat.le_of_ble_eq_true rfl) (qe hl hA o _ _ (k) 5 K rfl rfl (by omega) h41 hK (by omega) (r := eb A k 5) rfl) rfl ?_
  refine r_iconst (v := 1) (pc := 331) dL_law_331 (by decide) ?_
  refine r_icmp_ne 360 (pc := 332) dL_law_332 (by decide) (fun c332 => ?_) (fun c332 => ?_)
  · exact KK
  · refine r_iload (pc := 335) dL_law_335 rfl ?_
    refine r_if_eq 360 (pc := 337) dL_law_337 (by decide) (fun c337 => absurd c337 (c_eqf rfl rfl (a := 1) (b := 0) (by omega) (by omega) (by omega))) (fun c337 => ?_)
    refine r_aload_n (pc := 340) dL_law_340 rfl rfl ?_
    refine r_iconst (v := 0) (pc := 341) dL_law_341 (by decide) ?_
    refine q_callV (ci := 8) (T := TX10) (N := 6) (vs := [.int _]) (pc := 342) dL_law_342 rfl l_RL_89 rfl ⟨by decide, by decide⟩ rfl (Nat.le_of_ble_eq_true rfl) hl EW_0 rfl (Nat.le_of_ble_eq_true rfl) (qs_pick0 hl hA o _ rfl) rfl ?_
    refine r_if_lt 360 (pc := 345) dL_law_345 (by decide) (fun c345 => ?_) (fun c345 => ?_)
    · exact KK
    · refine r_aload_n (pc := 348) dL_law_348 rfl rfl ?_
      refine r_iconst (v := 0) (pc := 349) dL_law_349 (by decide) ?_
      refine q_callV (ci := 8) (T := TX10) (N := 6) (vs := [.int _]) (pc := 350) dL_law_350 rfl l_RL_89 rfl ⟨by decide, by decide⟩ rfl (Nat.le_of_ble_eq_true rfl) hl EW_0 rfl (Nat.le_of_ble_eq_true rfl) (qs_pick0 hl hA o _ rfl) rfl ?_
      refine r_iload (pc := 353) dL_law_353 rfl ?_
      refine r_icmp_eq 360 (pc := 355) dL_law_355 (by decide) (fun c355 => ?_) (fun c355 => absurd (pk c332 c345) c355)
      exact KK
/-- one echo, and all of them -/
theorem seg_E (hl : l.stackTraces = false) (hA : AG C W A) (o : OKA A) (h41 : A 41 = nI K) (hK : K ≤ 15) (hk : k < K) (hS : SOp K A) (hM : M4 (A (42 + 4 * k + 3))) (hF : sh = 0 ∨ (sh = 1 ∧ SF A)) (KK : Runs om l M_L_law B 126 (LL sv e v sh sn was got (pd + eb A k 5) (nI (k + 1)) (A (42 + 4 * k + 1))) [] (EW g C W S V p c) Post) : Runs om l M_L_law B 146 (LL sv e v sh sn was got pd (nI k) (A (42 + 4 * k + 1))) [] (EW g C W S V p c) Post := by
  refine seg_A hl hA o h41 hK hk hS ?_
  refine seg_B hl hA o h41 hK hk hM ?_
  have K6 : Runs om l M_L_law B 360 (LL sv e v sh sn was got (pd + eb A k 5) (nI k) (A (42 + 4 * k + 1))) [] (EW g C W S V p c) Post := by
    refine q_iinc (nI (k + 1)) (LL sv e v sh sn was got (pd + eb A k 5) (nI (k + 1)) (A (42 + 4 * k + 1))) (pc := 360) dL_law_360 rfl (by decide) (ninc 1 rfl) rfl ?_
    refine r_goto 126 (pc := 363) dL_law_363 (by decide) ?_
    exact KK
  rcases hF with rfl | ⟨rfl, hF⟩
  · exact seg_C0 hl hA o h41 hK hk (seg_D0 hl hA o h41 hK hk K6)
  · exact seg_C1 hl hA o h41 hK hk hM hF (seg_D1 hl hA o h41 hK hk hM hF K6)
abbrev LL0 (sv e v sh sn : Int32) (was : Int64) (got pd k : Int32) : List (Option Value) := [some (.ref 100000), some (.ref 0), some (.int sv), some (.int e), some (.int v), some (.int sh), some (.int sn), some (.long was), none, some (.int got), some (.int pd), some (.int k), none]
theorem lp_echo (hl : l.stackTraces = false) (hA : AG C W A) (o : OKA A) (h41 : A 41 = nI K) (hK : K ≤ 15) (hS : SOp K A) (hM : ∀ e, e < K → M4 (A (42 + 4 * e + 3))) (hF : sh = 0 ∨ (sh = 1 ∧ SF A)) (KK : Runs om l M_L_law B 366 (LL0 sv e v sh sn was got (P5 A K) (nI K)) [] (EW g C W S V p c) Post) : ∀ n k, k + n = K → Runs om l M_L_law B 126 (LL0 sv e v sh sn was got (P5 A k) (nI k)) [] (EW g C W S V p c) Post := by
  intro n
  induction n with
  | zero =>
    intro k hk
    have hk' : k = K := by omega
    subst hk'
    refine r_iload (pc := 126) dL_law_126 rfl ?_
    refine r_aload_n (pc := 128) dL_law_128 rfl rfl ?_
    refine r_bipush (v := 7) (pc := 129) dL_law_129 (by decide) ?_
    refine q_callV (ci := 8) (T := TX10) (N := 6) (vs := [.int _]) (pc := 131) dL_law_131 rfl l_RL_68 rfl ⟨by decide, by decide⟩ rfl (Nat.le_of_ble_eq_true rfl) hl EW_0 rfl (Nat.le_of_ble_eq_true rfl) (qg hl hA o _ 7 rfl (by omega) (gau_7.trans h41)) rfl ?_
    refine r_icmp_ge 366 (pc := 134) dL_law_134 (by decide) (fun c134 => ?_) (fun c134 => absurd (c_get rfl rfl (a := k) (b := k) (by omega) (by omega) (by omega)) c134)
    exact KK
  | succ n ih =>
    intro k hk
    refine r_iload (pc := 126) dL_law_126 rfl ?_
    refine r_aload_n (pc := 128) dL_law_128 rfl rfl ?_
    refine r_bipush (v := 7) (pc := 129) dL_law_129 (by decide) ?_
    refine q_callV (ci := 8) (T := TX10) (N := 6) (vs := [.int _]) (pc := 131) dL_law_131 rfl l_RL_68 rfl ⟨by decide, by decide⟩ rfl (Nat.le_of_ble_eq_true rfl) hl EW_0 rfl (Nat.le_of_ble_eq_true rfl) (qg hl hA o _ 7 rfl (by omega) (gau_7.trans h41)) rfl ?_
    refine r_icmp_ge 366 (pc := 134) dL_law_134 (by decide) (fun c134 => absurd c134 (c_gef rfl rfl (a := k) (b := K) (by omega) (by omega) (by omega))) (fun c134 => ?_)
    refine r_aload_n (pc := 137) dL_law_137 rfl rfl ?_
    refine r_iload (pc := 138) dL_law_138 rfl ?_
    refine r_iconst (v := 1) (pc := 140) dL_law_140 (by decide) ?_
    refine q_callV (ci := 8) (T := TX10) (N := 6) (vs := [.int _, .int _]) (pc := 141) dL_law_141 rfl l_RL_79 rfl ⟨by decide, by decide⟩ rfl (Nat.le_of_ble_eq_true rfl) hl EW_0 rfl (Nat.le_of_ble_eq_true rfl) (qe hl hA o _ _ (k) 1 K rfl rfl (by omega) h41 hK (by omega) eo_1) rfl ?_
    refine q_istore [_, _, _, _, _, _, _, _, _, _, _, _, _] (pc := 144) dL_law_144 (by decide) rfl ?_
    refine seg_E hl hA o h41 hK (by omega) hS (hM k (by omega)) hF ?_
    refine r_wk (LL0 sv e v sh sn was got (P5 A (k + 1)) (nI (k + 1))) ⟨rfl, rfl, rfl, rfl, rfl, rfl, rfl, rfl, rfl, rfl, rfl, trivial⟩ ?_
    exact ih (k + 1) (by omega)
end LE
