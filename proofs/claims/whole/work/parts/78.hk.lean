/-! the law's round: one call -/
def LawN (om : OM) (l : Launch) (Post : Out → Hp → Prop) (i : Nat) (B : Nat × Nat) : Prop := ∀ (g : Hp) (k : GS) (r : RS) (w : Nat → Int64), GAp k r → g.1 125 = LA w → g.2.2 = false → Runs om l M_L_law B 1849 [some (.ref 100000), some (.ref 0), some (.ref 119), some (.ref 125), some (.int (nI i)), none, none, none, none] [] (EHp g k r) Post
def LawK (om : OM) (l : Launch) (Post : Out → Hp → Prop) (i : Nat) (B : Nat × Nat) : Prop := ∀ B' : Nat × Nat, B.1 - 1 ≤ B'.1 ∧ B.2 - 6 ≤ B'.2 → LawN om l Post i B'
theorem EHp_119 {g : Hp} {k : GS} {r : RS} : (EHp g k r).1 119 = .inr (9, mfs r.1 r.2.1) := EH_out (by decide)
theorem s_thr {om : OM} {l : Launch} {B : Nat × Nat} {g : Hp} {k : GS} {r : RS} : Runs om l M_X11_thrown B 0 (entL 1 [.ref 119]) [] (EHp g k r) (Det (some (.int (r.1 0))) (EHp g k r)) := ref_on (fun Y => s_X11_thrown)
theorem law_a {om : OM} : (FieldType.int, 100000, om_L om, fun j => Value.int (om_xs om j)) ∈ sa_l om := .head _
theorem hsf {g : Hp} {e : va_E} (hf : g.2.2 = false) : (hs g 125 e).2.2 = false := hf
section LCS
variable {om : OM} {l : Launch} {Post : Out → Hp → Prop} {B : Nat × Nat} {g : Hp} {k : GS} {r : RS} {w : Nat → Int64}
theorem lc_begin (hl : l.stackTraces = false) (i : Nat) (hi : i + 6 ≤ om_L om) (hL : om_L om ≤ 3072) (hB : 1 ≤ B.1 ∧ 6 ≤ B.2) (KK : LawK om l Post i B) (G : GAp k r) (hg : g.1 125 = LA w) (hf : g.2.2 = false) : Runs om l M_L_law B 180 [some (.ref 100000), some (.ref 0), some (.ref 119), some (.ref 125), some (.int (nI i)), none, none, none, none] [] (EHp g k r) Post := by
  refine r_aload_n (pc := 180) dL_law_180 rfl rfl ?_
  refine r_aload_n (pc := 181) dL_law_181 rfl rfl ?_
  refine r_iload (pc := 182) dL_law_182 rfl ?_
  refine r_iconst (v := nI 1) (pc := 184) dL_law_184 (by decide) ?_
  refine r_iadd (pc := 185) dL_law_185 ?_
  refine r_taload (n := om_L om) (pc := 186) dL_law_186 law_a (vin_n (k := i + 1) (nadd rfl rfl) (by omega) (by omega)) ?_
  rw [cl_n (k := i + 1) (n := om_L om) (nadd (x := i) (y := 1) rfl rfl) (by omega) (by omega)]
  refine r_aload_n (pc := 187) dL_law_187 rfl rfl ?_
  obtain ⟨C, W, T, U, S, V, ns, cnt, ln, po, wd, t, nu⟩ := k
  obtain ⟨I, J, A, a, v, x0, n⟩ := r
  have ht : t = x0 := G.2.2.2.2
  subst ht
  obtain ⟨Q, q1, q2⟩ := op_begin hl G (om_xs om (i + 1))
  refine r_callSH (vs := [.ref 0, .int _, .ref 125]) (pc := 188) 1 6 dL_law_188 rfl l_RL_103 rfl ⟨by decide, by decide⟩ rfl (Nat.le_of_ble_eq_true rfl) hl hB.1 hB.2 (Nat.le_of_ble_eq_true rfl) (w_begin hl (om_xs om (i + 1)) q1 hg hf ⟨Nat.le_refl _, Nat.le_refl _⟩) (fun E h1 z => by obtain ⟨c, x, k', w', z, -⟩ := z; cases z) (fun o h1 z hc => by obtain ⟨c, x, k', w', -, -, rfl, -, -⟩ := z; rw [EHp_2, hsf hf] at hc; cases hc) (fun o h1 z => ?_)
  obtain ⟨c, x, k', w', z, hc2, rfl, hq, hw⟩ := z
  cases z
  refine q_istore [_, _, _, _, _, _, _, _, _] (pc := 191) dL_law_191 (by decide) rfl ?_
  refine r_aload_n (pc := 193) dL_law_193 rfl rfl ?_
  refine r_aload_n (pc := 194) dL_law_194 rfl rfl ?_
  refine r_iload (pc := 195) dL_law_195 rfl ?_
  refine r_iconst (v := nI 1) (pc := 197) dL_law_197 (by decide) ?_
  refine r_iadd (pc := 198) dL_law_198 ?_
  refine r_taload (n := om_L om) (pc := 199) dL_law_199 law_a (vin_n (k := i + 1) (nadd rfl rfl) (by omega) (by omega)) ?_
  rw [cl_n (k := i + 1) (n := om_L om) (nadd (x := i) (y := 1) rfl rfl) (by omega) (by omega)]
  refine r_callV (vs := [.int _]) (pc := 200) 0 0 (ci := 9) (T := TX11) (N := 11) dL_law_200 rfl l_RL_108 rfl ⟨by decide, by decide⟩ rfl (Nat.le_of_ble_eq_true rfl) hl EHp_119 rfl (Nat.zero_le _) (Nat.zero_le _) (Nat.le_of_ble_eq_true rfl) (q2 c x k' hq _ _) (fun E h1 z => by obtain ⟨y, r', z, -⟩ := z; cases z) (fun o h1 z hc => by obtain ⟨y, r', -, rfl, -⟩ := z; rw [EHp_2, hsf hf] at hc; cases hc) (fun o h1 z => ?_)
  obtain ⟨y, r', z, rfl, G', h0', hxy⟩ := z
  cases z
  refine q_istore [_, _, _, _, _, _, _, _, _] (pc := 203) dL_law_203 (by decide) rfl ?_
  refine r_aload_n (pc := 205) dL_law_205 rfl rfl ?_
  refine q_callV (ci := 9) (T := TX11) (N := 11) (vs := []) (pc := 206) dL_law_206 rfl l_RL_109 rfl ⟨by decide, by decide⟩ rfl (Nat.le_of_ble_eq_true rfl) hl EHp_119 rfl (Nat.le_of_ble_eq_true rfl) s_thr rfl ?_
  rw [h0']
  refine r_iload (pc := 209) dL_law_209 rfl ?_
  refine r_icmp_eq 216 (pc := 211) dL_law_211 (by decide) (fun _ => ?_) (fun z => absurd rfl z)
  refine r_iload (pc := 216) dL_law_216 rfl ?_
  refine r_if_ne 233 (pc := 218) dL_law_218 (by decide) (fun _ => ?_) (fun hz => ?_)
  · refine r_goto 1849 (pc := 233) dL_law_233 (by decide) ?_
    refine r_wk [some _, some _, some _, some _, some _, none, none, none, none] ⟨rfl, rfl, rfl, rfl, rfl, trivial⟩ ?_
    exact KK _ ⟨Nat.le_refl _, Nat.le_refl _⟩ _ _ _ w' G' hs_same (hsf hf)
  · have c0 : c = 0 := nI_injL (b := 0) (by omega) (by omega) hz
    subst c0
    have exy : x = y := hxy rfl
    subst exy
    refine r_aload_n (pc := 221) dL_law_221 rfl rfl ?_
    refine r_iconst (v := 0) (pc := 222) dL_law_222 rfl ?_
    refine r_laload (n := 1) (f := w') (pc := 223) dL_law_223 ((EHp_out (by omega)).trans hs_same) (vin_n (k := 0) rfl (by decide) (by decide)) ?_
    rw [show Int32.toNatClampNeg 0 = 0 from by decide, hw rfl]
    refine r_iload (pc := 224) dL_law_224 rfl ?_
    refine r_i2l (pc := 226) dL_law_226 ?_
    refine r_lcmp (pc := 227) dL_law_227 ?_
    refine r_if_eq 233 (pc := 228) dL_law_228 (by decide) (fun _ => ?_) (fun z => absurd (cmp_eq.mpr rfl) z)
    refine r_goto 1849 (pc := 233) dL_law_233 (by decide) ?_
    refine r_wk [some _, some _, some _, some _, some _, none, none, none, none] ⟨rfl, rfl, rfl, rfl, rfl, trivial⟩ ?_
    exact KK _ ⟨Nat.le_refl _, Nat.le_refl _⟩ _ _ _ w' G' hs_same (hsf hf)
theorem lc_setLevel (hl : l.stackTraces = false) (i : Nat) (hi : i + 6 ≤ om_L om) (hL : om_L om ≤ 3072) (hB : 1 ≤ B.1 ∧ 6 ≤ B.2) (KK : LawK om l Post i B) (G : GAp k r) (hg : g.1 125 = LA w) (hf : g.2.2 = false) : Runs om l M_L_law B 236 [some (.ref 100000), some (.ref 0), some (.ref 119), some (.ref 125), some (.int (nI i)), none, none, none, none] [] (EHp g k r) Post := by
  refine r_aload_n (pc := 236) dL_law_236 rfl rfl ?_
  refine r_aload_n (pc := 237) dL_law_237 rfl rfl ?_
  refine r_iload (pc := 238) dL_law_238 rfl ?_
  refine r_iconst (v := nI 1) (pc := 240) dL_law_240 (by decide) ?_
  refine r_iadd (pc := 241) dL_law_241 ?_
  refine r_taload (n := om_L om) (pc := 242) dL_law_242 law_a (vin_n (k := i + 1) (nadd rfl rfl) (by omega) (by omega)) ?_
  rw [cl_n (k := i + 1) (n := om_L om) (nadd (x := i) (y := 1) rfl rfl) (by omega) (by omega)]
  refine r_aload_n (pc := 243) dL_law_243 rfl rfl ?_
  obtain ⟨C, W, T, U, S, V, ns, cnt, ln, po, wd, t, nu⟩ := k
  obtain ⟨I, J, A, a, v, x0, n⟩ := r
  have ht : t = x0 := G.2.2.2.2
  subst ht
  obtain ⟨Q, q1, q2⟩ := op_setLevel hl G (om_xs om (i + 1))
  refine r_callSH (vs := [.ref 0, .int _, .ref 125]) (pc := 244) 1 6 dL_law_244 rfl l_RL_112 rfl ⟨by decide, by decide⟩ rfl (Nat.le_of_ble_eq_true rfl) hl hB.1 hB.2 (Nat.le_of_ble_eq_true rfl) (w_setLevel hl (om_xs om (i + 1)) q1 hg hf ⟨Nat.le_refl _, Nat.le_refl _⟩) (fun E h1 z => by obtain ⟨c, x, k', w', z, -⟩ := z; cases z) (fun o h1 z hc => by obtain ⟨c, x, k', w', -, -, rfl, -, -⟩ := z; rw [EHp_2, hsf hf] at hc; cases hc) (fun o h1 z => ?_)
  obtain ⟨c, x, k', w', z, hc2, rfl, hq, hw⟩ := z
  cases z
  refine q_istore [_, _, _, _, _, _, _, _, _] (pc := 247) dL_law_247 (by decide) rfl ?_
  refine r_aload_n (pc := 249) dL_law_249 rfl rfl ?_
  refine r_aload_n (pc := 250) dL_law_250 rfl rfl ?_
  refine r_iload (pc := 251) dL_law_251 rfl ?_
  refine r_iconst (v := nI 1) (pc := 253) dL_law_253 (by decide) ?_
  refine r_iadd (pc := 254) dL_law_254 ?_
  refine r_taload (n := om_L om) (pc := 255) dL_law_255 law_a (vin_n (k := i + 1) (nadd rfl rfl) (by omega) (by omega)) ?_
  rw [cl_n (k := i + 1) (n := om_L om) (nadd (x := i) (y := 1) rfl rfl) (by omega) (by omega)]
  refine r_callV (vs := [.int _]) (pc := 256) 0 0 (ci := 9) (T := TX11) (N := 11) dL_law_256 rfl l_RL_114 rfl ⟨by decide, by decide⟩ rfl (Nat.le_of_ble_eq_true rfl) hl EHp_119 rfl (Nat.zero_le _) (Nat.zero_le _) (Nat.le_of_ble_eq_true rfl) (q2 c x k' hq _ _) (fun E h1 z => by obtain ⟨y, r', z, -⟩ := z; cases z) (fun o h1 z hc => by obtain ⟨y, r', -, rfl, -⟩ := z; rw [EHp_2, hsf hf] at hc; cases hc) (fun o h1 z => ?_)
  obtain ⟨y, r', z, rfl, G', h0', hxy⟩ := z
  cases z
  refine q_istore [_, _, _, _, _, _, _, _, _] (pc := 259) dL_law_259 (by decide) rfl ?_
  refine r_aload_n (pc := 261) dL_law_261 rfl rfl ?_
  refine q_callV (ci := 9) (T := TX11) (N := 11) (vs := []) (pc := 262) dL_law_262 rfl l_RL_109 rfl ⟨by decide, by decide⟩ rfl (Nat.le_of_ble_eq_true rfl) hl EHp_119 rfl (Nat.le_of_ble_eq_true rfl) s_thr rfl ?_
  rw [h0']
  refine r_iload (pc := 265) dL_law_265 rfl ?_
  refine r_icmp_eq 272 (pc := 267) dL_law_267 (by decide) (fun _ => ?_) (fun z => absurd rfl z)
  refine r_iload (pc := 272) dL_law_272 rfl ?_
  refine r_if_ne 289 (pc := 274) dL_law_274 (by decide) (fun _ => ?_) (fun hz => ?_)
  · refine r_goto 1849 (pc := 289) dL_law_289 (by decide) ?_
    refine r_wk [some _, some _, some _, some _, some _, none, none, none, none] ⟨rfl, rfl, rfl, rfl, rfl, trivial⟩ ?_
    exact KK _ ⟨Nat.le_refl _, Nat.le_refl _⟩ _ _ _ w' G' hs_same (hsf hf)
  · have c0 : c = 0 := nI_injL (b := 0) (by omega) (by omega) hz
    subst c0
    have exy : x = y := hxy rfl
    subst exy
    refine r_aload_n (pc := 277) dL_law_277 rfl rfl ?_
    refine r_iconst (v := 0) (pc := 278) dL_law_278 rfl ?_
    refine r_laload (n := 1) (f := w') (pc := 279) dL_law_279 ((EHp_out (by omega)).trans hs_same) (vin_n (k := 0) rfl (by decide) (by decide)) ?_
    rw [show Int32.toNatClampNeg 0 = 0 from by decide, hw rfl]
    refine r_iload (pc := 280) dL_law_280 rfl ?_
    refine r_i2l (pc := 282) dL_law_282 ?_
    refine r_lcmp (pc := 283) dL_law_283 ?_
    refine r_if_eq 289 (pc := 284) dL_law_284 (by decide) (fun _ => ?_) (fun z => absurd (cmp_eq.mpr rfl) z)
    refine r_goto 1849 (pc := 289) dL_law_289 (by decide) ?_
    refine r_wk [some _, some _, some _, some _, some _, none, none, none, none] ⟨rfl, rfl, rfl, rfl, rfl, trivial⟩ ?_
    exact KK _ ⟨Nat.le_refl _, Nat.le_refl _⟩ _ _ _ w' G' hs_same (hsf hf)
theorem lc_setFlow (hl : l.stackTraces = false) (i : Nat) (hi : i + 6 ≤ om_L om) (hL : om_L om ≤ 3072) (hB : 1 ≤ B.1 ∧ 6 ≤ B.2) (KK : LawK om l Post i B) (G : GAp k r) (hg : g.1 125 = LA w) (hf : g.2.2 = false) : Runs om l M_L_law B 292 [some (.ref 100000), some (.ref 0), some (.ref 119), some (.ref 125), some (.int (nI i)), none, none, none, none] [] (EHp g k r) Post := by
  refine r_aload_n (pc := 292) dL_law_292 rfl rfl ?_
  refine r_aload_n (pc := 293) dL_law_293 rfl rfl ?_
  refine r_iload (pc := 294) dL_law_294 rfl ?_
  refine r_iconst (v := nI 1) (pc := 296) dL_law_296 (by decide) ?_
  refine r_iadd (pc := 297) dL_law_297 ?_
  refine r_taload (n := om_L om) (pc := 298) dL_law_298 law_a (vin_n (k := i + 1) (nadd rfl rfl) (by omega) (by omega)) ?_
  rw [cl_n (k := i + 1) (n := om_L om) (nadd (x := i) (y := 1) rfl rfl) (by omega) (by omega)]
  refine r_aload_n (pc := 299) dL_law_299 rfl rfl ?_
  obtain ⟨C, W, T, U, S, V, ns, cnt, ln, po, wd, t, nu⟩ := k
  obtain ⟨I, J, A, a, v, x0, n⟩ := r
  have ht : t = x0 := G.2.2.2.2
  subst ht
  obtain ⟨Q, q1, q2⟩ := op_setFlow hl G (om_xs om (i + 1))
  refine r_callSH (vs := [.ref 0, .int _, .ref 125]) (pc := 300) 1 6 dL_law_300 rfl l_RL_115 rfl ⟨by decide, by decide⟩ rfl (Nat.le_of_ble_eq_true rfl) hl hB.1 hB.2 (Nat.le_of_ble_eq_true rfl) (w_setFlow hl (om_xs om (i + 1)) q1 hg hf ⟨Nat.le_refl _, Nat.le_refl _⟩) (fun E h1 z => by obtain ⟨c, x, k', w', z, -⟩ := z; cases z) (fun o h1 z hc => by obtain ⟨c, x, k', w', -, -, rfl, -, -⟩ := z; rw [EHp_2, hsf hf] at hc; cases hc) (fun o h1 z => ?_)
  obtain ⟨c, x, k', w', z, hc2, rfl, hq, hw⟩ := z
  cases z
  refine q_istore [_, _, _, _, _, _, _, _, _] (pc := 303) dL_law_303 (by decide) rfl ?_
  refine r_aload_n (pc := 305) dL_law_305 rfl rfl ?_
  refine r_aload_n (pc := 306) dL_law_306 rfl rfl ?_
  refine r_iload (pc := 307) dL_law_307 rfl ?_
  refine r_iconst (v := nI 1) (pc := 309) dL_law_309 (by decide) ?_
  refine r_iadd (pc := 310) dL_law_310 ?_
  refine r_taload (n := om_L om) (pc := 311) dL_law_311 law_a (vin_n (k := i + 1) (nadd rfl rfl) (by omega) (by omega)) ?_
  rw [cl_n (k := i + 1) (n := om_L om) (nadd (x := i) (y := 1) rfl rfl) (by omega) (by omega)]
  refine r_callV (vs := [.int _]) (pc := 312) 0 0 (ci := 9) (T := TX11) (N := 11) dL_law_312 rfl l_RL_117 rfl ⟨by decide, by decide⟩ rfl (Nat.le_of_ble_eq_true rfl) hl EHp_119 rfl (Nat.zero_le _) (Nat.zero_le _) (Nat.le_of_ble_eq_true rfl) (q2 c x k' hq _ _) (fun E h1 z => by obtain ⟨y, r', z, -⟩ := z; cases z) (fun o h1 z hc => by obtain ⟨y, r', -, rfl, -⟩ := z; rw [EHp_2, hsf hf] at hc; cases hc) (fun o h1 z => ?_)
  obtain ⟨y, r', z, rfl, G', h0', hxy⟩ := z
  cases z
  refine q_istore [_, _, _, _, _, _, _, _, _] (pc := 315) dL_law_315 (by decide) rfl ?_
  refine r_aload_n (pc := 317) dL_law_317 rfl rfl ?_
  refine q_callV (ci := 9) (T := TX11) (N := 11) (vs := []) (pc := 318) dL_law_318 rfl l_RL_109 rfl ⟨by decide, by decide⟩ rfl (Nat.le_of_ble_eq_true rfl) hl EHp_119 rfl (Nat.le_of_ble_eq_true rfl) s_thr rfl ?_
  rw [h0']
  refine r_iload (pc := 321) dL_law_321 rfl ?_
  refine r_icmp_eq 328 (pc := 323) dL_law_323 (by decide) (fun _ => ?_) (fun z => absurd rfl z)
  refine r_iload (pc := 328) dL_law_328 rfl ?_
  refine r_if_ne 345 (pc := 330) dL_law_330 (by decide) (fun _ => ?_) (fun hz => ?_)
  · refine r_goto 1849 (pc := 345) dL_law_345 (by decide) ?_
    refine r_wk [some _, some _, some _, some _, some _, none, none, none, none] ⟨rfl, rfl, rfl, rfl, rfl, trivial⟩ ?_
    exact KK _ ⟨Nat.le_refl _, Nat.le_refl _⟩ _ _ _ w' G' hs_same (hsf hf)
  · have c0 : c = 0 := nI_injL (b := 0) (by omega) (by omega) hz
    subst c0
    have exy : x = y := hxy rfl
    subst exy
    refine r_aload_n (pc := 333) dL_law_333 rfl rfl ?_
    refine r_iconst (v := 0) (pc := 334) dL_law_334 rfl ?_
    refine r_laload (n := 1) (f := w') (pc := 335) dL_law_335 ((EHp_out (by omega)).trans hs_same) (vin_n (k := 0) rfl (by decide) (by decide)) ?_
    rw [show Int32.toNatClampNeg 0 = 0 from by decide, hw rfl]
    refine r_iload (pc := 336) dL_law_336 rfl ?_
    refine r_i2l (pc := 338) dL_law_338 ?_
    refine r_lcmp (pc := 339) dL_law_339 ?_
    refine r_if_eq 345 (pc := 340) dL_law_340 (by decide) (fun _ => ?_) (fun z => absurd (cmp_eq.mpr rfl) z)
    refine r_goto 1849 (pc := 345) dL_law_345 (by decide) ?_
    refine r_wk [some _, some _, some _, some _, some _, none, none, none, none] ⟨rfl, rfl, rfl, rfl, rfl, trivial⟩ ?_
    exact KK _ ⟨Nat.le_refl _, Nat.le_refl _⟩ _ _ _ w' G' hs_same (hsf hf)
theorem lc_setFoam (hl : l.stackTraces = false) (i : Nat) (hi : i + 6 ≤ om_L om) (hL : om_L om ≤ 3072) (hB : 1 ≤ B.1 ∧ 6 ≤ B.2) (KK : LawK om l Post i B) (G : GAp k r) (hg : g.1 125 = LA w) (hf : g.2.2 = false) : Runs om l M_L_law B 348 [some (.ref 100000), some (.ref 0), some (.ref 119), some (.ref 125), some (.int (nI i)), none, none, none, none] [] (EHp g k r) Post := by
  refine r_aload_n (pc := 348) dL_law_348 rfl rfl ?_
  refine r_aload_n (pc := 349) dL_law_349 rfl rfl ?_
  refine r_iload (pc := 350) dL_law_350 rfl ?_
  refine r_iconst (v := nI 1) (pc := 352) dL_law_352 (by decide) ?_
  refine r_iadd (pc := 353) dL_law_353 ?_
  refine r_taload (n := om_L om) (pc := 354) dL_law_354 law_a (vin_n (k := i + 1) (nadd rfl rfl) (by omega) (by omega)) ?_
  rw [cl_n (k := i + 1) (n := om_L om) (nadd (x := i) (y := 1) rfl rfl) (by omega) (by omega)]
  refine r_aload_n (pc := 355) dL_law_355 rfl rfl ?_
  obtain ⟨C, W, T, U, S, V, ns, cnt, ln, po, wd, t, nu⟩ := k
  obtain ⟨I, J, A, a, v, x0, n⟩ := r
  have ht : t = x0 := G.2.2.2.2
  subst ht
  obtain ⟨Q, q1, q2⟩ := op_setFoam hl G (om_xs om (i + 1))
  refine r_callSH (vs := [.ref 0, .int _, .ref 125]) (pc := 356) 1 6 dL_law_356 rfl l_RL_118 rfl ⟨by decide, by decide⟩ rfl (Nat.le_of_ble_eq_true rfl) hl hB.1 hB.2 (Nat.le_of_ble_eq_true rfl) (w_setFoam hl (om_xs om (i + 1)) q1 hg hf ⟨Nat.le_refl _, Nat.le_refl _⟩) (fun E h1 z => by obtain ⟨c, x, k', w', z, -⟩ := z; cases z) (fun o h1 z hc => by obtain ⟨c, x, k', w', -, -, rfl, -, -⟩ := z; rw [EHp_2, hsf hf] at hc; cases hc) (fun o h1 z => ?_)
  obtain ⟨c, x, k', w', z, hc2, rfl, hq, hw⟩ := z
  cases z
  refine q_istore [_, _, _, _, _, _, _, _, _] (pc := 359) dL_law_359 (by decide) rfl ?_
  refine r_aload_n (pc := 361) dL_law_361 rfl rfl ?_
  refine r_aload_n (pc := 362) dL_law_362 rfl rfl ?_
  refine r_iload (pc := 363) dL_law_363 rfl ?_
  refine r_iconst (v := nI 1) (pc := 365) dL_law_365 (by decide) ?_
  refine r_iadd (pc := 366) dL_law_366 ?_
  refine r_taload (n := om_L om) (pc := 367) dL_law_367 law_a (vin_n (k := i + 1) (nadd rfl rfl) (by omega) (by omega)) ?_
  rw [cl_n (k := i + 1) (n := om_L om) (nadd (x := i) (y := 1) rfl rfl) (by omega) (by omega)]
  refine r_callV (vs := [.int _]) (pc := 368) 0 0 (ci := 9) (T := TX11) (N := 11) dL_law_368 rfl l_RL_120 rfl ⟨by decide, by decide⟩ rfl (Nat.le_of_ble_eq_true rfl) hl EHp_119 rfl (Nat.zero_le _) (Nat.zero_le _) (Nat.le_of_ble_eq_true rfl) (q2 c x k' hq _ _) (fun E h1 z => by obtain ⟨y, r', z, -⟩ := z; cases z) (fun o h1 z hc => by obtain ⟨y, r', -, rfl, -⟩ := z; rw [EHp_2, hsf hf] at hc; cases hc) (fun o h1 z => ?_)
  obtain ⟨y, r', z, rfl, G', h0', hxy⟩ := z
  cases z
  refine q_istore [_, _, _, _, _, _, _, _, _] (pc := 371) dL_law_371 (by decide) rfl ?_
  refine r_aload_n (pc := 373) dL_law_373 rfl rfl ?_
  refine q_callV (ci := 9) (T := TX11) (N := 11) (vs := []) (pc := 374) dL_law_374 rfl l_RL_109 rfl ⟨by decide, by decide⟩ rfl (Nat.le_of_ble_eq_true rfl) hl EHp_119 rfl (Nat.le_of_ble_eq_true rfl) s_thr rfl ?_
  rw [h0']
  refine r_iload (pc := 377) dL_law_377 rfl ?_
  refine r_icmp_eq 384 (pc := 379) dL_law_379 (by decide) (fun _ => ?_) (fun z => absurd rfl z)
  refine r_iload (pc := 384) dL_law_384 rfl ?_
  refine r_if_ne 401 (pc := 386) dL_law_386 (by decide) (fun _ => ?_) (fun hz => ?_)
  · refine r_goto 1849 (pc := 401) dL_law_401 (by decide) ?_
    refine r_wk [some _, some _, some _, some _, some _, none, none, none, none] ⟨rfl, rfl, rfl, rfl, rfl, trivial⟩ ?_
    exact KK _ ⟨Nat.le_refl _, Nat.le_refl _⟩ _ _ _ w' G' hs_same (hsf hf)
  · have c0 : c = 0 := nI_injL (b := 0) (by omega) (by omega) hz
    subst c0
    have exy : x = y := hxy rfl
    subst exy
    refine r_aload_n (pc := 389) dL_law_389 rfl rfl ?_
    refine r_iconst (v := 0) (pc := 390) dL_law_390 rfl ?_
    refine r_laload (n := 1) (f := w') (pc := 391) dL_law_391 ((EHp_out (by omega)).trans hs_same) (vin_n (k := 0) rfl (by decide) (by decide)) ?_
    rw [show Int32.toNatClampNeg 0 = 0 from by decide, hw rfl]
    refine r_iload (pc := 392) dL_law_392 rfl ?_
    refine r_i2l (pc := 394) dL_law_394 ?_
    refine r_lcmp (pc := 395) dL_law_395 ?_
    refine r_if_eq 401 (pc := 396) dL_law_396 (by decide) (fun _ => ?_) (fun z => absurd (cmp_eq.mpr rfl) z)
    refine r_goto 1849 (pc := 401) dL_law_401 (by decide) ?_
    refine r_wk [some _, some _, some _, some _, some _, none, none, none, none] ⟨rfl, rfl, rfl, rfl, rfl, trivial⟩ ?_
    exact KK _ ⟨Nat.le_refl _, Nat.le_refl _⟩ _ _ _ w' G' hs_same (hsf hf)
theorem lc_addThing (hl : l.stackTraces = false) (i : Nat) (hi : i + 6 ≤ om_L om) (hL : om_L om ≤ 3072) (hB : 1 ≤ B.1 ∧ 6 ≤ B.2) (KK : LawK om l Post i B) (G : GAp k r) (hg : g.1 125 = LA w) (hf : g.2.2 = false) : Runs om l M_L_law B 404 [some (.ref 100000), some (.ref 0), some (.ref 119), some (.ref 125), some (.int (nI i)), none, none, none, none] [] (EHp g k r) Post := by
  refine r_aload_n (pc := 404) dL_law_404 rfl rfl ?_
  refine r_aload_n (pc := 405) dL_law_405 rfl rfl ?_
  refine r_iload (pc := 406) dL_law_406 rfl ?_
  refine r_iconst (v := nI 1) (pc := 408) dL_law_408 (by decide) ?_
  refine r_iadd (pc := 409) dL_law_409 ?_
  refine r_taload (n := om_L om) (pc := 410) dL_law_410 law_a (vin_n (k := i + 1) (nadd rfl rfl) (by omega) (by omega)) ?_
  rw [cl_n (k := i + 1) (n := om_L om) (nadd (x := i) (y := 1) rfl rfl) (by omega) (by omega)]
  refine r_aload_n (pc := 411) dL_law_411 rfl rfl ?_
  refine r_iload (pc := 412) dL_law_412 rfl ?_
  refine r_iconst (v := nI 2) (pc := 414) dL_law_414 (by decide) ?_
  refine r_iadd (pc := 415) dL_law_415 ?_
  refine r_taload (n := om_L om) (pc := 416) dL_law_416 law_a (vin_n (k := i + 2) (nadd rfl rfl) (by omega) (by omega)) ?_
  rw [cl_n (k := i + 2) (n := om_L om) (nadd (x := i) (y := 2) rfl rfl) (by omega) (by omega)]
  refine r_aload_n (pc := 417) dL_law_417 rfl rfl ?_
  obtain ⟨C, W, T, U, S, V, ns, cnt, ln, po, wd, t, nu⟩ := k
  obtain ⟨I, J, A, a, v, x0, n⟩ := r
  have ht : t = x0 := G.2.2.2.2
  subst ht
  obtain ⟨Q, q1, q2⟩ := op_addThing hl G (om_xs om (i + 1)) (om_xs om (i + 2))
  refine r_callSH (vs := [.ref 0, .int _, .int _, .ref 125]) (pc := 418) 1 6 dL_law_418 rfl l_RL_121 rfl ⟨by decide, by decide⟩ rfl (Nat.le_of_ble_eq_true rfl) hl hB.1 hB.2 (Nat.le_of_ble_eq_true rfl) (w_addThing hl (om_xs om (i + 1)) (om_xs om (i + 2)) q1 hg hf ⟨Nat.le_refl _, Nat.le_refl _⟩) (fun E h1 z => by obtain ⟨c, x, k', w', z, -⟩ := z; cases z) (fun o h1 z hc => by obtain ⟨c, x, k', w', -, -, rfl, -, -⟩ := z; rw [EHp_2, hsf hf] at hc; cases hc) (fun o h1 z => ?_)
  obtain ⟨c, x, k', w', z, hc2, rfl, hq, hw⟩ := z
  cases z
  refine q_istore [_, _, _, _, _, _, _, _, _] (pc := 421) dL_law_421 (by decide) rfl ?_
  refine r_aload_n (pc := 423) dL_law_423 rfl rfl ?_
  refine r_aload_n (pc := 424) dL_law_424 rfl rfl ?_
  refine r_iload (pc := 425) dL_law_425 rfl ?_
  refine r_iconst (v := nI 1) (pc := 427) dL_law_427 (by decide) ?_
  refine r_iadd (pc := 428) dL_law_428 ?_
  refine r_taload (n := om_L om) (pc := 429) dL_law_429 law_a (vin_n (k := i + 1) (nadd rfl rfl) (by omega) (by omega)) ?_
  rw [cl_n (k := i + 1) (n := om_L om) (nadd (x := i) (y := 1) rfl rfl) (by omega) (by omega)]
  refine r_aload_n (pc := 430) dL_law_430 rfl rfl ?_
  refine r_iload (pc := 431) dL_law_431 rfl ?_
  refine r_iconst (v := nI 2) (pc := 433) dL_law_433 (by decide) ?_
  refine r_iadd (pc := 434) dL_law_434 ?_
  refine r_taload (n := om_L om) (pc := 435) dL_law_435 law_a (vin_n (k := i + 2) (nadd rfl rfl) (by omega) (by omega)) ?_
  rw [cl_n (k := i + 2) (n := om_L om) (nadd (x := i) (y := 2) rfl rfl) (by omega) (by omega)]
  refine r_callV (vs := [.int _, .int _]) (pc := 436) 0 0 (ci := 9) (T := TX11) (N := 11) dL_law_436 rfl l_RL_124 rfl ⟨by decide, by decide⟩ rfl (Nat.le_of_ble_eq_true rfl) hl EHp_119 rfl (Nat.zero_le _) (Nat.zero_le _) (Nat.le_of_ble_eq_true rfl) (q2 c x k' hq _ _) (fun E h1 z => by obtain ⟨y, r', z, -⟩ := z; cases z) (fun o h1 z hc => by obtain ⟨y, r', -, rfl, -⟩ := z; rw [EHp_2, hsf hf] at hc; cases hc) (fun o h1 z => ?_)
  obtain ⟨y, r', z, rfl, G', h0', hxy⟩ := z
  cases z
  refine q_istore [_, _, _, _, _, _, _, _, _] (pc := 439) dL_law_439 (by decide) rfl ?_
  refine r_aload_n (pc := 441) dL_law_441 rfl rfl ?_
  refine q_callV (ci := 9) (T := TX11) (N := 11) (vs := []) (pc := 442) dL_law_442 rfl l_RL_109 rfl ⟨by decide, by decide⟩ rfl (Nat.le_of_ble_eq_true rfl) hl EHp_119 rfl (Nat.le_of_ble_eq_true rfl) s_thr rfl ?_
  rw [h0']
  refine r_iload (pc := 445) dL_law_445 rfl ?_
  refine r_icmp_eq 452 (pc := 447) dL_law_447 (by decide) (fun _ => ?_) (fun z => absurd rfl z)
  refine r_iload (pc := 452) dL_law_452 rfl ?_
  refine r_if_ne 469 (pc := 454) dL_law_454 (by decide) (fun _ => ?_) (fun hz => ?_)
  · refine r_goto 1849 (pc := 469) dL_law_469 (by decide) ?_
    refine r_wk [some _, some _, some _, some _, some _, none, none, none, none] ⟨rfl, rfl, rfl, rfl, rfl, trivial⟩ ?_
    exact KK _ ⟨Nat.le_refl _, Nat.le_refl _⟩ _ _ _ w' G' hs_same (hsf hf)
  · have c0 : c = 0 := nI_injL (b := 0) (by omega) (by omega) hz
    subst c0
    have exy : x = y := hxy rfl
    subst exy
    refine r_aload_n (pc := 457) dL_law_457 rfl rfl ?_
    refine r_iconst (v := 0) (pc := 458) dL_law_458 rfl ?_
    refine r_laload (n := 1) (f := w') (pc := 459) dL_law_459 ((EHp_out (by omega)).trans hs_same) (vin_n (k := 0) rfl (by decide) (by decide)) ?_
    rw [show Int32.toNatClampNeg 0 = 0 from by decide, hw rfl]
    refine r_iload (pc := 460) dL_law_460 rfl ?_
    refine r_i2l (pc := 462) dL_law_462 ?_
    refine r_lcmp (pc := 463) dL_law_463 ?_
    refine r_if_eq 469 (pc := 464) dL_law_464 (by decide) (fun _ => ?_) (fun z => absurd (cmp_eq.mpr rfl) z)
    refine r_goto 1849 (pc := 469) dL_law_469 (by decide) ?_
    refine r_wk [some _, some _, some _, some _, some _, none, none, none, none] ⟨rfl, rfl, rfl, rfl, rfl, trivial⟩ ?_
    exact KK _ ⟨Nat.le_refl _, Nat.le_refl _⟩ _ _ _ w' G' hs_same (hsf hf)
theorem lc_removeThing (hl : l.stackTraces = false) (i : Nat) (hi : i + 6 ≤ om_L om) (hL : om_L om ≤ 3072) (hB : 1 ≤ B.1 ∧ 6 ≤ B.2) (KK : LawK om l Post i B) (G : GAp k r) (hg : g.1 125 = LA w) (hf : g.2.2 = false) : Runs om l M_L_law B 472 [some (.ref 100000), some (.ref 0), some (.ref 119), some (.ref 125), some (.int (nI i)), none, none, none, none] [] (EHp g k r) Post := by
  refine r_aload_n (pc := 472) dL_law_472 rfl rfl ?_
  refine r_aload_n (pc := 473) dL_law_473 rfl rfl ?_
  refine r_iload (pc := 474) dL_law_474 rfl ?_
  refine r_iconst (v := nI 1) (pc := 476) dL_law_476 (by decide) ?_
  refine r_iadd (pc := 477) dL_law_477 ?_
  refine r_taload (n := om_L om) (pc := 478) dL_law_478 law_a (vin_n (k := i + 1) (nadd rfl rfl) (by omega) (by omega)) ?_
  rw [cl_n (k := i + 1) (n := om_L om) (nadd (x := i) (y := 1) rfl rfl) (by omega) (by omega)]
  refine r_aload_n (pc := 479) dL_law_479 rfl rfl ?_
  obtain ⟨C, W, T, U, S, V, ns, cnt, ln, po, wd, t, nu⟩ := k
  obtain ⟨I, J, A, a, v, x0, n⟩ := r
  have ht : t = x0 := G.2.2.2.2
  subst ht
  obtain ⟨Q, q1, q2⟩ := op_removeThing hl G (om_xs om (i + 1))
  refine r_callSH (vs := [.ref 0, .int _, .ref 125]) (pc := 480) 1 6 dL_law_480 rfl l_RL_125 rfl ⟨by decide, by decide⟩ rfl (Nat.le_of_ble_eq_true rfl) hl hB.1 hB.2 (Nat.le_of_ble_eq_true rfl) (w_removeThing hl (om_xs om (i + 1)) q1 hg hf ⟨Nat.le_refl _, Nat.le_refl _⟩) (fun E h1 z => by obtain ⟨c, x, k', w', z, -⟩ := z; cases z) (fun o h1 z hc => by obtain ⟨c, x, k', w', -, -, rfl, -, -⟩ := z; rw [EHp_2, hsf hf] at hc; cases hc) (fun o h1 z => ?_)
  obtain ⟨c, x, k', w', z, hc2, rfl, hq, hw⟩ := z
  cases z
  refine q_istore [_, _, _, _, _, _, _, _, _] (pc := 483) dL_law_483 (by decide) rfl ?_
  refine r_aload_n (pc := 485) dL_law_485 rfl rfl ?_
  refine r_aload_n (pc := 486) dL_law_486 rfl rfl ?_
  refine r_iload (pc := 487) dL_law_487 rfl ?_
  refine r_iconst (v := nI 1) (pc := 489) dL_law_489 (by decide) ?_
  refine r_iadd (pc := 490) dL_law_490 ?_
  refine r_taload (n := om_L om) (pc := 491) dL_law_491 law_a (vin_n (k := i + 1) (nadd rfl rfl) (by omega) (by omega)) ?_
  rw [cl_n (k := i + 1) (n := om_L om) (nadd (x := i) (y := 1) rfl rfl) (by omega) (by omega)]
  refine r_callV (vs := [.int _]) (pc := 492) 0 0 (ci := 9) (T := TX11) (N := 11) dL_law_492 rfl l_RL_127 rfl ⟨by decide, by decide⟩ rfl (Nat.le_of_ble_eq_true rfl) hl EHp_119 rfl (Nat.zero_le _) (Nat.zero_le _) (Nat.le_of_ble_eq_true rfl) (q2 c x k' hq _ _) (fun E h1 z => by obtain ⟨y, r', z, -⟩ := z; cases z) (fun o h1 z hc => by obtain ⟨y, r', -, rfl, -⟩ := z; rw [EHp_2, hsf hf] at hc; cases hc) (fun o h1 z => ?_)
  obtain ⟨y, r', z, rfl, G', h0', hxy⟩ := z
  cases z
  refine q_istore [_, _, _, _, _, _, _, _, _] (pc := 495) dL_law_495 (by decide) rfl ?_
  refine r_aload_n (pc := 497) dL_law_497 rfl rfl ?_
  refine q_callV (ci := 9) (T := TX11) (N := 11) (vs := []) (pc := 498) dL_law_498 rfl l_RL_109 rfl ⟨by decide, by decide⟩ rfl (Nat.le_of_ble_eq_true rfl) hl EHp_119 rfl (Nat.le_of_ble_eq_true rfl) s_thr rfl ?_
  rw [h0']
  refine r_iload (pc := 501) dL_law_501 rfl ?_
  refine r_icmp_eq 508 (pc := 503) dL_law_503 (by decide) (fun _ => ?_) (fun z => absurd rfl z)
  refine r_iload (pc := 508) dL_law_508 rfl ?_
  refine r_if_ne 525 (pc := 510) dL_law_510 (by decide) (fun _ => ?_) (fun hz => ?_)
  · refine r_goto 1849 (pc := 525) dL_law_525 (by decide) ?_
    refine r_wk [some _, some _, some _, some _, some _, none, none, none, none] ⟨rfl, rfl, rfl, rfl, rfl, trivial⟩ ?_
    exact KK _ ⟨Nat.le_refl _, Nat.le_refl _⟩ _ _ _ w' G' hs_same (hsf hf)
  · have c0 : c = 0 := nI_injL (b := 0) (by omega) (by omega) hz
    subst c0
    have exy : x = y := hxy rfl
    subst exy
    refine r_aload_n (pc := 513) dL_law_513 rfl rfl ?_
    refine r_iconst (v := 0) (pc := 514) dL_law_514 rfl ?_
    refine r_laload (n := 1) (f := w') (pc := 515) dL_law_515 ((EHp_out (by omega)).trans hs_same) (vin_n (k := 0) rfl (by decide) (by decide)) ?_
    rw [show Int32.toNatClampNeg 0 = 0 from by decide, hw rfl]
    refine r_iload (pc := 516) dL_law_516 rfl ?_
    refine r_i2l (pc := 518) dL_law_518 ?_
    refine r_lcmp (pc := 519) dL_law_519 ?_
    refine r_if_eq 525 (pc := 520) dL_law_520 (by decide) (fun _ => ?_) (fun z => absurd (cmp_eq.mpr rfl) z)
    refine r_goto 1849 (pc := 525) dL_law_525 (by decide) ?_
    refine r_wk [some _, some _, some _, some _, some _, none, none, none, none] ⟨rfl, rfl, rfl, rfl, rfl, trivial⟩ ?_
    exact KK _ ⟨Nat.le_refl _, Nat.le_refl _⟩ _ _ _ w' G' hs_same (hsf hf)
theorem lc_setStirrer (hl : l.stackTraces = false) (i : Nat) (hi : i + 6 ≤ om_L om) (hL : om_L om ≤ 3072) (hB : 1 ≤ B.1 ∧ 6 ≤ B.2) (KK : LawK om l Post i B) (G : GAp k r) (hg : g.1 125 = LA w) (hf : g.2.2 = false) : Runs om l M_L_law B 528 [some (.ref 100000), some (.ref 0), some (.ref 119), some (.ref 125), some (.int (nI i)), none, none, none, none] [] (EHp g k r) Post := by
  refine r_aload_n (pc := 528) dL_law_528 rfl rfl ?_
  refine r_aload_n (pc := 529) dL_law_529 rfl rfl ?_
  refine r_iload (pc := 530) dL_law_530 rfl ?_
  refine r_iconst (v := nI 1) (pc := 532) dL_law_532 (by decide) ?_
  refine r_iadd (pc := 533) dL_law_533 ?_
  refine r_taload (n := om_L om) (pc := 534) dL_law_534 law_a (vin_n (k := i + 1) (nadd rfl rfl) (by omega) (by omega)) ?_
  rw [cl_n (k := i + 1) (n := om_L om) (nadd (x := i) (y := 1) rfl rfl) (by omega) (by omega)]
  refine r_aload_n (pc := 535) dL_law_535 rfl rfl ?_
  refine r_iload (pc := 536) dL_law_536 rfl ?_
  refine r_iconst (v := nI 2) (pc := 538) dL_law_538 (by decide) ?_
  refine r_iadd (pc := 539) dL_law_539 ?_
  refine r_taload (n := om_L om) (pc := 540) dL_law_540 law_a (vin_n (k := i + 2) (nadd rfl rfl) (by omega) (by omega)) ?_
  rw [cl_n (k := i + 2) (n := om_L om) (nadd (x := i) (y := 2) rfl rfl) (by omega) (by omega)]
  refine r_aload_n (pc := 541) dL_law_541 rfl rfl ?_
  refine r_iload (pc := 542) dL_law_542 rfl ?_
  refine r_iconst (v := nI 3) (pc := 544) dL_law_544 (by decide) ?_
  refine r_iadd (pc := 545) dL_law_545 ?_
  refine r_taload (n := om_L om) (pc := 546) dL_law_546 law_a (vin_n (k := i + 3) (nadd rfl rfl) (by omega) (by omega)) ?_
  rw [cl_n (k := i + 3) (n := om_L om) (nadd (x := i) (y := 3) rfl rfl) (by omega) (by omega)]
  refine r_aload_n (pc := 547) dL_law_547 rfl rfl ?_
  refine r_iload (pc := 548) dL_law_548 rfl ?_
  refine r_iconst (v := nI 4) (pc := 550) dL_law_550 (by decide) ?_
  refine r_iadd (pc := 551) dL_law_551 ?_
  refine r_taload (n := om_L om) (pc := 552) dL_law_552 law_a (vin_n (k := i + 4) (nadd rfl rfl) (by omega) (by omega)) ?_
  rw [cl_n (k := i + 4) (n := om_L om) (nadd (x := i) (y := 4) rfl rfl) (by omega) (by omega)]
  refine r_aload_n (pc := 553) dL_law_553 rfl rfl ?_
  refine r_iload (pc := 554) dL_law_554 rfl ?_
  refine r_iconst (v := nI 5) (pc := 556) dL_law_556 (by decide) ?_
  refine r_iadd (pc := 557) dL_law_557 ?_
  refine r_taload (n := om_L om) (pc := 558) dL_law_558 law_a (vin_n (k := i + 5) (nadd rfl rfl) (by omega) (by omega)) ?_
  rw [cl_n (k := i + 5) (n := om_L om) (nadd (x := i) (y := 5) rfl rfl) (by omega) (by omega)]
  refine r_aload_n (pc := 559) dL_law_559 rfl rfl ?_
  obtain ⟨C, W, T, U, S, V, ns, cnt, ln, po, wd, t, nu⟩ := k
  obtain ⟨I, J, A, a, v, x0, n⟩ := r
  have ht : t = x0 := G.2.2.2.2
  subst ht
  obtain ⟨Q, q1, q2⟩ := op_setStirrer hl G (om_xs om (i + 1)) (om_xs om (i + 2)) (om_xs om (i + 3)) (om_xs om (i + 4)) (om_xs om (i + 5))
  refine r_callSH (vs := [.ref 0, .int _, .int _, .int _, .int _, .int _, .ref 125]) (pc := 560) 1 6 dL_law_560 rfl l_RL_128 rfl ⟨by decide, by decide⟩ rfl (Nat.le_of_ble_eq_true rfl) hl hB.1 hB.2 (Nat.le_of_ble_eq_true rfl) (w_setStirrer hl (om_xs om (i + 1)) (om_xs om (i + 2)) (om_xs om (i + 3)) (om_xs om (i + 4)) (om_xs om (i + 5)) q1 hg hf ⟨Nat.le_refl _, Nat.le_refl _⟩) (fun E h1 z => by obtain ⟨c, x, k', w', z, -⟩ := z; cases z) (fun o h1 z hc => by obtain ⟨c, x, k', w', -, -, rfl, -, -⟩ := z; rw [EHp_2, hsf hf] at hc; cases hc) (fun o h1 z => ?_)
  obtain ⟨c, x, k', w', z, hc2, rfl, hq, hw⟩ := z
  cases z
  refine q_istore [_, _, _, _, _, _, _, _, _] (pc := 563) dL_law_563 (by decide) rfl ?_
  refine r_aload_n (pc := 565) dL_law_565 rfl rfl ?_
  refine r_aload_n (pc := 566) dL_law_566 rfl rfl ?_
  refine r_iload (pc := 567) dL_law_567 rfl ?_
  refine r_iconst (v := nI 1) (pc := 569) dL_law_569 (by decide) ?_
  refine r_iadd (pc := 570) dL_law_570 ?_
  refine r_taload (n := om_L om) (pc := 571) dL_law_571 law_a (vin_n (k := i + 1) (nadd rfl rfl) (by omega) (by omega)) ?_
  rw [cl_n (k := i + 1) (n := om_L om) (nadd (x := i) (y := 1) rfl rfl) (by omega) (by omega)]
  refine r_aload_n (pc := 572) dL_law_572 rfl rfl ?_
  refine r_iload (pc := 573) dL_law_573 rfl ?_
  refine r_iconst (v := nI 2) (pc := 575) dL_law_575 (by decide) ?_
  refine r_iadd (pc := 576) dL_law_576 ?_
  refine r_taload (n := om_L om) (pc := 577) dL_law_577 law_a (vin_n (k := i + 2) (nadd rfl rfl) (by omega) (by omega)) ?_
  rw [cl_n (k := i + 2) (n := om_L om) (nadd (x := i) (y := 2) rfl rfl) (by omega) (by omega)]
  refine r_aload_n (pc := 578) dL_law_578 rfl rfl ?_
  refine r_iload (pc := 579) dL_law_579 rfl ?_
  refine r_iconst (v := nI 3) (pc := 581) dL_law_581 (by decide) ?_
  refine r_iadd (pc := 582) dL_law_582 ?_
  refine r_taload (n := om_L om) (pc := 583) dL_law_583 law_a (vin_n (k := i + 3) (nadd rfl rfl) (by omega) (by omega)) ?_
  rw [cl_n (k := i + 3) (n := om_L om) (nadd (x := i) (y := 3) rfl rfl) (by omega) (by omega)]
  refine r_aload_n (pc := 584) dL_law_584 rfl rfl ?_
  refine r_iload (pc := 585) dL_law_585 rfl ?_
  refine r_iconst (v := nI 4) (pc := 587) dL_law_587 (by decide) ?_
  refine r_iadd (pc := 588) dL_law_588 ?_
  refine r_taload (n := om_L om) (pc := 589) dL_law_589 law_a (vin_n (k := i + 4) (nadd rfl rfl) (by omega) (by omega)) ?_
  rw [cl_n (k := i + 4) (n := om_L om) (nadd (x := i) (y := 4) rfl rfl) (by omega) (by omega)]
  refine r_aload_n (pc := 590) dL_law_590 rfl rfl ?_
  refine r_iload (pc := 591) dL_law_591 rfl ?_
  refine r_iconst (v := nI 5) (pc := 593) dL_law_593 (by decide) ?_
  refine r_iadd (pc := 594) dL_law_594 ?_
  refine r_taload (n := om_L om) (pc := 595) dL_law_595 law_a (vin_n (k := i + 5) (nadd rfl rfl) (by omega) (by omega)) ?_
  rw [cl_n (k := i + 5) (n := om_L om) (nadd (x := i) (y := 5) rfl rfl) (by omega) (by omega)]
  refine r_callV (vs := [.int _, .int _, .int _, .int _, .int _]) (pc := 596) 0 0 (ci := 9) (T := TX11) (N := 11) dL_law_596 rfl l_RL_131 rfl ⟨by decide, by decide⟩ rfl (Nat.le_of_ble_eq_true rfl) hl EHp_119 rfl (Nat.zero_le _) (Nat.zero_le _) (Nat.le_of_ble_eq_true rfl) (q2 c x k' hq _ _) (fun E h1 z => by obtain ⟨y, r', z, -⟩ := z; cases z) (fun o h1 z hc => by obtain ⟨y, r', -, rfl, -⟩ := z; rw [EHp_2, hsf hf] at hc; cases hc) (fun o h1 z => ?_)
  obtain ⟨y, r', z, rfl, G', h0', hxy⟩ := z
  cases z
  refine q_istore [_, _, _, _, _, _, _, _, _] (pc := 599) dL_law_599 (by decide) rfl ?_
  refine r_aload_n (pc := 601) dL_law_601 rfl rfl ?_
  refine q_callV (ci := 9) (T := TX11) (N := 11) (vs := []) (pc := 602) dL_law_602 rfl l_RL_109 rfl ⟨by decide, by decide⟩ rfl (Nat.le_of_ble_eq_true rfl) hl EHp_119 rfl (Nat.le_of_ble_eq_true rfl) s_thr rfl ?_
  rw [h0']
  refine r_iload (pc := 605) dL_law_605 rfl ?_
  refine r_icmp_eq 612 (pc := 607) dL_law_607 (by decide) (fun _ => ?_) (fun z => absurd rfl z)
  refine r_iload (pc := 612) dL_law_612 rfl ?_
  refine r_if_ne 629 (pc := 614) dL_law_614 (by decide) (fun _ => ?_) (fun hz => ?_)
  · refine r_goto 1849 (pc := 629) dL_law_629 (by decide) ?_
    refine r_wk [some _, some _, some _, some _, some _, none, none, none, none] ⟨rfl, rfl, rfl, rfl, rfl, trivial⟩ ?_
    exact KK _ ⟨Nat.le_refl _, Nat.le_refl _⟩ _ _ _ w' G' hs_same (hsf hf)
  · have c0 : c = 0 := nI_injL (b := 0) (by omega) (by omega) hz
    subst c0
    have exy : x = y := hxy rfl
    subst exy
    refine r_aload_n (pc := 617) dL_law_617 rfl rfl ?_
    refine r_iconst (v := 0) (pc := 618) dL_law_618 rfl ?_
    refine r_laload (n := 1) (f := w') (pc := 619) dL_law_619 ((EHp_out (by omega)).trans hs_same) (vin_n (k := 0) rfl (by decide) (by decide)) ?_
    rw [show Int32.toNatClampNeg 0 = 0 from by decide, hw rfl]
    refine r_iload (pc := 620) dL_law_620 rfl ?_
    refine r_i2l (pc := 622) dL_law_622 ?_
    refine r_lcmp (pc := 623) dL_law_623 ?_
    refine r_if_eq 629 (pc := 624) dL_law_624 (by decide) (fun _ => ?_) (fun z => absurd (cmp_eq.mpr rfl) z)
    refine r_goto 1849 (pc := 629) dL_law_629 (by decide) ?_
    refine r_wk [some _, some _, some _, some _, some _, none, none, none, none] ⟨rfl, rfl, rfl, rfl, rfl, trivial⟩ ?_
    exact KK _ ⟨Nat.le_refl _, Nat.le_refl _⟩ _ _ _ w' G' hs_same (hsf hf)
theorem lc_set (hl : l.stackTraces = false) (i : Nat) (hi : i + 6 ≤ om_L om) (hL : om_L om ≤ 3072) (hB : 1 ≤ B.1 ∧ 6 ≤ B.2) (KK : LawK om l Post i B) (G : GAp k r) (hg : g.1 125 = LA w) (hf : g.2.2 = false) : Runs om l M_L_law B 632 [some (.ref 100000), some (.ref 0), some (.ref 119), some (.ref 125), some (.int (nI i)), none, none, none, none] [] (EHp g k r) Post := by
  refine r_aload_n (pc := 632) dL_law_632 rfl rfl ?_
  refine r_aload_n (pc := 633) dL_law_633 rfl rfl ?_
  refine r_iload (pc := 634) dL_law_634 rfl ?_
  refine r_iconst (v := nI 1) (pc := 636) dL_law_636 (by decide) ?_
  refine r_iadd (pc := 637) dL_law_637 ?_
  refine r_taload (n := om_L om) (pc := 638) dL_law_638 law_a (vin_n (k := i + 1) (nadd rfl rfl) (by omega) (by omega)) ?_
  rw [cl_n (k := i + 1) (n := om_L om) (nadd (x := i) (y := 1) rfl rfl) (by omega) (by omega)]
  refine r_aload_n (pc := 639) dL_law_639 rfl rfl ?_
  refine r_iload (pc := 640) dL_law_640 rfl ?_
  refine r_iconst (v := nI 2) (pc := 642) dL_law_642 (by decide) ?_
  refine r_iadd (pc := 643) dL_law_643 ?_
  refine r_taload (n := om_L om) (pc := 644) dL_law_644 law_a (vin_n (k := i + 2) (nadd rfl rfl) (by omega) (by omega)) ?_
  rw [cl_n (k := i + 2) (n := om_L om) (nadd (x := i) (y := 2) rfl rfl) (by omega) (by omega)]
  refine r_aload_n (pc := 645) dL_law_645 rfl rfl ?_
  obtain ⟨C, W, T, U, S, V, ns, cnt, ln, po, wd, t, nu⟩ := k
  obtain ⟨I, J, A, a, v, x0, n⟩ := r
  have ht : t = x0 := G.2.2.2.2
  subst ht
  obtain ⟨Q, q1, q2⟩ := op_set hl G (om_xs om (i + 1)) (om_xs om (i + 2))
  refine r_callSH (vs := [.ref 0, .int _, .int _, .ref 125]) (pc := 646) 1 6 dL_law_646 rfl l_RL_132 rfl ⟨by decide, by decide⟩ rfl (Nat.le_of_ble_eq_true rfl) hl hB.1 hB.2 (Nat.le_of_ble_eq_true rfl) (w_set hl (om_xs om (i + 1)) (om_xs om (i + 2)) q1 hg hf ⟨Nat.le_refl _, Nat.le_refl _⟩) (fun E h1 z => by obtain ⟨c, x, k', w', z, -⟩ := z; cases z) (fun o h1 z hc => by obtain ⟨c, x, k', w', -, -, rfl, -, -⟩ := z; rw [EHp_2, hsf hf] at hc; cases hc) (fun o h1 z => ?_)
  obtain ⟨c, x, k', w', z, hc2, rfl, hq, hw⟩ := z
  cases z
  refine q_istore [_, _, _, _, _, _, _, _, _] (pc := 649) dL_law_649 (by decide) rfl ?_
  refine r_aload_n (pc := 651) dL_law_651 rfl rfl ?_
  refine r_aload_n (pc := 652) dL_law_652 rfl rfl ?_
  refine r_iload (pc := 653) dL_law_653 rfl ?_
  refine r_iconst (v := nI 1) (pc := 655) dL_law_655 (by decide) ?_
  refine r_iadd (pc := 656) dL_law_656 ?_
  refine r_taload (n := om_L om) (pc := 657) dL_law_657 law_a (vin_n (k := i + 1) (nadd rfl rfl) (by omega) (by omega)) ?_
  rw [cl_n (k := i + 1) (n := om_L om) (nadd (x := i) (y := 1) rfl rfl) (by omega) (by omega)]
  refine r_aload_n (pc := 658) dL_law_658 rfl rfl ?_
  refine r_iload (pc := 659) dL_law_659 rfl ?_
  refine r_iconst (v := nI 2) (pc := 661) dL_law_661 (by decide) ?_
  refine r_iadd (pc := 662) dL_law_662 ?_
  refine r_taload (n := om_L om) (pc := 663) dL_law_663 law_a (vin_n (k := i + 2) (nadd rfl rfl) (by omega) (by omega)) ?_
  rw [cl_n (k := i + 2) (n := om_L om) (nadd (x := i) (y := 2) rfl rfl) (by omega) (by omega)]
  refine r_callV (vs := [.int _, .int _]) (pc := 664) 0 0 (ci := 9) (T := TX11) (N := 11) dL_law_664 rfl l_RL_134 rfl ⟨by decide, by decide⟩ rfl (Nat.le_of_ble_eq_true rfl) hl EHp_119 rfl (Nat.zero_le _) (Nat.zero_le _) (Nat.le_of_ble_eq_true rfl) (q2 c x k' hq _ _) (fun E h1 z => by obtain ⟨y, r', z, -⟩ := z; cases z) (fun o h1 z hc => by obtain ⟨y, r', -, rfl, -⟩ := z; rw [EHp_2, hsf hf] at hc; cases hc) (fun o h1 z => ?_)
  obtain ⟨y, r', z, rfl, G', h0', hxy⟩ := z
  cases z
  refine q_istore [_, _, _, _, _, _, _, _, _] (pc := 667) dL_law_667 (by decide) rfl ?_
  refine r_aload_n (pc := 669) dL_law_669 rfl rfl ?_
  refine q_callV (ci := 9) (T := TX11) (N := 11) (vs := []) (pc := 670) dL_law_670 rfl l_RL_109 rfl ⟨by decide, by decide⟩ rfl (Nat.le_of_ble_eq_true rfl) hl EHp_119 rfl (Nat.le_of_ble_eq_true rfl) s_thr rfl ?_
  rw [h0']
  refine r_iload (pc := 673) dL_law_673 rfl ?_
  refine r_icmp_eq 680 (pc := 675) dL_law_675 (by decide) (fun _ => ?_) (fun z => absurd rfl z)
  refine r_iload (pc := 680) dL_law_680 rfl ?_
  refine r_if_ne 697 (pc := 682) dL_law_682 (by decide) (fun _ => ?_) (fun hz => ?_)
  · refine r_goto 1849 (pc := 697) dL_law_697 (by decide) ?_
    refine r_wk [some _, some _, some _, some _, some _, none, none, none, none] ⟨rfl, rfl, rfl, rfl, rfl, trivial⟩ ?_
    exact KK _ ⟨Nat.le_refl _, Nat.le_refl _⟩ _ _ _ w' G' hs_same (hsf hf)
  · have c0 : c = 0 := nI_injL (b := 0) (by omega) (by omega) hz
    subst c0
    have exy : x = y := hxy rfl
    subst exy
    refine r_aload_n (pc := 685) dL_law_685 rfl rfl ?_
    refine r_iconst (v := 0) (pc := 686) dL_law_686 rfl ?_
    refine r_laload (n := 1) (f := w') (pc := 687) dL_law_687 ((EHp_out (by omega)).trans hs_same) (vin_n (k := 0) rfl (by decide) (by decide)) ?_
    rw [show Int32.toNatClampNeg 0 = 0 from by decide, hw rfl]
    refine r_iload (pc := 688) dL_law_688 rfl ?_
    refine r_i2l (pc := 690) dL_law_690 ?_
    refine r_lcmp (pc := 691) dL_law_691 ?_
    refine r_if_eq 697 (pc := 692) dL_law_692 (by decide) (fun _ => ?_) (fun z => absurd (cmp_eq.mpr rfl) z)
    refine r_goto 1849 (pc := 697) dL_law_697 (by decide) ?_
    refine r_wk [some _, some _, some _, some _, some _, none, none, none, none] ⟨rfl, rfl, rfl, rfl, rfl, trivial⟩ ?_
    exact KK _ ⟨Nat.le_refl _, Nat.le_refl _⟩ _ _ _ w' G' hs_same (hsf hf)
theorem lc_setS (hl : l.stackTraces = false) (i : Nat) (hi : i + 6 ≤ om_L om) (hL : om_L om ≤ 3072) (hB : 1 ≤ B.1 ∧ 6 ≤ B.2) (KK : LawK om l Post i B) (G : GAp k r) (hg : g.1 125 = LA w) (hf : g.2.2 = false) : Runs om l M_L_law B 700 [some (.ref 100000), some (.ref 0), some (.ref 119), some (.ref 125), some (.int (nI i)), none, none, none, none] [] (EHp g k r) Post := by
  refine r_aload_n (pc := 700) dL_law_700 rfl rfl ?_
  refine r_aload_n (pc := 701) dL_law_701 rfl rfl ?_
  refine r_iload (pc := 702) dL_law_702 rfl ?_
  refine r_iconst (v := nI 1) (pc := 704) dL_law_704 (by decide) ?_
  refine r_iadd (pc := 705) dL_law_705 ?_
  refine r_taload (n := om_L om) (pc := 706) dL_law_706 law_a (vin_n (k := i + 1) (nadd rfl rfl) (by omega) (by omega)) ?_
  rw [cl_n (k := i + 1) (n := om_L om) (nadd (x := i) (y := 1) rfl rfl) (by omega) (by omega)]
  refine r_aload_n (pc := 707) dL_law_707 rfl rfl ?_
  obtain ⟨C, W, T, U, S, V, ns, cnt, ln, po, wd, t, nu⟩ := k
  obtain ⟨I, J, A, a, v, x0, n⟩ := r
  have ht : t = x0 := G.2.2.2.2
  subst ht
  obtain ⟨Q, q1, q2⟩ := op_setS hl G (om_xs om (i + 1))
  refine r_callSH (vs := [.ref 0, .int _, .ref 125]) (pc := 708) 1 6 dL_law_708 rfl l_RL_135 rfl ⟨by decide, by decide⟩ rfl (Nat.le_of_ble_eq_true rfl) hl hB.1 hB.2 (Nat.le_of_ble_eq_true rfl) (w_setS hl (om_xs om (i + 1)) q1 hg hf ⟨Nat.le_refl _, Nat.le_refl _⟩) (fun E h1 z => by obtain ⟨c, x, k', w', z, -⟩ := z; cases z) (fun o h1 z hc => by obtain ⟨c, x, k', w', -, -, rfl, -, -⟩ := z; rw [EHp_2, hsf hf] at hc; cases hc) (fun o h1 z => ?_)
  obtain ⟨c, x, k', w', z, hc2, rfl, hq, hw⟩ := z
  cases z
  refine q_istore [_, _, _, _, _, _, _, _, _] (pc := 711) dL_law_711 (by decide) rfl ?_
  refine r_aload_n (pc := 713) dL_law_713 rfl rfl ?_
  refine r_aload_n (pc := 714) dL_law_714 rfl rfl ?_
  refine r_iload (pc := 715) dL_law_715 rfl ?_
  refine r_iconst (v := nI 1) (pc := 717) dL_law_717 (by decide) ?_
  refine r_iadd (pc := 718) dL_law_718 ?_
  refine r_taload (n := om_L om) (pc := 719) dL_law_719 law_a (vin_n (k := i + 1) (nadd rfl rfl) (by omega) (by omega)) ?_
  rw [cl_n (k := i + 1) (n := om_L om) (nadd (x := i) (y := 1) rfl rfl) (by omega) (by omega)]
  refine r_callV (vs := [.int _]) (pc := 720) 0 0 (ci := 9) (T := TX11) (N := 11) dL_law_720 rfl l_RL_137 rfl ⟨by decide, by decide⟩ rfl (Nat.le_of_ble_eq_true rfl) hl EHp_119 rfl (Nat.zero_le _) (Nat.zero_le _) (Nat.le_of_ble_eq_true rfl) (q2 c x k' hq _ _) (fun E h1 z => by obtain ⟨y, r', z, -⟩ := z; cases z) (fun o h1 z hc => by obtain ⟨y, r', -, rfl, -⟩ := z; rw [EHp_2, hsf hf] at hc; cases hc) (fun o h1 z => ?_)
  obtain ⟨y, r', z, rfl, G', h0', hxy⟩ := z
  cases z
  refine q_istore [_, _, _, _, _, _, _, _, _] (pc := 723) dL_law_723 (by decide) rfl ?_
  refine r_aload_n (pc := 725) dL_law_725 rfl rfl ?_
  refine q_callV (ci := 9) (T := TX11) (N := 11) (vs := []) (pc := 726) dL_law_726 rfl l_RL_109 rfl ⟨by decide, by decide⟩ rfl (Nat.le_of_ble_eq_true rfl) hl EHp_119 rfl (Nat.le_of_ble_eq_true rfl) s_thr rfl ?_
  rw [h0']
  refine r_iload (pc := 729) dL_law_729 rfl ?_
  refine r_icmp_eq 736 (pc := 731) dL_law_731 (by decide) (fun _ => ?_) (fun z => absurd rfl z)
  refine r_iload (pc := 736) dL_law_736 rfl ?_
  refine r_if_ne 753 (pc := 738) dL_law_738 (by decide) (fun _ => ?_) (fun hz => ?_)
  · refine r_goto 1849 (pc := 753) dL_law_753 (by decide) ?_
    refine r_wk [some _, some _, some _, some _, some _, none, none, none, none] ⟨rfl, rfl, rfl, rfl, rfl, trivial⟩ ?_
    exact KK _ ⟨Nat.le_refl _, Nat.le_refl _⟩ _ _ _ w' G' hs_same (hsf hf)
  · have c0 : c = 0 := nI_injL (b := 0) (by omega) (by omega) hz
    subst c0
    have exy : x = y := hxy rfl
    subst exy
    refine r_aload_n (pc := 741) dL_law_741 rfl rfl ?_
    refine r_iconst (v := 0) (pc := 742) dL_law_742 rfl ?_
    refine r_laload (n := 1) (f := w') (pc := 743) dL_law_743 ((EHp_out (by omega)).trans hs_same) (vin_n (k := 0) rfl (by decide) (by decide)) ?_
    rw [show Int32.toNatClampNeg 0 = 0 from by decide, hw rfl]
    refine r_iload (pc := 744) dL_law_744 rfl ?_
    refine r_i2l (pc := 746) dL_law_746 ?_
    refine r_lcmp (pc := 747) dL_law_747 ?_
    refine r_if_eq 753 (pc := 748) dL_law_748 (by decide) (fun _ => ?_) (fun z => absurd (cmp_eq.mpr rfl) z)
    refine r_goto 1849 (pc := 753) dL_law_753 (by decide) ?_
    refine r_wk [some _, some _, some _, some _, some _, none, none, none, none] ⟨rfl, rfl, rfl, rfl, rfl, trivial⟩ ?_
    exact KK _ ⟨Nat.le_refl _, Nat.le_refl _⟩ _ _ _ w' G' hs_same (hsf hf)
theorem lc_mask (hl : l.stackTraces = false) (i : Nat) (hi : i + 6 ≤ om_L om) (hL : om_L om ≤ 3072) (hB : 1 ≤ B.1 ∧ 6 ≤ B.2) (KK : LawK om l Post i B) (G : GAp k r) (hg : g.1 125 = LA w) (hf : g.2.2 = false) : Runs om l M_L_law B 756 [some (.ref 100000), some (.ref 0), some (.ref 119), some (.ref 125), some (.int (nI i)), none, none, none, none] [] (EHp g k r) Post := by
  by_cases hy : om_xs om (i + 2) = 0
  · refine r_aload_n (pc := 756) dL_law_756 rfl rfl ?_
    refine r_aload_n (pc := 757) dL_law_757 rfl rfl ?_
    refine r_iload (pc := 758) dL_law_758 rfl ?_
    refine r_iconst (v := nI 1) (pc := 760) dL_law_760 (by decide) ?_
    refine r_iadd (pc := 761) dL_law_761 ?_
    refine r_taload (n := om_L om) (pc := 762) dL_law_762 law_a (vin_n (k := i + 1) (nadd rfl rfl) (by omega) (by omega)) ?_
    rw [cl_n (k := i + 1) (n := om_L om) (nadd (x := i) (y := 1) rfl rfl) (by omega) (by omega)]
    refine r_aload_n (pc := 763) dL_law_763 rfl rfl ?_
    refine r_iload (pc := 764) dL_law_764 rfl ?_
    refine r_iconst (v := nI 2) (pc := 766) dL_law_766 (by decide) ?_
    refine r_iadd (pc := 767) dL_law_767 ?_
    refine r_taload (n := om_L om) (pc := 768) dL_law_768 law_a (vin_n (k := i + 2) (nadd rfl rfl) (by omega) (by omega)) ?_
    rw [cl_n (k := i + 2) (n := om_L om) (nadd (x := i) (y := 2) rfl rfl) (by omega) (by omega)]
    refine r_if_eq 776 (pc := 769) dL_law_769 (by decide) (fun _ => ?_) (fun q => absurd hy q)
    refine r_iconst (v := 0) (pc := 776) dL_law_776 rfl ?_
    refine r_aload_n (pc := 777) dL_law_777 rfl rfl ?_
    obtain ⟨C, W, T, U, S, V, ns, cnt, ln, po, wd, t, nu⟩ := k
    obtain ⟨I, J, A, a, v, x0, n⟩ := r
    have ht : t = x0 := G.2.2.2.2
    subst ht
    obtain ⟨Q, q1, q2⟩ := op_mask hl G (om_xs om (i + 1)) 0 (Or.inl rfl)
    refine r_callSH (vs := [.ref 0, .int _, .int _, .ref 125]) (pc := 778) 1 6 dL_law_778 rfl l_RL_138 rfl ⟨by decide, by decide⟩ rfl (Nat.le_of_ble_eq_true rfl) hl hB.1 hB.2 (Nat.le_of_ble_eq_true rfl) (w_mask hl (om_xs om (i + 1)) 0 q1 hg hf ⟨Nat.le_refl _, Nat.le_refl _⟩) (fun E h1 z => by obtain ⟨c, x, k', w', z, -⟩ := z; cases z) (fun o h1 z hc => by obtain ⟨c, x, k', w', -, -, rfl, -, -⟩ := z; rw [EHp_2, hsf hf] at hc; cases hc) (fun o h1 z => ?_)
    obtain ⟨c, x, k', w', z, hc2, rfl, hq, hw⟩ := z
    cases z
    refine q_istore [_, _, _, _, _, _, _, _, _] (pc := 781) dL_law_781 (by decide) rfl ?_
    refine r_aload_n (pc := 783) dL_law_783 rfl rfl ?_
    refine r_aload_n (pc := 784) dL_law_784 rfl rfl ?_
    refine r_iload (pc := 785) dL_law_785 rfl ?_
    refine r_iconst (v := nI 1) (pc := 787) dL_law_787 (by decide) ?_
    refine r_iadd (pc := 788) dL_law_788 ?_
    refine r_taload (n := om_L om) (pc := 789) dL_law_789 law_a (vin_n (k := i + 1) (nadd rfl rfl) (by omega) (by omega)) ?_
    rw [cl_n (k := i + 1) (n := om_L om) (nadd (x := i) (y := 1) rfl rfl) (by omega) (by omega)]
    refine r_aload_n (pc := 790) dL_law_790 rfl rfl ?_
    refine r_iload (pc := 791) dL_law_791 rfl ?_
    refine r_iconst (v := nI 2) (pc := 793) dL_law_793 (by decide) ?_
    refine r_iadd (pc := 794) dL_law_794 ?_
    refine r_taload (n := om_L om) (pc := 795) dL_law_795 law_a (vin_n (k := i + 2) (nadd rfl rfl) (by omega) (by omega)) ?_
    rw [cl_n (k := i + 2) (n := om_L om) (nadd (x := i) (y := 2) rfl rfl) (by omega) (by omega)]
    refine r_if_eq 803 (pc := 796) dL_law_796 (by decide) (fun _ => ?_) (fun q => absurd hy q)
    refine r_iconst (v := 0) (pc := 803) dL_law_803 rfl ?_
    refine r_callV (vs := [.int _, .int _]) (pc := 804) 0 0 (ci := 9) (T := TX11) (N := 11) dL_law_804 rfl l_RL_141 rfl ⟨by decide, by decide⟩ rfl (Nat.le_of_ble_eq_true rfl) hl EHp_119 rfl (Nat.zero_le _) (Nat.zero_le _) (Nat.le_of_ble_eq_true rfl) (q2 c x k' hq _ _) (fun E h1 z => by obtain ⟨y, r', z, -⟩ := z; cases z) (fun o h1 z hc => by obtain ⟨y, r', -, rfl, -⟩ := z; rw [EHp_2, hsf hf] at hc; cases hc) (fun o h1 z => ?_)
    obtain ⟨y, r', z, rfl, G', h0', hxy⟩ := z
    cases z
    refine q_istore [_, _, _, _, _, _, _, _, _] (pc := 807) dL_law_807 (by decide) rfl ?_
    refine r_aload_n (pc := 809) dL_law_809 rfl rfl ?_
    refine q_callV (ci := 9) (T := TX11) (N := 11) (vs := []) (pc := 810) dL_law_810 rfl l_RL_109 rfl ⟨by decide, by decide⟩ rfl (Nat.le_of_ble_eq_true rfl) hl EHp_119 rfl (Nat.le_of_ble_eq_true rfl) s_thr rfl ?_
    rw [h0']
    refine r_iload (pc := 813) dL_law_813 rfl ?_
    refine r_icmp_eq 820 (pc := 815) dL_law_815 (by decide) (fun _ => ?_) (fun z => absurd rfl z)
    refine r_iload (pc := 820) dL_law_820 rfl ?_
    refine r_if_ne 837 (pc := 822) dL_law_822 (by decide) (fun _ => ?_) (fun hz => ?_)
    · refine r_goto 1849 (pc := 837) dL_law_837 (by decide) ?_
      refine r_wk [some _, some _, some _, some _, some _, none, none, none, none] ⟨rfl, rfl, rfl, rfl, rfl, trivial⟩ ?_
      exact KK _ ⟨Nat.le_refl _, Nat.le_refl _⟩ _ _ _ w' G' hs_same (hsf hf)
    · have c0 : c = 0 := nI_injL (b := 0) (by omega) (by omega) hz
      subst c0
      have exy : x = y := hxy rfl
      subst exy
      refine r_aload_n (pc := 825) dL_law_825 rfl rfl ?_
      refine r_iconst (v := 0) (pc := 826) dL_law_826 rfl ?_
      refine r_laload (n := 1) (f := w') (pc := 827) dL_law_827 ((EHp_out (by omega)).trans hs_same) (vin_n (k := 0) rfl (by decide) (by decide)) ?_
      rw [show Int32.toNatClampNeg 0 = 0 from by decide, hw rfl]
      refine r_iload (pc := 828) dL_law_828 rfl ?_
      refine r_i2l (pc := 830) dL_law_830 ?_
      refine r_lcmp (pc := 831) dL_law_831 ?_
      refine r_if_eq 837 (pc := 832) dL_law_832 (by decide) (fun _ => ?_) (fun z => absurd (cmp_eq.mpr rfl) z)
      refine r_goto 1849 (pc := 837) dL_law_837 (by decide) ?_
      refine r_wk [some _, some _, some _, some _, some _, none, none, none, none] ⟨rfl, rfl, rfl, rfl, rfl, trivial⟩ ?_
      exact KK _ ⟨Nat.le_refl _, Nat.le_refl _⟩ _ _ _ w' G' hs_same (hsf hf)
  · refine r_aload_n (pc := 756) dL_law_756 rfl rfl ?_
    refine r_aload_n (pc := 757) dL_law_757 rfl rfl ?_
    refine r_iload (pc := 758) dL_law_758 rfl ?_
    refine r_iconst (v := nI 1) (pc := 760) dL_law_760 (by decide) ?_
    refine r_iadd (pc := 761) dL_law_761 ?_
    refine r_taload (n := om_L om) (pc := 762) dL_law_762 law_a (vin_n (k := i + 1) (nadd rfl rfl) (by omega) (by omega)) ?_
    rw [cl_n (k := i + 1) (n := om_L om) (nadd (x := i) (y := 1) rfl rfl) (by omega) (by omega)]
    refine r_aload_n (pc := 763) dL_law_763 rfl rfl ?_
    refine r_iload (pc := 764) dL_law_764 rfl ?_
    refine r_iconst (v := nI 2) (pc := 766) dL_law_766 (by decide) ?_
    refine r_iadd (pc := 767) dL_law_767 ?_
    refine r_taload (n := om_L om) (pc := 768) dL_law_768 law_a (vin_n (k := i + 2) (nadd rfl rfl) (by omega) (by omega)) ?_
    rw [cl_n (k := i + 2) (n := om_L om) (nadd (x := i) (y := 2) rfl rfl) (by omega) (by omega)]
    refine r_if_eq 776 (pc := 769) dL_law_769 (by decide) (fun q => absurd q hy) (fun _ => ?_)
    refine r_iconst (v := 1) (pc := 772) dL_law_772 rfl ?_
    refine r_goto 777 (pc := 773) dL_law_773 (by decide) ?_
    refine r_aload_n (pc := 777) dL_law_777 rfl rfl ?_
    obtain ⟨C, W, T, U, S, V, ns, cnt, ln, po, wd, t, nu⟩ := k
    obtain ⟨I, J, A, a, v, x0, n⟩ := r
    have ht : t = x0 := G.2.2.2.2
    subst ht
    obtain ⟨Q, q1, q2⟩ := op_mask hl G (om_xs om (i + 1)) 1 (Or.inr rfl)
    refine r_callSH (vs := [.ref 0, .int _, .int _, .ref 125]) (pc := 778) 1 6 dL_law_778 rfl l_RL_138 rfl ⟨by decide, by decide⟩ rfl (Nat.le_of_ble_eq_true rfl) hl hB.1 hB.2 (Nat.le_of_ble_eq_true rfl) (w_mask hl (om_xs om (i + 1)) 1 q1 hg hf ⟨Nat.le_refl _, Nat.le_refl _⟩) (fun E h1 z => by obtain ⟨c, x, k', w', z, -⟩ := z; cases z) (fun o h1 z hc => by obtain ⟨c, x, k', w', -, -, rfl, -, -⟩ := z; rw [EHp_2, hsf hf] at hc; cases hc) (fun o h1 z => ?_)
    obtain ⟨c, x, k', w', z, hc2, rfl, hq, hw⟩ := z
    cases z
    refine q_istore [_, _, _, _, _, _, _, _, _] (pc := 781) dL_law_781 (by decide) rfl ?_
    refine r_aload_n (pc := 783) dL_law_783 rfl rfl ?_
    refine r_aload_n (pc := 784) dL_law_784 rfl rfl ?_
    refine r_iload (pc := 785) dL_law_785 rfl ?_
    refine r_iconst (v := nI 1) (pc := 787) dL_law_787 (by decide) ?_
    refine r_iadd (pc := 788) dL_law_788 ?_
    refine r_taload (n := om_L om) (pc := 789) dL_law_789 law_a (vin_n (k := i + 1) (nadd rfl rfl) (by omega) (by omega)) ?_
    rw [cl_n (k := i + 1) (n := om_L om) (nadd (x := i) (y := 1) rfl rfl) (by omega) (by omega)]
    refine r_aload_n (pc := 790) dL_law_790 rfl rfl ?_
    refine r_iload (pc := 791) dL_law_791 rfl ?_
    refine r_iconst (v := nI 2) (pc := 793) dL_law_793 (by decide) ?_
    refine r_iadd (pc := 794) dL_law_794 ?_
    refine r_taload (n := om_L om) (pc := 795) dL_law_795 law_a (vin_n (k := i + 2) (nadd rfl rfl) (by omega) (by omega)) ?_
    rw [cl_n (k := i + 2) (n := om_L om) (nadd (x := i) (y := 2) rfl rfl) (by omega) (by omega)]
    refine r_if_eq 803 (pc := 796) dL_law_796 (by decide) (fun q => absurd q hy) (fun _ => ?_)
    refine r_iconst (v := 1) (pc := 799) dL_law_799 rfl ?_
    refine r_goto 804 (pc := 800) dL_law_800 (by decide) ?_
    refine r_callV (vs := [.int _, .int _]) (pc := 804) 0 0 (ci := 9) (T := TX11) (N := 11) dL_law_804 rfl l_RL_141 rfl ⟨by decide, by decide⟩ rfl (Nat.le_of_ble_eq_true rfl) hl EHp_119 rfl (Nat.zero_le _) (Nat.zero_le _) (Nat.le_of_ble_eq_true rfl) (q2 c x k' hq _ _) (fun E h1 z => by obtain ⟨y, r', z, -⟩ := z; cases z) (fun o h1 z hc => by obtain ⟨y, r', -, rfl, -⟩ := z; rw [EHp_2, hsf hf] at hc; cases hc) (fun o h1 z => ?_)
    obtain ⟨y, r', z, rfl, G', h0', hxy⟩ := z
    cases z
    refine q_istore [_, _, _, _, _, _, _, _, _] (pc := 807) dL_law_807 (by decide) rfl ?_
    refine r_aload_n (pc := 809) dL_law_809 rfl rfl ?_
    refine q_callV (ci := 9) (T := TX11) (N := 11) (vs := []) (pc := 810) dL_law_810 rfl l_RL_109 rfl ⟨by decide, by decide⟩ rfl (Nat.le_of_ble_eq_true rfl) hl EHp_119 rfl (Nat.le_of_ble_eq_true rfl) s_thr rfl ?_
    rw [h0']
    refine r_iload (pc := 813) dL_law_813 rfl ?_
    refine r_icmp_eq 820 (pc := 815) dL_law_815 (by decide) (fun _ => ?_) (fun z => absurd rfl z)
    refine r_iload (pc := 820) dL_law_820 rfl ?_
    refine r_if_ne 837 (pc := 822) dL_law_822 (by decide) (fun _ => ?_) (fun hz => ?_)
    · refine r_goto 1849 (pc := 837) dL_law_837 (by decide) ?_
      refine r_wk [some _, some _, some _, some _, some _, none, none, none, none] ⟨rfl, rfl, rfl, rfl, rfl, trivial⟩ ?_
      exact KK _ ⟨Nat.le_refl _, Nat.le_refl _⟩ _ _ _ w' G' hs_same (hsf hf)
    · have c0 : c = 0 := nI_injL (b := 0) (by omega) (by omega) hz
      subst c0
      have exy : x = y := hxy rfl
      subst exy
      refine r_aload_n (pc := 825) dL_law_825 rfl rfl ?_
      refine r_iconst (v := 0) (pc := 826) dL_law_826 rfl ?_
      refine r_laload (n := 1) (f := w') (pc := 827) dL_law_827 ((EHp_out (by omega)).trans hs_same) (vin_n (k := 0) rfl (by decide) (by decide)) ?_
      rw [show Int32.toNatClampNeg 0 = 0 from by decide, hw rfl]
      refine r_iload (pc := 828) dL_law_828 rfl ?_
      refine r_i2l (pc := 830) dL_law_830 ?_
      refine r_lcmp (pc := 831) dL_law_831 ?_
      refine r_if_eq 837 (pc := 832) dL_law_832 (by decide) (fun _ => ?_) (fun z => absurd (cmp_eq.mpr rfl) z)
      refine r_goto 1849 (pc := 837) dL_law_837 (by decide) ?_
      refine r_wk [some _, some _, some _, some _, some _, none, none, none, none] ⟨rfl, rfl, rfl, rfl, rfl, trivial⟩ ?_
      exact KK _ ⟨Nat.le_refl _, Nat.le_refl _⟩ _ _ _ w' G' hs_same (hsf hf)
theorem lc_learn (hl : l.stackTraces = false) (i : Nat) (hi : i + 6 ≤ om_L om) (hL : om_L om ≤ 3072) (hB : 1 ≤ B.1 ∧ 6 ≤ B.2) (KK : LawK om l Post i B) (G : GAp k r) (hg : g.1 125 = LA w) (hf : g.2.2 = false) : Runs om l M_L_law B 840 [some (.ref 100000), some (.ref 0), some (.ref 119), some (.ref 125), some (.int (nI i)), none, none, none, none] [] (EHp g k r) Post := by
  refine r_aload_n (pc := 840) dL_law_840 rfl rfl ?_
  refine r_aload_n (pc := 841) dL_law_841 rfl rfl ?_
  refine r_iload (pc := 842) dL_law_842 rfl ?_
  refine r_iconst (v := nI 1) (pc := 844) dL_law_844 (by decide) ?_
  refine r_iadd (pc := 845) dL_law_845 ?_
  refine r_taload (n := om_L om) (pc := 846) dL_law_846 law_a (vin_n (k := i + 1) (nadd rfl rfl) (by omega) (by omega)) ?_
  rw [cl_n (k := i + 1) (n := om_L om) (nadd (x := i) (y := 1) rfl rfl) (by omega) (by omega)]
  refine r_aload_n (pc := 847) dL_law_847 rfl rfl ?_
  obtain ⟨C, W, T, U, S, V, ns, cnt, ln, po, wd, t, nu⟩ := k
  obtain ⟨I, J, A, a, v, x0, n⟩ := r
  have ht : t = x0 := G.2.2.2.2
  subst ht
  obtain ⟨Q, q1, q2⟩ := op_learn hl G (om_xs om (i + 1))
  refine r_callSH (vs := [.ref 0, .int _, .ref 125]) (pc := 848) 1 6 dL_law_848 rfl l_RL_142 rfl ⟨by decide, by decide⟩ rfl (Nat.le_of_ble_eq_true rfl) hl hB.1 hB.2 (Nat.le_of_ble_eq_true rfl) (w_learn hl (om_xs om (i + 1)) q1 hg hf ⟨Nat.le_refl _, Nat.le_refl _⟩) (fun E h1 z => by obtain ⟨c, x, k', w', z, -⟩ := z; cases z) (fun o h1 z hc => by obtain ⟨c, x, k', w', -, -, rfl, -, -⟩ := z; rw [EHp_2, hsf hf] at hc; cases hc) (fun o h1 z => ?_)
  obtain ⟨c, x, k', w', z, hc2, rfl, hq, hw⟩ := z
  cases z
  refine q_istore [_, _, _, _, _, _, _, _, _] (pc := 851) dL_law_851 (by decide) rfl ?_
  refine r_aload_n (pc := 853) dL_law_853 rfl rfl ?_
  refine r_aload_n (pc := 854) dL_law_854 rfl rfl ?_
  refine r_iload (pc := 855) dL_law_855 rfl ?_
  refine r_iconst (v := nI 1) (pc := 857) dL_law_857 (by decide) ?_
  refine r_iadd (pc := 858) dL_law_858 ?_
  refine r_taload (n := om_L om) (pc := 859) dL_law_859 law_a (vin_n (k := i + 1) (nadd rfl rfl) (by omega) (by omega)) ?_
  rw [cl_n (k := i + 1) (n := om_L om) (nadd (x := i) (y := 1) rfl rfl) (by omega) (by omega)]
  refine r_callV (vs := [.int _]) (pc := 860) 0 0 (ci := 9) (T := TX11) (N := 11) dL_law_860 rfl l_RL_144 rfl ⟨by decide, by decide⟩ rfl (Nat.le_of_ble_eq_true rfl) hl EHp_119 rfl (Nat.zero_le _) (Nat.zero_le _) (Nat.le_of_ble_eq_true rfl) (q2 c x k' hq _ _) (fun E h1 z => by obtain ⟨y, r', z, -⟩ := z; cases z) (fun o h1 z hc => by obtain ⟨y, r', -, rfl, -⟩ := z; rw [EHp_2, hsf hf] at hc; cases hc) (fun o h1 z => ?_)
  obtain ⟨y, r', z, rfl, G', h0', hxy⟩ := z
  cases z
  refine q_istore [_, _, _, _, _, _, _, _, _] (pc := 863) dL_law_863 (by decide) rfl ?_
  refine r_aload_n (pc := 865) dL_law_865 rfl rfl ?_
  refine q_callV (ci := 9) (T := TX11) (N := 11) (vs := []) (pc := 866) dL_law_866 rfl l_RL_109 rfl ⟨by decide, by decide⟩ rfl (Nat.le_of_ble_eq_true rfl) hl EHp_119 rfl (Nat.le_of_ble_eq_true rfl) s_thr rfl ?_
  rw [h0']
  refine r_iload (pc := 869) dL_law_869 rfl ?_
  refine r_icmp_eq 876 (pc := 871) dL_law_871 (by decide) (fun _ => ?_) (fun z => absurd rfl z)
  refine r_iload (pc := 876) dL_law_876 rfl ?_
  refine r_if_ne 893 (pc := 878) dL_law_878 (by decide) (fun _ => ?_) (fun hz => ?_)
  · refine r_goto 1849 (pc := 893) dL_law_893 (by decide) ?_
    refine r_wk [some _, some _, some _, some _, some _, none, none, none, none] ⟨rfl, rfl, rfl, rfl, rfl, trivial⟩ ?_
    exact KK _ ⟨Nat.le_refl _, Nat.le_refl _⟩ _ _ _ w' G' hs_same (hsf hf)
  · have c0 : c = 0 := nI_injL (b := 0) (by omega) (by omega) hz
    subst c0
    have exy : x = y := hxy rfl
    subst exy
    refine r_aload_n (pc := 881) dL_law_881 rfl rfl ?_
    refine r_iconst (v := 0) (pc := 882) dL_law_882 rfl ?_
    refine r_laload (n := 1) (f := w') (pc := 883) dL_law_883 ((EHp_out (by omega)).trans hs_same) (vin_n (k := 0) rfl (by decide) (by decide)) ?_
    rw [show Int32.toNatClampNeg 0 = 0 from by decide, hw rfl]
    refine r_iload (pc := 884) dL_law_884 rfl ?_
    refine r_i2l (pc := 886) dL_law_886 ?_
    refine r_lcmp (pc := 887) dL_law_887 ?_
    refine r_if_eq 893 (pc := 888) dL_law_888 (by decide) (fun _ => ?_) (fun z => absurd (cmp_eq.mpr rfl) z)
    refine r_goto 1849 (pc := 893) dL_law_893 (by decide) ?_
    refine r_wk [some _, some _, some _, some _, some _, none, none, none, none] ⟨rfl, rfl, rfl, rfl, rfl, trivial⟩ ?_
    exact KK _ ⟨Nat.le_refl _, Nat.le_refl _⟩ _ _ _ w' G' hs_same (hsf hf)
theorem lc_shoot (hl : l.stackTraces = false) (i : Nat) (hi : i + 6 ≤ om_L om) (hL : om_L om ≤ 3072) (hB : 1 ≤ B.1 ∧ 6 ≤ B.2) (KK : LawK om l Post i B) (G : GAp k r) (hg : g.1 125 = LA w) (hf : g.2.2 = false) : Runs om l M_L_law B 909 [some (.ref 100000), some (.ref 0), some (.ref 119), some (.ref 125), some (.int (nI i)), none, none, none, none] [] (EHp g k r) Post := by
  refine r_aload_n (pc := 909) dL_law_909 rfl rfl ?_
  refine r_aload_n (pc := 910) dL_law_910 rfl rfl ?_
  refine r_iload (pc := 911) dL_law_911 rfl ?_
  refine r_iconst (v := nI 1) (pc := 913) dL_law_913 (by decide) ?_
  refine r_iadd (pc := 914) dL_law_914 ?_
  refine r_taload (n := om_L om) (pc := 915) dL_law_915 law_a (vin_n (k := i + 1) (nadd rfl rfl) (by omega) (by omega)) ?_
  rw [cl_n (k := i + 1) (n := om_L om) (nadd (x := i) (y := 1) rfl rfl) (by omega) (by omega)]
  refine r_aload_n (pc := 916) dL_law_916 rfl rfl ?_
  obtain ⟨C, W, T, U, S, V, ns, cnt, ln, po, wd, t, nu⟩ := k
  obtain ⟨I, J, A, a, v, x0, n⟩ := r
  have ht : t = x0 := G.2.2.2.2
  subst ht
  obtain ⟨Q, q1, q2⟩ := op_shoot hl G (om_xs om (i + 1))
  refine r_callSH (vs := [.ref 0, .int _, .ref 125]) (pc := 917) 1 6 dL_law_917 rfl l_RL_149 rfl ⟨by decide, by decide⟩ rfl (Nat.le_of_ble_eq_true rfl) hl hB.1 hB.2 (Nat.le_of_ble_eq_true rfl) (w_shoot hl (om_xs om (i + 1)) q1 hg hf ⟨Nat.le_refl _, Nat.le_refl _⟩) (fun E h1 z => by obtain ⟨c, x, k', w', z, -⟩ := z; cases z) (fun o h1 z hc => by obtain ⟨c, x, k', w', -, -, rfl, -, -⟩ := z; rw [EHp_2, hsf hf] at hc; cases hc) (fun o h1 z => ?_)
  obtain ⟨c, x, k', w', z, hc2, rfl, hq, hw⟩ := z
  cases z
  refine q_istore [_, _, _, _, _, _, _, _, _] (pc := 920) dL_law_920 (by decide) rfl ?_
  refine r_aload_n (pc := 922) dL_law_922 rfl rfl ?_
  refine r_aload_n (pc := 923) dL_law_923 rfl rfl ?_
  refine r_iload (pc := 924) dL_law_924 rfl ?_
  refine r_iconst (v := nI 1) (pc := 926) dL_law_926 (by decide) ?_
  refine r_iadd (pc := 927) dL_law_927 ?_
  refine r_taload (n := om_L om) (pc := 928) dL_law_928 law_a (vin_n (k := i + 1) (nadd rfl rfl) (by omega) (by omega)) ?_
  rw [cl_n (k := i + 1) (n := om_L om) (nadd (x := i) (y := 1) rfl rfl) (by omega) (by omega)]
  refine r_callV (vs := [.int _]) (pc := 929) 0 0 (ci := 9) (T := TX11) (N := 11) dL_law_929 rfl l_RL_151 rfl ⟨by decide, by decide⟩ rfl (Nat.le_of_ble_eq_true rfl) hl EHp_119 rfl (Nat.zero_le _) (Nat.zero_le _) (Nat.le_of_ble_eq_true rfl) (q2 c x k' hq _ _) (fun E h1 z => by obtain ⟨y, r', z, -⟩ := z; cases z) (fun o h1 z hc => by obtain ⟨y, r', -, rfl, -⟩ := z; rw [EHp_2, hsf hf] at hc; cases hc) (fun o h1 z => ?_)
  obtain ⟨y, r', z, rfl, G', h0', hxy⟩ := z
  cases z
  refine q_istore [_, _, _, _, _, _, _, _, _] (pc := 932) dL_law_932 (by decide) rfl ?_
  refine r_aload_n (pc := 934) dL_law_934 rfl rfl ?_
  refine q_callV (ci := 9) (T := TX11) (N := 11) (vs := []) (pc := 935) dL_law_935 rfl l_RL_109 rfl ⟨by decide, by decide⟩ rfl (Nat.le_of_ble_eq_true rfl) hl EHp_119 rfl (Nat.le_of_ble_eq_true rfl) s_thr rfl ?_
  rw [h0']
  refine r_iload (pc := 938) dL_law_938 rfl ?_
  refine r_icmp_eq 945 (pc := 940) dL_law_940 (by decide) (fun _ => ?_) (fun z => absurd rfl z)
  refine r_iload (pc := 945) dL_law_945 rfl ?_
  refine r_if_ne 962 (pc := 947) dL_law_947 (by decide) (fun _ => ?_) (fun hz => ?_)
  · refine r_goto 1849 (pc := 962) dL_law_962 (by decide) ?_
    refine r_wk [some _, some _, some _, some _, some _, none, none, none, none] ⟨rfl, rfl, rfl, rfl, rfl, trivial⟩ ?_
    exact KK _ ⟨Nat.le_refl _, Nat.le_refl _⟩ _ _ _ w' G' hs_same (hsf hf)
  · have c0 : c = 0 := nI_injL (b := 0) (by omega) (by omega) hz
    subst c0
    have exy : x = y := hxy rfl
    subst exy
    refine r_aload_n (pc := 950) dL_law_950 rfl rfl ?_
    refine r_iconst (v := 0) (pc := 951) dL_law_951 rfl ?_
    refine r_laload (n := 1) (f := w') (pc := 952) dL_law_952 ((EHp_out (by omega)).trans hs_same) (vin_n (k := 0) rfl (by decide) (by decide)) ?_
    rw [show Int32.toNatClampNeg 0 = 0 from by decide, hw rfl]
    refine r_iload (pc := 953) dL_law_953 rfl ?_
    refine r_i2l (pc := 955) dL_law_955 ?_
    refine r_lcmp (pc := 956) dL_law_956 ?_
    refine r_if_eq 962 (pc := 957) dL_law_957 (by decide) (fun _ => ?_) (fun z => absurd (cmp_eq.mpr rfl) z)
    refine r_goto 1849 (pc := 962) dL_law_962 (by decide) ?_
    refine r_wk [some _, some _, some _, some _, some _, none, none, none, none] ⟨rfl, rfl, rfl, rfl, rfl, trivial⟩ ?_
    exact KK _ ⟨Nat.le_refl _, Nat.le_refl _⟩ _ _ _ w' G' hs_same (hsf hf)
theorem lc_echo (hl : l.stackTraces = false) (i : Nat) (hi : i + 6 ≤ om_L om) (hL : om_L om ≤ 3072) (hB : 1 ≤ B.1 ∧ 6 ≤ B.2) (KK : LawK om l Post i B) (G : GAp k r) (hg : g.1 125 = LA w) (hf : g.2.2 = false) : Runs om l M_L_law B 965 [some (.ref 100000), some (.ref 0), some (.ref 119), some (.ref 125), some (.int (nI i)), none, none, none, none] [] (EHp g k r) Post := by
  refine r_aload_n (pc := 965) dL_law_965 rfl rfl ?_
  refine r_aload_n (pc := 966) dL_law_966 rfl rfl ?_
  refine r_iload (pc := 967) dL_law_967 rfl ?_
  refine r_iconst (v := nI 1) (pc := 969) dL_law_969 (by decide) ?_
  refine r_iadd (pc := 970) dL_law_970 ?_
  refine r_taload (n := om_L om) (pc := 971) dL_law_971 law_a (vin_n (k := i + 1) (nadd rfl rfl) (by omega) (by omega)) ?_
  rw [cl_n (k := i + 1) (n := om_L om) (nadd (x := i) (y := 1) rfl rfl) (by omega) (by omega)]
  refine r_aload_n (pc := 972) dL_law_972 rfl rfl ?_
  refine r_iload (pc := 973) dL_law_973 rfl ?_
  refine r_iconst (v := nI 2) (pc := 975) dL_law_975 (by decide) ?_
  refine r_iadd (pc := 976) dL_law_976 ?_
  refine r_taload (n := om_L om) (pc := 977) dL_law_977 law_a (vin_n (k := i + 2) (nadd rfl rfl) (by omega) (by omega)) ?_
  rw [cl_n (k := i + 2) (n := om_L om) (nadd (x := i) (y := 2) rfl rfl) (by omega) (by omega)]
  refine r_aload_n (pc := 978) dL_law_978 rfl rfl ?_
  obtain ⟨C, W, T, U, S, V, ns, cnt, ln, po, wd, t, nu⟩ := k
  obtain ⟨I, J, A, a, v, x0, n⟩ := r
  have ht : t = x0 := G.2.2.2.2
  subst ht
  obtain ⟨Q, q1, q2⟩ := op_echo hl G (om_xs om (i + 1)) (om_xs om (i + 2))
  refine r_callSH (vs := [.ref 0, .int _, .int _, .ref 125]) (pc := 979) 1 6 dL_law_979 rfl l_RL_152 rfl ⟨by decide, by decide⟩ rfl (Nat.le_of_ble_eq_true rfl) hl hB.1 hB.2 (Nat.le_of_ble_eq_true rfl) (w_echo hl (om_xs om (i + 1)) (om_xs om (i + 2)) q1 hg hf ⟨Nat.le_refl _, Nat.le_refl _⟩) (fun E h1 z => by obtain ⟨c, x, k', w', z, -⟩ := z; cases z) (fun o h1 z hc => by obtain ⟨c, x, k', w', -, -, rfl, -, -⟩ := z; rw [EHp_2, hsf hf] at hc; cases hc) (fun o h1 z => ?_)
  obtain ⟨c, x, k', w', z, hc2, rfl, hq, hw⟩ := z
  cases z
  refine q_istore [_, _, _, _, _, _, _, _, _] (pc := 982) dL_law_982 (by decide) rfl ?_
  refine r_aload_n (pc := 984) dL_law_984 rfl rfl ?_
  refine r_aload_n (pc := 985) dL_law_985 rfl rfl ?_
  refine r_iload (pc := 986) dL_law_986 rfl ?_
  refine r_iconst (v := nI 1) (pc := 988) dL_law_988 (by decide) ?_
  refine r_iadd (pc := 989) dL_law_989 ?_
  refine r_taload (n := om_L om) (pc := 990) dL_law_990 law_a (vin_n (k := i + 1) (nadd rfl rfl) (by omega) (by omega)) ?_
  rw [cl_n (k := i + 1) (n := om_L om) (nadd (x := i) (y := 1) rfl rfl) (by omega) (by omega)]
  refine r_aload_n (pc := 991) dL_law_991 rfl rfl ?_
  refine r_iload (pc := 992) dL_law_992 rfl ?_
  refine r_iconst (v := nI 2) (pc := 994) dL_law_994 (by decide) ?_
  refine r_iadd (pc := 995) dL_law_995 ?_
  refine r_taload (n := om_L om) (pc := 996) dL_law_996 law_a (vin_n (k := i + 2) (nadd rfl rfl) (by omega) (by omega)) ?_
  rw [cl_n (k := i + 2) (n := om_L om) (nadd (x := i) (y := 2) rfl rfl) (by omega) (by omega)]
  refine r_callV (vs := [.int _, .int _]) (pc := 997) 0 0 (ci := 9) (T := TX11) (N := 11) dL_law_997 rfl l_RL_154 rfl ⟨by decide, by decide⟩ rfl (Nat.le_of_ble_eq_true rfl) hl EHp_119 rfl (Nat.zero_le _) (Nat.zero_le _) (Nat.le_of_ble_eq_true rfl) (q2 c x k' hq _ _) (fun E h1 z => by obtain ⟨y, r', z, -⟩ := z; cases z) (fun o h1 z hc => by obtain ⟨y, r', -, rfl, -⟩ := z; rw [EHp_2, hsf hf] at hc; cases hc) (fun o h1 z => ?_)
  obtain ⟨y, r', z, rfl, G', h0', hxy⟩ := z
  cases z
  refine q_istore [_, _, _, _, _, _, _, _, _] (pc := 1000) dL_law_1000 (by decide) rfl ?_
  refine r_aload_n (pc := 1002) dL_law_1002 rfl rfl ?_
  refine q_callV (ci := 9) (T := TX11) (N := 11) (vs := []) (pc := 1003) dL_law_1003 rfl l_RL_109 rfl ⟨by decide, by decide⟩ rfl (Nat.le_of_ble_eq_true rfl) hl EHp_119 rfl (Nat.le_of_ble_eq_true rfl) s_thr rfl ?_
  rw [h0']
  refine r_iload (pc := 1006) dL_law_1006 rfl ?_
  refine r_icmp_eq 1013 (pc := 1008) dL_law_1008 (by decide) (fun _ => ?_) (fun z => absurd rfl z)
  refine r_iload (pc := 1013) dL_law_1013 rfl ?_
  refine r_if_ne 1030 (pc := 1015) dL_law_1015 (by decide) (fun _ => ?_) (fun hz => ?_)
  · refine r_goto 1849 (pc := 1030) dL_law_1030 (by decide) ?_
    refine r_wk [some _, some _, some _, some _, some _, none, none, none, none] ⟨rfl, rfl, rfl, rfl, rfl, trivial⟩ ?_
    exact KK _ ⟨Nat.le_refl _, Nat.le_refl _⟩ _ _ _ w' G' hs_same (hsf hf)
  · have c0 : c = 0 := nI_injL (b := 0) (by omega) (by omega) hz
    subst c0
    have exy : x = y := hxy rfl
    subst exy
    refine r_aload_n (pc := 1018) dL_law_1018 rfl rfl ?_
    refine r_iconst (v := 0) (pc := 1019) dL_law_1019 rfl ?_
    refine r_laload (n := 1) (f := w') (pc := 1020) dL_law_1020 ((EHp_out (by omega)).trans hs_same) (vin_n (k := 0) rfl (by decide) (by decide)) ?_
    rw [show Int32.toNatClampNeg 0 = 0 from by decide, hw rfl]
    refine r_iload (pc := 1021) dL_law_1021 rfl ?_
    refine r_i2l (pc := 1023) dL_law_1023 ?_
    refine r_lcmp (pc := 1024) dL_law_1024 ?_
    refine r_if_eq 1030 (pc := 1025) dL_law_1025 (by decide) (fun _ => ?_) (fun z => absurd (cmp_eq.mpr rfl) z)
    refine r_goto 1849 (pc := 1030) dL_law_1030 (by decide) ?_
    refine r_wk [some _, some _, some _, some _, some _, none, none, none, none] ⟨rfl, rfl, rfl, rfl, rfl, trivial⟩ ?_
    exact KK _ ⟨Nat.le_refl _, Nat.le_refl _⟩ _ _ _ w' G' hs_same (hsf hf)
theorem lc_pick (hl : l.stackTraces = false) (i : Nat) (hi : i + 6 ≤ om_L om) (hL : om_L om ≤ 3072) (hB : 1 ≤ B.1 ∧ 6 ≤ B.2) (KK : LawK om l Post i B) (G : GAp k r) (hg : g.1 125 = LA w) (hf : g.2.2 = false) : Runs om l M_L_law B 1033 [some (.ref 100000), some (.ref 0), some (.ref 119), some (.ref 125), some (.int (nI i)), none, none, none, none] [] (EHp g k r) Post := by
  refine r_aload_n (pc := 1033) dL_law_1033 rfl rfl ?_
  refine r_aload_n (pc := 1034) dL_law_1034 rfl rfl ?_
  refine r_iload (pc := 1035) dL_law_1035 rfl ?_
  refine r_iconst (v := nI 1) (pc := 1037) dL_law_1037 (by decide) ?_
  refine r_iadd (pc := 1038) dL_law_1038 ?_
  refine r_taload (n := om_L om) (pc := 1039) dL_law_1039 law_a (vin_n (k := i + 1) (nadd rfl rfl) (by omega) (by omega)) ?_
  rw [cl_n (k := i + 1) (n := om_L om) (nadd (x := i) (y := 1) rfl rfl) (by omega) (by omega)]
  refine r_aload_n (pc := 1040) dL_law_1040 rfl rfl ?_
  obtain ⟨C, W, T, U, S, V, ns, cnt, ln, po, wd, t, nu⟩ := k
  obtain ⟨I, J, A, a, v, x0, n⟩ := r
  have ht : t = x0 := G.2.2.2.2
  subst ht
  obtain ⟨Q, q1, q2⟩ := op_pick hl G (om_xs om (i + 1))
  refine r_callSH (vs := [.ref 0, .int _, .ref 125]) (pc := 1041) 1 6 dL_law_1041 rfl l_RL_155 rfl ⟨by decide, by decide⟩ rfl (Nat.le_of_ble_eq_true rfl) hl hB.1 hB.2 (Nat.le_of_ble_eq_true rfl) (w_pick hl (om_xs om (i + 1)) q1 hg hf ⟨Nat.le_refl _, Nat.le_refl _⟩) (fun E h1 z => by obtain ⟨c, x, k', w', z, -⟩ := z; cases z) (fun o h1 z hc => by obtain ⟨c, x, k', w', -, -, rfl, -, -⟩ := z; rw [EHp_2, hsf hf] at hc; cases hc) (fun o h1 z => ?_)
  obtain ⟨c, x, k', w', z, hc2, rfl, hq, hw⟩ := z
  cases z
  refine q_istore [_, _, _, _, _, _, _, _, _] (pc := 1044) dL_law_1044 (by decide) rfl ?_
  refine r_aload_n (pc := 1046) dL_law_1046 rfl rfl ?_
  refine r_aload_n (pc := 1047) dL_law_1047 rfl rfl ?_
  refine r_iload (pc := 1048) dL_law_1048 rfl ?_
  refine r_iconst (v := nI 1) (pc := 1050) dL_law_1050 (by decide) ?_
  refine r_iadd (pc := 1051) dL_law_1051 ?_
  refine r_taload (n := om_L om) (pc := 1052) dL_law_1052 law_a (vin_n (k := i + 1) (nadd rfl rfl) (by omega) (by omega)) ?_
  rw [cl_n (k := i + 1) (n := om_L om) (nadd (x := i) (y := 1) rfl rfl) (by omega) (by omega)]
  refine r_callV (vs := [.int _]) (pc := 1053) 0 0 (ci := 9) (T := TX11) (N := 11) dL_law_1053 rfl l_RL_157 rfl ⟨by decide, by decide⟩ rfl (Nat.le_of_ble_eq_true rfl) hl EHp_119 rfl (Nat.zero_le _) (Nat.zero_le _) (Nat.le_of_ble_eq_true rfl) (q2 c x k' hq _ _) (fun E h1 z => by obtain ⟨y, r', z, -⟩ := z; cases z) (fun o h1 z hc => by obtain ⟨y, r', -, rfl, -⟩ := z; rw [EHp_2, hsf hf] at hc; cases hc) (fun o h1 z => ?_)
  obtain ⟨y, r', z, rfl, G', h0', hxy⟩ := z
  cases z
  refine q_istore [_, _, _, _, _, _, _, _, _] (pc := 1056) dL_law_1056 (by decide) rfl ?_
  refine r_aload_n (pc := 1058) dL_law_1058 rfl rfl ?_
  refine q_callV (ci := 9) (T := TX11) (N := 11) (vs := []) (pc := 1059) dL_law_1059 rfl l_RL_109 rfl ⟨by decide, by decide⟩ rfl (Nat.le_of_ble_eq_true rfl) hl EHp_119 rfl (Nat.le_of_ble_eq_true rfl) s_thr rfl ?_
  rw [h0']
  refine r_iload (pc := 1062) dL_law_1062 rfl ?_
  refine r_icmp_eq 1069 (pc := 1064) dL_law_1064 (by decide) (fun _ => ?_) (fun z => absurd rfl z)
  refine r_iload (pc := 1069) dL_law_1069 rfl ?_
  refine r_if_ne 1086 (pc := 1071) dL_law_1071 (by decide) (fun _ => ?_) (fun hz => ?_)
  · refine r_goto 1849 (pc := 1086) dL_law_1086 (by decide) ?_
    refine r_wk [some _, some _, some _, some _, some _, none, none, none, none] ⟨rfl, rfl, rfl, rfl, rfl, trivial⟩ ?_
    exact KK _ ⟨Nat.le_refl _, Nat.le_refl _⟩ _ _ _ w' G' hs_same (hsf hf)
  · have c0 : c = 0 := nI_injL (b := 0) (by omega) (by omega) hz
    subst c0
    have exy : x = y := hxy rfl
    subst exy
    refine r_aload_n (pc := 1074) dL_law_1074 rfl rfl ?_
    refine r_iconst (v := 0) (pc := 1075) dL_law_1075 rfl ?_
    refine r_laload (n := 1) (f := w') (pc := 1076) dL_law_1076 ((EHp_out (by omega)).trans hs_same) (vin_n (k := 0) rfl (by decide) (by decide)) ?_
    rw [show Int32.toNatClampNeg 0 = 0 from by decide, hw rfl]
    refine r_iload (pc := 1077) dL_law_1077 rfl ?_
    refine r_i2l (pc := 1079) dL_law_1079 ?_
    refine r_lcmp (pc := 1080) dL_law_1080 ?_
    refine r_if_eq 1086 (pc := 1081) dL_law_1081 (by decide) (fun _ => ?_) (fun z => absurd (cmp_eq.mpr rfl) z)
    refine r_goto 1849 (pc := 1086) dL_law_1086 (by decide) ?_
    refine r_wk [some _, some _, some _, some _, some _, none, none, none, none] ⟨rfl, rfl, rfl, rfl, rfl, trivial⟩ ?_
    exact KK _ ⟨Nat.le_refl _, Nat.le_refl _⟩ _ _ _ w' G' hs_same (hsf hf)
theorem lc_need (hl : l.stackTraces = false) (i : Nat) (hi : i + 6 ≤ om_L om) (hL : om_L om ≤ 3072) (hB : 1 ≤ B.1 ∧ 6 ≤ B.2) (KK : LawK om l Post i B) (G : GAp k r) (hg : g.1 125 = LA w) (hf : g.2.2 = false) : Runs om l M_L_law B 1152 [some (.ref 100000), some (.ref 0), some (.ref 119), some (.ref 125), some (.int (nI i)), none, none, none, none] [] (EHp g k r) Post := by
  refine r_aload_n (pc := 1152) dL_law_1152 rfl rfl ?_
  refine r_aload_n (pc := 1153) dL_law_1153 rfl rfl ?_
  refine r_iload (pc := 1154) dL_law_1154 rfl ?_
  refine r_iconst (v := nI 1) (pc := 1156) dL_law_1156 (by decide) ?_
  refine r_iadd (pc := 1157) dL_law_1157 ?_
  refine r_taload (n := om_L om) (pc := 1158) dL_law_1158 law_a (vin_n (k := i + 1) (nadd rfl rfl) (by omega) (by omega)) ?_
  rw [cl_n (k := i + 1) (n := om_L om) (nadd (x := i) (y := 1) rfl rfl) (by omega) (by omega)]
  refine r_aload_n (pc := 1159) dL_law_1159 rfl rfl ?_
  obtain ⟨C, W, T, U, S, V, ns, cnt, ln, po, wd, t, nu⟩ := k
  obtain ⟨I, J, A, a, v, x0, n⟩ := r
  have ht : t = x0 := G.2.2.2.2
  subst ht
  obtain ⟨Q, q1, q2⟩ := op_need hl G (om_xs om (i + 1))
  refine r_callSH (vs := [.ref 0, .int _, .ref 125]) (pc := 1160) 1 6 dL_law_1160 rfl l_RL_161 rfl ⟨by decide, by decide⟩ rfl (Nat.le_of_ble_eq_true rfl) hl hB.1 hB.2 (Nat.le_of_ble_eq_true rfl) (w_need hl (om_xs om (i + 1)) q1 hg hf ⟨Nat.le_refl _, Nat.le_refl _⟩) (fun E h1 z => by obtain ⟨c, x, k', w', z, -⟩ := z; cases z) (fun o h1 z hc => by obtain ⟨c, x, k', w', -, -, rfl, -, -⟩ := z; rw [EHp_2, hsf hf] at hc; cases hc) (fun o h1 z => ?_)
  obtain ⟨c, x, k', w', z, hc2, rfl, hq, hw⟩ := z
  cases z
  refine q_istore [_, _, _, _, _, _, _, _, _] (pc := 1163) dL_law_1163 (by decide) rfl ?_
  refine r_aload_n (pc := 1165) dL_law_1165 rfl rfl ?_
  refine r_aload_n (pc := 1166) dL_law_1166 rfl rfl ?_
  refine r_iload (pc := 1167) dL_law_1167 rfl ?_
  refine r_iconst (v := nI 1) (pc := 1169) dL_law_1169 (by decide) ?_
  refine r_iadd (pc := 1170) dL_law_1170 ?_
  refine r_taload (n := om_L om) (pc := 1171) dL_law_1171 law_a (vin_n (k := i + 1) (nadd rfl rfl) (by omega) (by omega)) ?_
  rw [cl_n (k := i + 1) (n := om_L om) (nadd (x := i) (y := 1) rfl rfl) (by omega) (by omega)]
  refine r_callV (vs := [.int _]) (pc := 1172) 0 0 (ci := 9) (T := TX11) (N := 11) dL_law_1172 rfl l_RL_163 rfl ⟨by decide, by decide⟩ rfl (Nat.le_of_ble_eq_true rfl) hl EHp_119 rfl (Nat.zero_le _) (Nat.zero_le _) (Nat.le_of_ble_eq_true rfl) (q2 c x k' hq _ _) (fun E h1 z => by obtain ⟨y, r', z, -⟩ := z; cases z) (fun o h1 z hc => by obtain ⟨y, r', -, rfl, -⟩ := z; rw [EHp_2, hsf hf] at hc; cases hc) (fun o h1 z => ?_)
  obtain ⟨y, r', z, rfl, G', h0', hxy⟩ := z
  cases z
  refine q_istore [_, _, _, _, _, _, _, _, _] (pc := 1175) dL_law_1175 (by decide) rfl ?_
  refine r_aload_n (pc := 1177) dL_law_1177 rfl rfl ?_
  refine q_callV (ci := 9) (T := TX11) (N := 11) (vs := []) (pc := 1178) dL_law_1178 rfl l_RL_109 rfl ⟨by decide, by decide⟩ rfl (Nat.le_of_ble_eq_true rfl) hl EHp_119 rfl (Nat.le_of_ble_eq_true rfl) s_thr rfl ?_
  rw [h0']
  refine r_iload (pc := 1181) dL_law_1181 rfl ?_
  refine r_icmp_eq 1188 (pc := 1183) dL_law_1183 (by decide) (fun _ => ?_) (fun z => absurd rfl z)
  refine r_iload (pc := 1188) dL_law_1188 rfl ?_
  refine r_if_ne 1205 (pc := 1190) dL_law_1190 (by decide) (fun _ => ?_) (fun hz => ?_)
  · refine r_goto 1849 (pc := 1205) dL_law_1205 (by decide) ?_
    refine r_wk [some _, some _, some _, some _, some _, none, none, none, none] ⟨rfl, rfl, rfl, rfl, rfl, trivial⟩ ?_
    exact KK _ ⟨Nat.le_refl _, Nat.le_refl _⟩ _ _ _ w' G' hs_same (hsf hf)
  · have c0 : c = 0 := nI_injL (b := 0) (by omega) (by omega) hz
    subst c0
    have exy : x = y := hxy rfl
    subst exy
    refine r_aload_n (pc := 1193) dL_law_1193 rfl rfl ?_
    refine r_iconst (v := 0) (pc := 1194) dL_law_1194 rfl ?_
    refine r_laload (n := 1) (f := w') (pc := 1195) dL_law_1195 ((EHp_out (by omega)).trans hs_same) (vin_n (k := 0) rfl (by decide) (by decide)) ?_
    rw [show Int32.toNatClampNeg 0 = 0 from by decide, hw rfl]
    refine r_iload (pc := 1196) dL_law_1196 rfl ?_
    refine r_i2l (pc := 1198) dL_law_1198 ?_
    refine r_lcmp (pc := 1199) dL_law_1199 ?_
    refine r_if_eq 1205 (pc := 1200) dL_law_1200 (by decide) (fun _ => ?_) (fun z => absurd (cmp_eq.mpr rfl) z)
    refine r_goto 1849 (pc := 1205) dL_law_1205 (by decide) ?_
    refine r_wk [some _, some _, some _, some _, some _, none, none, none, none] ⟨rfl, rfl, rfl, rfl, rfl, trivial⟩ ?_
    exact KK _ ⟨Nat.le_refl _, Nat.le_refl _⟩ _ _ _ w' G' hs_same (hsf hf)
theorem lc_thing (hl : l.stackTraces = false) (i : Nat) (hi : i + 6 ≤ om_L om) (hL : om_L om ≤ 3072) (hB : 1 ≤ B.1 ∧ 6 ≤ B.2) (KK : LawK om l Post i B) (G : GAp k r) (hg : g.1 125 = LA w) (hf : g.2.2 = false) : Runs om l M_L_law B 1208 [some (.ref 100000), some (.ref 0), some (.ref 119), some (.ref 125), some (.int (nI i)), none, none, none, none] [] (EHp g k r) Post := by
  refine r_aload_n (pc := 1208) dL_law_1208 rfl rfl ?_
  refine r_aload_n (pc := 1209) dL_law_1209 rfl rfl ?_
  refine r_iload (pc := 1210) dL_law_1210 rfl ?_
  refine r_iconst (v := nI 1) (pc := 1212) dL_law_1212 (by decide) ?_
  refine r_iadd (pc := 1213) dL_law_1213 ?_
  refine r_taload (n := om_L om) (pc := 1214) dL_law_1214 law_a (vin_n (k := i + 1) (nadd rfl rfl) (by omega) (by omega)) ?_
  rw [cl_n (k := i + 1) (n := om_L om) (nadd (x := i) (y := 1) rfl rfl) (by omega) (by omega)]
  refine r_aload_n (pc := 1215) dL_law_1215 rfl rfl ?_
  refine r_iload (pc := 1216) dL_law_1216 rfl ?_
  refine r_iconst (v := nI 2) (pc := 1218) dL_law_1218 (by decide) ?_
  refine r_iadd (pc := 1219) dL_law_1219 ?_
  refine r_taload (n := om_L om) (pc := 1220) dL_law_1220 law_a (vin_n (k := i + 2) (nadd rfl rfl) (by omega) (by omega)) ?_
  rw [cl_n (k := i + 2) (n := om_L om) (nadd (x := i) (y := 2) rfl rfl) (by omega) (by omega)]
  refine r_aload_n (pc := 1221) dL_law_1221 rfl rfl ?_
  obtain ⟨C, W, T, U, S, V, ns, cnt, ln, po, wd, t, nu⟩ := k
  obtain ⟨I, J, A, a, v, x0, n⟩ := r
  have ht : t = x0 := G.2.2.2.2
  subst ht
  obtain ⟨Q, q1, q2⟩ := op_thing hl G (om_xs om (i + 1)) (om_xs om (i + 2))
  refine r_callSH (vs := [.ref 0, .int _, .int _, .ref 125]) (pc := 1222) 1 6 dL_law_1222 rfl l_RL_164 rfl ⟨by decide, by decide⟩ rfl (Nat.le_of_ble_eq_true rfl) hl hB.1 hB.2 (Nat.le_of_ble_eq_true rfl) (w_thing hl (om_xs om (i + 1)) (om_xs om (i + 2)) q1 hg hf ⟨Nat.le_refl _, Nat.le_refl _⟩) (fun E h1 z => by obtain ⟨c, x, k', w', z, -⟩ := z; cases z) (fun o h1 z hc => by obtain ⟨c, x, k', w', -, -, rfl, -, -⟩ := z; rw [EHp_2, hsf hf] at hc; cases hc) (fun o h1 z => ?_)
  obtain ⟨c, x, k', w', z, hc2, rfl, hq, hw⟩ := z
  cases z
  refine q_istore [_, _, _, _, _, _, _, _, _] (pc := 1225) dL_law_1225 (by decide) rfl ?_
  refine r_aload_n (pc := 1227) dL_law_1227 rfl rfl ?_
  refine r_aload_n (pc := 1228) dL_law_1228 rfl rfl ?_
  refine r_iload (pc := 1229) dL_law_1229 rfl ?_
  refine r_iconst (v := nI 1) (pc := 1231) dL_law_1231 (by decide) ?_
  refine r_iadd (pc := 1232) dL_law_1232 ?_
  refine r_taload (n := om_L om) (pc := 1233) dL_law_1233 law_a (vin_n (k := i + 1) (nadd rfl rfl) (by omega) (by omega)) ?_
  rw [cl_n (k := i + 1) (n := om_L om) (nadd (x := i) (y := 1) rfl rfl) (by omega) (by omega)]
  refine r_aload_n (pc := 1234) dL_law_1234 rfl rfl ?_
  refine r_iload (pc := 1235) dL_law_1235 rfl ?_
  refine r_iconst (v := nI 2) (pc := 1237) dL_law_1237 (by decide) ?_
  refine r_iadd (pc := 1238) dL_law_1238 ?_
  refine r_taload (n := om_L om) (pc := 1239) dL_law_1239 law_a (vin_n (k := i + 2) (nadd rfl rfl) (by omega) (by omega)) ?_
  rw [cl_n (k := i + 2) (n := om_L om) (nadd (x := i) (y := 2) rfl rfl) (by omega) (by omega)]
  refine r_callV (vs := [.int _, .int _]) (pc := 1240) 0 0 (ci := 9) (T := TX11) (N := 11) dL_law_1240 rfl l_RL_166 rfl ⟨by decide, by decide⟩ rfl (Nat.le_of_ble_eq_true rfl) hl EHp_119 rfl (Nat.zero_le _) (Nat.zero_le _) (Nat.le_of_ble_eq_true rfl) (q2 c x k' hq _ _) (fun E h1 z => by obtain ⟨y, r', z, -⟩ := z; cases z) (fun o h1 z hc => by obtain ⟨y, r', -, rfl, -⟩ := z; rw [EHp_2, hsf hf] at hc; cases hc) (fun o h1 z => ?_)
  obtain ⟨y, r', z, rfl, G', h0', hxy⟩ := z
  cases z
  refine q_istore [_, _, _, _, _, _, _, _, _] (pc := 1243) dL_law_1243 (by decide) rfl ?_
  refine r_aload_n (pc := 1245) dL_law_1245 rfl rfl ?_
  refine q_callV (ci := 9) (T := TX11) (N := 11) (vs := []) (pc := 1246) dL_law_1246 rfl l_RL_109 rfl ⟨by decide, by decide⟩ rfl (Nat.le_of_ble_eq_true rfl) hl EHp_119 rfl (Nat.le_of_ble_eq_true rfl) s_thr rfl ?_
  rw [h0']
  refine r_iload (pc := 1249) dL_law_1249 rfl ?_
  refine r_icmp_eq 1256 (pc := 1251) dL_law_1251 (by decide) (fun _ => ?_) (fun z => absurd rfl z)
  refine r_iload (pc := 1256) dL_law_1256 rfl ?_
  refine r_if_ne 1273 (pc := 1258) dL_law_1258 (by decide) (fun _ => ?_) (fun hz => ?_)
  · refine r_goto 1849 (pc := 1273) dL_law_1273 (by decide) ?_
    refine r_wk [some _, some _, some _, some _, some _, none, none, none, none] ⟨rfl, rfl, rfl, rfl, rfl, trivial⟩ ?_
    exact KK _ ⟨Nat.le_refl _, Nat.le_refl _⟩ _ _ _ w' G' hs_same (hsf hf)
  · have c0 : c = 0 := nI_injL (b := 0) (by omega) (by omega) hz
    subst c0
    have exy : x = y := hxy rfl
    subst exy
    refine r_aload_n (pc := 1261) dL_law_1261 rfl rfl ?_
    refine r_iconst (v := 0) (pc := 1262) dL_law_1262 rfl ?_
    refine r_laload (n := 1) (f := w') (pc := 1263) dL_law_1263 ((EHp_out (by omega)).trans hs_same) (vin_n (k := 0) rfl (by decide) (by decide)) ?_
    rw [show Int32.toNatClampNeg 0 = 0 from by decide, hw rfl]
    refine r_iload (pc := 1264) dL_law_1264 rfl ?_
    refine r_i2l (pc := 1266) dL_law_1266 ?_
    refine r_lcmp (pc := 1267) dL_law_1267 ?_
    refine r_if_eq 1273 (pc := 1268) dL_law_1268 (by decide) (fun _ => ?_) (fun z => absurd (cmp_eq.mpr rfl) z)
    refine r_goto 1849 (pc := 1273) dL_law_1273 (by decide) ?_
    refine r_wk [some _, some _, some _, some _, some _, none, none, none, none] ⟨rfl, rfl, rfl, rfl, rfl, trivial⟩ ?_
    exact KK _ ⟨Nat.le_refl _, Nat.le_refl _⟩ _ _ _ w' G' hs_same (hsf hf)
theorem lc_angle (hl : l.stackTraces = false) (i : Nat) (hi : i + 6 ≤ om_L om) (hL : om_L om ≤ 3072) (hB : 1 ≤ B.1 ∧ 6 ≤ B.2) (KK : LawK om l Post i B) (G : GAp k r) (hg : g.1 125 = LA w) (hf : g.2.2 = false) : Runs om l M_L_law B 1276 [some (.ref 100000), some (.ref 0), some (.ref 119), some (.ref 125), some (.int (nI i)), none, none, none, none] [] (EHp g k r) Post := by
  refine r_aload_n (pc := 1276) dL_law_1276 rfl rfl ?_
  refine r_aload_n (pc := 1277) dL_law_1277 rfl rfl ?_
  refine r_iload (pc := 1278) dL_law_1278 rfl ?_
  refine r_iconst (v := nI 1) (pc := 1280) dL_law_1280 (by decide) ?_
  refine r_iadd (pc := 1281) dL_law_1281 ?_
  refine r_taload (n := om_L om) (pc := 1282) dL_law_1282 law_a (vin_n (k := i + 1) (nadd rfl rfl) (by omega) (by omega)) ?_
  rw [cl_n (k := i + 1) (n := om_L om) (nadd (x := i) (y := 1) rfl rfl) (by omega) (by omega)]
  refine r_aload_n (pc := 1283) dL_law_1283 rfl rfl ?_
  obtain ⟨C, W, T, U, S, V, ns, cnt, ln, po, wd, t, nu⟩ := k
  obtain ⟨I, J, A, a, v, x0, n⟩ := r
  have ht : t = x0 := G.2.2.2.2
  subst ht
  obtain ⟨Q, q1, q2⟩ := op_angle hl G (om_xs om (i + 1))
  refine r_callSH (vs := [.ref 0, .int _, .ref 125]) (pc := 1284) 1 6 dL_law_1284 rfl l_RL_167 rfl ⟨by decide, by decide⟩ rfl (Nat.le_of_ble_eq_true rfl) hl hB.1 hB.2 (Nat.le_of_ble_eq_true rfl) (w_angle hl (om_xs om (i + 1)) q1 hg hf ⟨Nat.le_refl _, Nat.le_refl _⟩) (fun E h1 z => by obtain ⟨c, x, k', w', z, -⟩ := z; cases z) (fun o h1 z hc => by obtain ⟨c, x, k', w', -, -, rfl, -, -⟩ := z; rw [EHp_2, hsf hf] at hc; cases hc) (fun o h1 z => ?_)
  obtain ⟨c, x, k', w', z, hc2, rfl, hq, hw⟩ := z
  cases z
  refine q_istore [_, _, _, _, _, _, _, _, _] (pc := 1287) dL_law_1287 (by decide) rfl ?_
  refine r_aload_n (pc := 1289) dL_law_1289 rfl rfl ?_
  refine r_aload_n (pc := 1290) dL_law_1290 rfl rfl ?_
  refine r_iload (pc := 1291) dL_law_1291 rfl ?_
  refine r_iconst (v := nI 1) (pc := 1293) dL_law_1293 (by decide) ?_
  refine r_iadd (pc := 1294) dL_law_1294 ?_
  refine r_taload (n := om_L om) (pc := 1295) dL_law_1295 law_a (vin_n (k := i + 1) (nadd rfl rfl) (by omega) (by omega)) ?_
  rw [cl_n (k := i + 1) (n := om_L om) (nadd (x := i) (y := 1) rfl rfl) (by omega) (by omega)]
  refine r_callV (vs := [.int _]) (pc := 1296) 0 0 (ci := 9) (T := TX11) (N := 11) dL_law_1296 rfl l_RL_169 rfl ⟨by decide, by decide⟩ rfl (Nat.le_of_ble_eq_true rfl) hl EHp_119 rfl (Nat.zero_le _) (Nat.zero_le _) (Nat.le_of_ble_eq_true rfl) (q2 c x k' hq _ _) (fun E h1 z => by obtain ⟨y, r', z, -⟩ := z; cases z) (fun o h1 z hc => by obtain ⟨y, r', -, rfl, -⟩ := z; rw [EHp_2, hsf hf] at hc; cases hc) (fun o h1 z => ?_)
  obtain ⟨y, r', z, rfl, G', h0', hxy⟩ := z
  cases z
  refine q_istore [_, _, _, _, _, _, _, _, _] (pc := 1299) dL_law_1299 (by decide) rfl ?_
  refine r_aload_n (pc := 1301) dL_law_1301 rfl rfl ?_
  refine q_callV (ci := 9) (T := TX11) (N := 11) (vs := []) (pc := 1302) dL_law_1302 rfl l_RL_109 rfl ⟨by decide, by decide⟩ rfl (Nat.le_of_ble_eq_true rfl) hl EHp_119 rfl (Nat.le_of_ble_eq_true rfl) s_thr rfl ?_
  rw [h0']
  refine r_iload (pc := 1305) dL_law_1305 rfl ?_
  refine r_icmp_eq 1312 (pc := 1307) dL_law_1307 (by decide) (fun _ => ?_) (fun z => absurd rfl z)
  refine r_iload (pc := 1312) dL_law_1312 rfl ?_
  refine r_if_ne 1329 (pc := 1314) dL_law_1314 (by decide) (fun _ => ?_) (fun hz => ?_)
  · refine r_goto 1849 (pc := 1329) dL_law_1329 (by decide) ?_
    refine r_wk [some _, some _, some _, some _, some _, none, none, none, none] ⟨rfl, rfl, rfl, rfl, rfl, trivial⟩ ?_
    exact KK _ ⟨Nat.le_refl _, Nat.le_refl _⟩ _ _ _ w' G' hs_same (hsf hf)
  · have c0 : c = 0 := nI_injL (b := 0) (by omega) (by omega) hz
    subst c0
    have exy : x = y := hxy rfl
    subst exy
    refine r_aload_n (pc := 1317) dL_law_1317 rfl rfl ?_
    refine r_iconst (v := 0) (pc := 1318) dL_law_1318 rfl ?_
    refine r_laload (n := 1) (f := w') (pc := 1319) dL_law_1319 ((EHp_out (by omega)).trans hs_same) (vin_n (k := 0) rfl (by decide) (by decide)) ?_
    rw [show Int32.toNatClampNeg 0 = 0 from by decide, hw rfl]
    refine r_iload (pc := 1320) dL_law_1320 rfl ?_
    refine r_i2l (pc := 1322) dL_law_1322 ?_
    refine r_lcmp (pc := 1323) dL_law_1323 ?_
    refine r_if_eq 1329 (pc := 1324) dL_law_1324 (by decide) (fun _ => ?_) (fun z => absurd (cmp_eq.mpr rfl) z)
    refine r_goto 1849 (pc := 1329) dL_law_1329 (by decide) ?_
    refine r_wk [some _, some _, some _, some _, some _, none, none, none, none] ⟨rfl, rfl, rfl, rfl, rfl, trivial⟩ ?_
    exact KK _ ⟨Nat.le_refl _, Nat.le_refl _⟩ _ _ _ w' G' hs_same (hsf hf)
theorem lc_tank (hl : l.stackTraces = false) (i : Nat) (hi : i + 6 ≤ om_L om) (hL : om_L om ≤ 3072) (hB : 1 ≤ B.1 ∧ 6 ≤ B.2) (KK : LawK om l Post i B) (G : GAp k r) (hg : g.1 125 = LA w) (hf : g.2.2 = false) : Runs om l M_L_law B 1332 [some (.ref 100000), some (.ref 0), some (.ref 119), some (.ref 125), some (.int (nI i)), none, none, none, none] [] (EHp g k r) Post := by
  refine r_aload_n (pc := 1332) dL_law_1332 rfl rfl ?_
  refine r_aload_n (pc := 1333) dL_law_1333 rfl rfl ?_
  refine r_iload (pc := 1334) dL_law_1334 rfl ?_
  refine r_iconst (v := nI 1) (pc := 1336) dL_law_1336 (by decide) ?_
  refine r_iadd (pc := 1337) dL_law_1337 ?_
  refine r_taload (n := om_L om) (pc := 1338) dL_law_1338 law_a (vin_n (k := i + 1) (nadd rfl rfl) (by omega) (by omega)) ?_
  rw [cl_n (k := i + 1) (n := om_L om) (nadd (x := i) (y := 1) rfl rfl) (by omega) (by omega)]
  refine r_aload_n (pc := 1339) dL_law_1339 rfl rfl ?_
  obtain ⟨C, W, T, U, S, V, ns, cnt, ln, po, wd, t, nu⟩ := k
  obtain ⟨I, J, A, a, v, x0, n⟩ := r
  have ht : t = x0 := G.2.2.2.2
  subst ht
  obtain ⟨Q, q1, q2⟩ := op_tank hl G (om_xs om (i + 1))
  refine r_callSH (vs := [.ref 0, .int _, .ref 125]) (pc := 1340) 1 6 dL_law_1340 rfl l_RL_170 rfl ⟨by decide, by decide⟩ rfl (Nat.le_of_ble_eq_true rfl) hl hB.1 hB.2 (Nat.le_of_ble_eq_true rfl) (w_tank hl (om_xs om (i + 1)) q1 hg hf ⟨Nat.le_refl _, Nat.le_refl _⟩) (fun E h1 z => by obtain ⟨c, x, k', w', z, -⟩ := z; cases z) (fun o h1 z hc => by obtain ⟨c, x, k', w', -, -, rfl, -, -⟩ := z; rw [EHp_2, hsf hf] at hc; cases hc) (fun o h1 z => ?_)
  obtain ⟨c, x, k', w', z, hc2, rfl, hq, hw⟩ := z
  cases z
  refine q_istore [_, _, _, _, _, _, _, _, _] (pc := 1343) dL_law_1343 (by decide) rfl ?_
  refine r_aload_n (pc := 1345) dL_law_1345 rfl rfl ?_
  refine r_aload_n (pc := 1346) dL_law_1346 rfl rfl ?_
  refine r_iload (pc := 1347) dL_law_1347 rfl ?_
  refine r_iconst (v := nI 1) (pc := 1349) dL_law_1349 (by decide) ?_
  refine r_iadd (pc := 1350) dL_law_1350 ?_
  refine r_taload (n := om_L om) (pc := 1351) dL_law_1351 law_a (vin_n (k := i + 1) (nadd rfl rfl) (by omega) (by omega)) ?_
  rw [cl_n (k := i + 1) (n := om_L om) (nadd (x := i) (y := 1) rfl rfl) (by omega) (by omega)]
  refine r_callV (vs := [.int _]) (pc := 1352) 0 0 (ci := 9) (T := TX11) (N := 11) dL_law_1352 rfl l_RL_172 rfl ⟨by decide, by decide⟩ rfl (Nat.le_of_ble_eq_true rfl) hl EHp_119 rfl (Nat.zero_le _) (Nat.zero_le _) (Nat.le_of_ble_eq_true rfl) (q2 c x k' hq _ _) (fun E h1 z => by obtain ⟨y, r', z, -⟩ := z; cases z) (fun o h1 z hc => by obtain ⟨y, r', -, rfl, -⟩ := z; rw [EHp_2, hsf hf] at hc; cases hc) (fun o h1 z => ?_)
  obtain ⟨y, r', z, rfl, G', h0', hxy⟩ := z
  cases z
  refine q_istore [_, _, _, _, _, _, _, _, _] (pc := 1355) dL_law_1355 (by decide) rfl ?_
  refine r_aload_n (pc := 1357) dL_law_1357 rfl rfl ?_
  refine q_callV (ci := 9) (T := TX11) (N := 11) (vs := []) (pc := 1358) dL_law_1358 rfl l_RL_109 rfl ⟨by decide, by decide⟩ rfl (Nat.le_of_ble_eq_true rfl) hl EHp_119 rfl (Nat.le_of_ble_eq_true rfl) s_thr rfl ?_
  rw [h0']
  refine r_iload (pc := 1361) dL_law_1361 rfl ?_
  refine r_icmp_eq 1368 (pc := 1363) dL_law_1363 (by decide) (fun _ => ?_) (fun z => absurd rfl z)
  refine r_iload (pc := 1368) dL_law_1368 rfl ?_
  refine r_if_ne 1385 (pc := 1370) dL_law_1370 (by decide) (fun _ => ?_) (fun hz => ?_)
  · refine r_goto 1849 (pc := 1385) dL_law_1385 (by decide) ?_
    refine r_wk [some _, some _, some _, some _, some _, none, none, none, none] ⟨rfl, rfl, rfl, rfl, rfl, trivial⟩ ?_
    exact KK _ ⟨Nat.le_refl _, Nat.le_refl _⟩ _ _ _ w' G' hs_same (hsf hf)
  · have c0 : c = 0 := nI_injL (b := 0) (by omega) (by omega) hz
    subst c0
    have exy : x = y := hxy rfl
    subst exy
    refine r_aload_n (pc := 1373) dL_law_1373 rfl rfl ?_
    refine r_iconst (v := 0) (pc := 1374) dL_law_1374 rfl ?_
    refine r_laload (n := 1) (f := w') (pc := 1375) dL_law_1375 ((EHp_out (by omega)).trans hs_same) (vin_n (k := 0) rfl (by decide) (by decide)) ?_
    rw [show Int32.toNatClampNeg 0 = 0 from by decide, hw rfl]
    refine r_iload (pc := 1376) dL_law_1376 rfl ?_
    refine r_i2l (pc := 1378) dL_law_1378 ?_
    refine r_lcmp (pc := 1379) dL_law_1379 ?_
    refine r_if_eq 1385 (pc := 1380) dL_law_1380 (by decide) (fun _ => ?_) (fun z => absurd (cmp_eq.mpr rfl) z)
    refine r_goto 1849 (pc := 1385) dL_law_1385 (by decide) ?_
    refine r_wk [some _, some _, some _, some _, some _, none, none, none, none] ⟨rfl, rfl, rfl, rfl, rfl, trivial⟩ ?_
    exact KK _ ⟨Nat.le_refl _, Nat.le_refl _⟩ _ _ _ w' G' hs_same (hsf hf)
theorem lc_setting (hl : l.stackTraces = false) (i : Nat) (hi : i + 6 ≤ om_L om) (hL : om_L om ≤ 3072) (hB : 1 ≤ B.1 ∧ 6 ≤ B.2) (KK : LawK om l Post i B) (G : GAp k r) (hg : g.1 125 = LA w) (hf : g.2.2 = false) : Runs om l M_L_law B 1388 [some (.ref 100000), some (.ref 0), some (.ref 119), some (.ref 125), some (.int (nI i)), none, none, none, none] [] (EHp g k r) Post := by
  refine r_aload_n (pc := 1388) dL_law_1388 rfl rfl ?_
  refine r_aload_n (pc := 1389) dL_law_1389 rfl rfl ?_
  refine r_iload (pc := 1390) dL_law_1390 rfl ?_
  refine r_iconst (v := nI 1) (pc := 1392) dL_law_1392 (by decide) ?_
  refine r_iadd (pc := 1393) dL_law_1393 ?_
  refine r_taload (n := om_L om) (pc := 1394) dL_law_1394 law_a (vin_n (k := i + 1) (nadd rfl rfl) (by omega) (by omega)) ?_
  rw [cl_n (k := i + 1) (n := om_L om) (nadd (x := i) (y := 1) rfl rfl) (by omega) (by omega)]
  refine r_aload_n (pc := 1395) dL_law_1395 rfl rfl ?_
  obtain ⟨C, W, T, U, S, V, ns, cnt, ln, po, wd, t, nu⟩ := k
  obtain ⟨I, J, A, a, v, x0, n⟩ := r
  have ht : t = x0 := G.2.2.2.2
  subst ht
  obtain ⟨Q, q1, q2⟩ := op_setting hl G (om_xs om (i + 1))
  refine r_callSH (vs := [.ref 0, .int _, .ref 125]) (pc := 1396) 1 6 dL_law_1396 rfl l_RL_173 rfl ⟨by decide, by decide⟩ rfl (Nat.le_of_ble_eq_true rfl) hl hB.1 hB.2 (Nat.le_of_ble_eq_true rfl) (w_setting hl (om_xs om (i + 1)) q1 hg hf ⟨Nat.le_refl _, Nat.le_refl _⟩) (fun E h1 z => by obtain ⟨c, x, k', w', z, -⟩ := z; cases z) (fun o h1 z hc => by obtain ⟨c, x, k', w', -, -, rfl, -, -⟩ := z; rw [EHp_2, hsf hf] at hc; cases hc) (fun o h1 z => ?_)
  obtain ⟨c, x, k', w', z, hc2, rfl, hq, hw⟩ := z
  cases z
  refine q_istore [_, _, _, _, _, _, _, _, _] (pc := 1399) dL_law_1399 (by decide) rfl ?_
  refine r_aload_n (pc := 1401) dL_law_1401 rfl rfl ?_
  refine r_aload_n (pc := 1402) dL_law_1402 rfl rfl ?_
  refine r_iload (pc := 1403) dL_law_1403 rfl ?_
  refine r_iconst (v := nI 1) (pc := 1405) dL_law_1405 (by decide) ?_
  refine r_iadd (pc := 1406) dL_law_1406 ?_
  refine r_taload (n := om_L om) (pc := 1407) dL_law_1407 law_a (vin_n (k := i + 1) (nadd rfl rfl) (by omega) (by omega)) ?_
  rw [cl_n (k := i + 1) (n := om_L om) (nadd (x := i) (y := 1) rfl rfl) (by omega) (by omega)]
  refine r_callV (vs := [.int _]) (pc := 1408) 0 0 (ci := 9) (T := TX11) (N := 11) dL_law_1408 rfl l_RL_175 rfl ⟨by decide, by decide⟩ rfl (Nat.le_of_ble_eq_true rfl) hl EHp_119 rfl (Nat.zero_le _) (Nat.zero_le _) (Nat.le_of_ble_eq_true rfl) (q2 c x k' hq _ _) (fun E h1 z => by obtain ⟨y, r', z, -⟩ := z; cases z) (fun o h1 z hc => by obtain ⟨y, r', -, rfl, -⟩ := z; rw [EHp_2, hsf hf] at hc; cases hc) (fun o h1 z => ?_)
  obtain ⟨y, r', z, rfl, G', h0', hxy⟩ := z
  cases z
  refine q_istore [_, _, _, _, _, _, _, _, _] (pc := 1411) dL_law_1411 (by decide) rfl ?_
  refine r_aload_n (pc := 1413) dL_law_1413 rfl rfl ?_
  refine q_callV (ci := 9) (T := TX11) (N := 11) (vs := []) (pc := 1414) dL_law_1414 rfl l_RL_109 rfl ⟨by decide, by decide⟩ rfl (Nat.le_of_ble_eq_true rfl) hl EHp_119 rfl (Nat.le_of_ble_eq_true rfl) s_thr rfl ?_
  rw [h0']
  refine r_iload (pc := 1417) dL_law_1417 rfl ?_
  refine r_icmp_eq 1424 (pc := 1419) dL_law_1419 (by decide) (fun _ => ?_) (fun z => absurd rfl z)
  refine r_iload (pc := 1424) dL_law_1424 rfl ?_
  refine r_if_ne 1441 (pc := 1426) dL_law_1426 (by decide) (fun _ => ?_) (fun hz => ?_)
  · refine r_goto 1849 (pc := 1441) dL_law_1441 (by decide) ?_
    refine r_wk [some _, some _, some _, some _, some _, none, none, none, none] ⟨rfl, rfl, rfl, rfl, rfl, trivial⟩ ?_
    exact KK _ ⟨Nat.le_refl _, Nat.le_refl _⟩ _ _ _ w' G' hs_same (hsf hf)
  · have c0 : c = 0 := nI_injL (b := 0) (by omega) (by omega) hz
    subst c0
    have exy : x = y := hxy rfl
    subst exy
    refine r_aload_n (pc := 1429) dL_law_1429 rfl rfl ?_
    refine r_iconst (v := 0) (pc := 1430) dL_law_1430 rfl ?_
    refine r_laload (n := 1) (f := w') (pc := 1431) dL_law_1431 ((EHp_out (by omega)).trans hs_same) (vin_n (k := 0) rfl (by decide) (by decide)) ?_
    rw [show Int32.toNatClampNeg 0 = 0 from by decide, hw rfl]
    refine r_iload (pc := 1432) dL_law_1432 rfl ?_
    refine r_i2l (pc := 1434) dL_law_1434 ?_
    refine r_lcmp (pc := 1435) dL_law_1435 ?_
    refine r_if_eq 1441 (pc := 1436) dL_law_1436 (by decide) (fun _ => ?_) (fun z => absurd (cmp_eq.mpr rfl) z)
    refine r_goto 1849 (pc := 1441) dL_law_1441 (by decide) ?_
    refine r_wk [some _, some _, some _, some _, some _, none, none, none, none] ⟨rfl, rfl, rfl, rfl, rfl, trivial⟩ ?_
    exact KK _ ⟨Nat.le_refl _, Nat.le_refl _⟩ _ _ _ w' G' hs_same (hsf hf)
theorem lc_gauge (hl : l.stackTraces = false) (i : Nat) (hi : i + 6 ≤ om_L om) (hL : om_L om ≤ 3072) (hB : 1 ≤ B.1 ∧ 6 ≤ B.2) (KK : LawK om l Post i B) (G : GAp k r) (hg : g.1 125 = LA w) (hf : g.2.2 = false) : Runs om l M_L_law B 1444 [some (.ref 100000), some (.ref 0), some (.ref 119), some (.ref 125), some (.int (nI i)), none, none, none, none] [] (EHp g k r) Post := by
  refine r_aload_n (pc := 1444) dL_law_1444 rfl rfl ?_
  refine r_aload_n (pc := 1445) dL_law_1445 rfl rfl ?_
  refine r_iload (pc := 1446) dL_law_1446 rfl ?_
  refine r_iconst (v := nI 1) (pc := 1448) dL_law_1448 (by decide) ?_
  refine r_iadd (pc := 1449) dL_law_1449 ?_
  refine r_taload (n := om_L om) (pc := 1450) dL_law_1450 law_a (vin_n (k := i + 1) (nadd rfl rfl) (by omega) (by omega)) ?_
  rw [cl_n (k := i + 1) (n := om_L om) (nadd (x := i) (y := 1) rfl rfl) (by omega) (by omega)]
  refine r_aload_n (pc := 1451) dL_law_1451 rfl rfl ?_
  obtain ⟨C, W, T, U, S, V, ns, cnt, ln, po, wd, t, nu⟩ := k
  obtain ⟨I, J, A, a, v, x0, n⟩ := r
  have ht : t = x0 := G.2.2.2.2
  subst ht
  obtain ⟨Q, q1, q2⟩ := op_gauge hl G (om_xs om (i + 1))
  refine r_callSH (vs := [.ref 0, .int _, .ref 125]) (pc := 1452) 1 6 dL_law_1452 rfl l_RL_176 rfl ⟨by decide, by decide⟩ rfl (Nat.le_of_ble_eq_true rfl) hl hB.1 hB.2 (Nat.le_of_ble_eq_true rfl) (w_gauge hl (om_xs om (i + 1)) q1 hg hf ⟨Nat.le_refl _, Nat.le_refl _⟩) (fun E h1 z => by obtain ⟨c, x, k', w', z, -⟩ := z; cases z) (fun o h1 z hc => by obtain ⟨c, x, k', w', -, -, rfl, -, -⟩ := z; rw [EHp_2, hsf hf] at hc; cases hc) (fun o h1 z => ?_)
  obtain ⟨c, x, k', w', z, hc2, rfl, hq, hw⟩ := z
  cases z
  refine q_istore [_, _, _, _, _, _, _, _, _] (pc := 1455) dL_law_1455 (by decide) rfl ?_
  refine r_aload_n (pc := 1457) dL_law_1457 rfl rfl ?_
  refine r_aload_n (pc := 1458) dL_law_1458 rfl rfl ?_
  refine r_iload (pc := 1459) dL_law_1459 rfl ?_
  refine r_iconst (v := nI 1) (pc := 1461) dL_law_1461 (by decide) ?_
  refine r_iadd (pc := 1462) dL_law_1462 ?_
  refine r_taload (n := om_L om) (pc := 1463) dL_law_1463 law_a (vin_n (k := i + 1) (nadd rfl rfl) (by omega) (by omega)) ?_
  rw [cl_n (k := i + 1) (n := om_L om) (nadd (x := i) (y := 1) rfl rfl) (by omega) (by omega)]
  refine r_callV (vs := [.int _]) (pc := 1464) 0 0 (ci := 9) (T := TX11) (N := 11) dL_law_1464 rfl l_RL_178 rfl ⟨by decide, by decide⟩ rfl (Nat.le_of_ble_eq_true rfl) hl EHp_119 rfl (Nat.zero_le _) (Nat.zero_le _) (Nat.le_of_ble_eq_true rfl) (q2 c x k' hq _ _) (fun E h1 z => by obtain ⟨y, r', z, -⟩ := z; cases z) (fun o h1 z hc => by obtain ⟨y, r', -, rfl, -⟩ := z; rw [EHp_2, hsf hf] at hc; cases hc) (fun o h1 z => ?_)
  obtain ⟨y, r', z, rfl, G', h0', hxy⟩ := z
  cases z
  refine q_istore [_, _, _, _, _, _, _, _, _] (pc := 1467) dL_law_1467 (by decide) rfl ?_
  refine r_aload_n (pc := 1469) dL_law_1469 rfl rfl ?_
  refine q_callV (ci := 9) (T := TX11) (N := 11) (vs := []) (pc := 1470) dL_law_1470 rfl l_RL_109 rfl ⟨by decide, by decide⟩ rfl (Nat.le_of_ble_eq_true rfl) hl EHp_119 rfl (Nat.le_of_ble_eq_true rfl) s_thr rfl ?_
  rw [h0']
  refine r_iload (pc := 1473) dL_law_1473 rfl ?_
  refine r_icmp_eq 1480 (pc := 1475) dL_law_1475 (by decide) (fun _ => ?_) (fun z => absurd rfl z)
  refine r_iload (pc := 1480) dL_law_1480 rfl ?_
  refine r_if_ne 1497 (pc := 1482) dL_law_1482 (by decide) (fun _ => ?_) (fun hz => ?_)
  · refine r_goto 1849 (pc := 1497) dL_law_1497 (by decide) ?_
    refine r_wk [some _, some _, some _, some _, some _, none, none, none, none] ⟨rfl, rfl, rfl, rfl, rfl, trivial⟩ ?_
    exact KK _ ⟨Nat.le_refl _, Nat.le_refl _⟩ _ _ _ w' G' hs_same (hsf hf)
  · have c0 : c = 0 := nI_injL (b := 0) (by omega) (by omega) hz
    subst c0
    have exy : x = y := hxy rfl
    subst exy
    refine r_aload_n (pc := 1485) dL_law_1485 rfl rfl ?_
    refine r_iconst (v := 0) (pc := 1486) dL_law_1486 rfl ?_
    refine r_laload (n := 1) (f := w') (pc := 1487) dL_law_1487 ((EHp_out (by omega)).trans hs_same) (vin_n (k := 0) rfl (by decide) (by decide)) ?_
    rw [show Int32.toNatClampNeg 0 = 0 from by decide, hw rfl]
    refine r_iload (pc := 1488) dL_law_1488 rfl ?_
    refine r_i2l (pc := 1490) dL_law_1490 ?_
    refine r_lcmp (pc := 1491) dL_law_1491 ?_
    refine r_if_eq 1497 (pc := 1492) dL_law_1492 (by decide) (fun _ => ?_) (fun z => absurd (cmp_eq.mpr rfl) z)
    refine r_goto 1849 (pc := 1497) dL_law_1497 (by decide) ?_
    refine r_wk [some _, some _, some _, some _, some _, none, none, none, none] ⟨rfl, rfl, rfl, rfl, rfl, trivial⟩ ?_
    exact KK _ ⟨Nat.le_refl _, Nat.le_refl _⟩ _ _ _ w' G' hs_same (hsf hf)
theorem lc_toldAfter (hl : l.stackTraces = false) (i : Nat) (hi : i + 6 ≤ om_L om) (hL : om_L om ≤ 3072) (hB : 1 ≤ B.1 ∧ 6 ≤ B.2) (KK : LawK om l Post i B) (G : GAp k r) (hg : g.1 125 = LA w) (hf : g.2.2 = false) : Runs om l M_L_law B 1541 [some (.ref 100000), some (.ref 0), some (.ref 119), some (.ref 125), some (.int (nI i)), none, none, none, none] [] (EHp g k r) Post := by
  refine r_aload_n (pc := 1541) dL_law_1541 rfl rfl ?_
  refine r_aload_n (pc := 1542) dL_law_1542 rfl rfl ?_
  refine r_iload (pc := 1543) dL_law_1543 rfl ?_
  refine r_iconst (v := nI 1) (pc := 1545) dL_law_1545 (by decide) ?_
  refine r_iadd (pc := 1546) dL_law_1546 ?_
  refine r_taload (n := om_L om) (pc := 1547) dL_law_1547 law_a (vin_n (k := i + 1) (nadd rfl rfl) (by omega) (by omega)) ?_
  rw [cl_n (k := i + 1) (n := om_L om) (nadd (x := i) (y := 1) rfl rfl) (by omega) (by omega)]
  refine r_aload_n (pc := 1548) dL_law_1548 rfl rfl ?_
  obtain ⟨C, W, T, U, S, V, ns, cnt, ln, po, wd, t, nu⟩ := k
  obtain ⟨I, J, A, a, v, x0, n⟩ := r
  have ht : t = x0 := G.2.2.2.2
  subst ht
  obtain ⟨Q, q1, q2⟩ := op_toldAfter hl G (om_xs om (i + 1))
  refine r_callSH (vs := [.ref 0, .int _, .ref 125]) (pc := 1549) 1 6 dL_law_1549 rfl l_RL_184 rfl ⟨by decide, by decide⟩ rfl (Nat.le_of_ble_eq_true rfl) hl hB.1 hB.2 (Nat.le_of_ble_eq_true rfl) (w_toldAfter hl (om_xs om (i + 1)) q1 hg hf ⟨Nat.le_refl _, Nat.le_refl _⟩) (fun E h1 z => by obtain ⟨c, x, k', w', z, -⟩ := z; cases z) (fun o h1 z hc => by obtain ⟨c, x, k', w', -, -, rfl, -, -⟩ := z; rw [EHp_2, hsf hf] at hc; cases hc) (fun o h1 z => ?_)
  obtain ⟨c, x, k', w', z, hc2, rfl, hq, hw⟩ := z
  cases z
  refine q_istore [_, _, _, _, _, _, _, _, _] (pc := 1552) dL_law_1552 (by decide) rfl ?_
  refine r_aload_n (pc := 1554) dL_law_1554 rfl rfl ?_
  refine r_aload_n (pc := 1555) dL_law_1555 rfl rfl ?_
  refine r_iload (pc := 1556) dL_law_1556 rfl ?_
  refine r_iconst (v := nI 1) (pc := 1558) dL_law_1558 (by decide) ?_
  refine r_iadd (pc := 1559) dL_law_1559 ?_
  refine r_taload (n := om_L om) (pc := 1560) dL_law_1560 law_a (vin_n (k := i + 1) (nadd rfl rfl) (by omega) (by omega)) ?_
  rw [cl_n (k := i + 1) (n := om_L om) (nadd (x := i) (y := 1) rfl rfl) (by omega) (by omega)]
  refine r_callV (vs := [.int _]) (pc := 1561) 0 0 (ci := 9) (T := TX11) (N := 11) dL_law_1561 rfl l_RL_186 rfl ⟨by decide, by decide⟩ rfl (Nat.le_of_ble_eq_true rfl) hl EHp_119 rfl (Nat.zero_le _) (Nat.zero_le _) (Nat.le_of_ble_eq_true rfl) (q2 c x k' hq _ _) (fun E h1 z => by obtain ⟨y, r', z, -⟩ := z; cases z) (fun o h1 z hc => by obtain ⟨y, r', -, rfl, -⟩ := z; rw [EHp_2, hsf hf] at hc; cases hc) (fun o h1 z => ?_)
  obtain ⟨y, r', z, rfl, G', h0', hxy⟩ := z
  cases z
  refine q_istore [_, _, _, _, _, _, _, _, _] (pc := 1564) dL_law_1564 (by decide) rfl ?_
  refine r_aload_n (pc := 1566) dL_law_1566 rfl rfl ?_
  refine q_callV (ci := 9) (T := TX11) (N := 11) (vs := []) (pc := 1567) dL_law_1567 rfl l_RL_109 rfl ⟨by decide, by decide⟩ rfl (Nat.le_of_ble_eq_true rfl) hl EHp_119 rfl (Nat.le_of_ble_eq_true rfl) s_thr rfl ?_
  rw [h0']
  refine r_iload (pc := 1570) dL_law_1570 rfl ?_
  refine r_icmp_eq 1577 (pc := 1572) dL_law_1572 (by decide) (fun _ => ?_) (fun z => absurd rfl z)
  refine r_iload (pc := 1577) dL_law_1577 rfl ?_
  refine r_if_ne 1594 (pc := 1579) dL_law_1579 (by decide) (fun _ => ?_) (fun hz => ?_)
  · refine r_goto 1849 (pc := 1594) dL_law_1594 (by decide) ?_
    refine r_wk [some _, some _, some _, some _, some _, none, none, none, none] ⟨rfl, rfl, rfl, rfl, rfl, trivial⟩ ?_
    exact KK _ ⟨Nat.le_refl _, Nat.le_refl _⟩ _ _ _ w' G' hs_same (hsf hf)
  · have c0 : c = 0 := nI_injL (b := 0) (by omega) (by omega) hz
    subst c0
    have exy : x = y := hxy rfl
    subst exy
    refine r_aload_n (pc := 1582) dL_law_1582 rfl rfl ?_
    refine r_iconst (v := 0) (pc := 1583) dL_law_1583 rfl ?_
    refine r_laload (n := 1) (f := w') (pc := 1584) dL_law_1584 ((EHp_out (by omega)).trans hs_same) (vin_n (k := 0) rfl (by decide) (by decide)) ?_
    rw [show Int32.toNatClampNeg 0 = 0 from by decide, hw rfl]
    refine r_iload (pc := 1585) dL_law_1585 rfl ?_
    refine r_i2l (pc := 1587) dL_law_1587 ?_
    refine r_lcmp (pc := 1588) dL_law_1588 ?_
    refine r_if_eq 1594 (pc := 1589) dL_law_1589 (by decide) (fun _ => ?_) (fun z => absurd (cmp_eq.mpr rfl) z)
    refine r_goto 1849 (pc := 1594) dL_law_1594 (by decide) ?_
    refine r_wk [some _, some _, some _, some _, some _, none, none, none, none] ⟨rfl, rfl, rfl, rfl, rfl, trivial⟩ ?_
    exact KK _ ⟨Nat.le_refl _, Nat.le_refl _⟩ _ _ _ w' G' hs_same (hsf hf)
theorem lc_worstError (hl : l.stackTraces = false) (i : Nat) (hi : i + 6 ≤ om_L om) (hL : om_L om ≤ 3072) (hB : 1 ≤ B.1 ∧ 6 ≤ B.2) (KK : LawK om l Post i B) (G : GAp k r) (hg : g.1 125 = LA w) (hf : g.2.2 = false) : Runs om l M_L_law B 1597 [some (.ref 100000), some (.ref 0), some (.ref 119), some (.ref 125), some (.int (nI i)), none, none, none, none] [] (EHp g k r) Post := by
  refine r_aload_n (pc := 1597) dL_law_1597 rfl rfl ?_
  refine r_aload_n (pc := 1598) dL_law_1598 rfl rfl ?_
  refine r_iload (pc := 1599) dL_law_1599 rfl ?_
  refine r_iconst (v := nI 1) (pc := 1601) dL_law_1601 (by decide) ?_
  refine r_iadd (pc := 1602) dL_law_1602 ?_
  refine r_taload (n := om_L om) (pc := 1603) dL_law_1603 law_a (vin_n (k := i + 1) (nadd rfl rfl) (by omega) (by omega)) ?_
  rw [cl_n (k := i + 1) (n := om_L om) (nadd (x := i) (y := 1) rfl rfl) (by omega) (by omega)]
  refine r_aload_n (pc := 1604) dL_law_1604 rfl rfl ?_
  obtain ⟨C, W, T, U, S, V, ns, cnt, ln, po, wd, t, nu⟩ := k
  obtain ⟨I, J, A, a, v, x0, n⟩ := r
  have ht : t = x0 := G.2.2.2.2
  subst ht
  obtain ⟨Q, q1, q2⟩ := op_worstError hl G (om_xs om (i + 1))
  refine r_callSH (vs := [.ref 0, .int _, .ref 125]) (pc := 1605) 1 6 dL_law_1605 rfl l_RL_187 rfl ⟨by decide, by decide⟩ rfl (Nat.le_of_ble_eq_true rfl) hl hB.1 hB.2 (Nat.le_of_ble_eq_true rfl) (w_worstError hl (om_xs om (i + 1)) q1 hg hf ⟨Nat.le_refl _, Nat.le_refl _⟩) (fun E h1 z => by obtain ⟨c, x, k', w', z, -⟩ := z; cases z) (fun o h1 z hc => by obtain ⟨c, x, k', w', -, -, rfl, -, -⟩ := z; rw [EHp_2, hsf hf] at hc; cases hc) (fun o h1 z => ?_)
  obtain ⟨c, x, k', w', z, hc2, rfl, hq, hw⟩ := z
  cases z
  refine q_istore [_, _, _, _, _, _, _, _, _] (pc := 1608) dL_law_1608 (by decide) rfl ?_
  refine r_aload_n (pc := 1610) dL_law_1610 rfl rfl ?_
  refine r_aload_n (pc := 1611) dL_law_1611 rfl rfl ?_
  refine r_iload (pc := 1612) dL_law_1612 rfl ?_
  refine r_iconst (v := nI 1) (pc := 1614) dL_law_1614 (by decide) ?_
  refine r_iadd (pc := 1615) dL_law_1615 ?_
  refine r_taload (n := om_L om) (pc := 1616) dL_law_1616 law_a (vin_n (k := i + 1) (nadd rfl rfl) (by omega) (by omega)) ?_
  rw [cl_n (k := i + 1) (n := om_L om) (nadd (x := i) (y := 1) rfl rfl) (by omega) (by omega)]
  refine r_callV (vs := [.int _]) (pc := 1617) 0 0 (ci := 9) (T := TX11) (N := 11) dL_law_1617 rfl l_RL_189 rfl ⟨by decide, by decide⟩ rfl (Nat.le_of_ble_eq_true rfl) hl EHp_119 rfl (Nat.zero_le _) (Nat.zero_le _) (Nat.le_of_ble_eq_true rfl) (q2 c x k' hq _ _) (fun E h1 z => by obtain ⟨y, r', z, -⟩ := z; cases z) (fun o h1 z hc => by obtain ⟨y, r', -, rfl, -⟩ := z; rw [EHp_2, hsf hf] at hc; cases hc) (fun o h1 z => ?_)
  obtain ⟨y, r', z, rfl, G', h0', hxy⟩ := z
  cases z
  refine q_istore [_, _, _, _, _, _, _, _, _] (pc := 1620) dL_law_1620 (by decide) rfl ?_
  refine r_aload_n (pc := 1622) dL_law_1622 rfl rfl ?_
  refine q_callV (ci := 9) (T := TX11) (N := 11) (vs := []) (pc := 1623) dL_law_1623 rfl l_RL_109 rfl ⟨by decide, by decide⟩ rfl (Nat.le_of_ble_eq_true rfl) hl EHp_119 rfl (Nat.le_of_ble_eq_true rfl) s_thr rfl ?_
  rw [h0']
  refine r_iload (pc := 1626) dL_law_1626 rfl ?_
  refine r_icmp_eq 1633 (pc := 1628) dL_law_1628 (by decide) (fun _ => ?_) (fun z => absurd rfl z)
  refine r_iload (pc := 1633) dL_law_1633 rfl ?_
  refine r_if_ne 1650 (pc := 1635) dL_law_1635 (by decide) (fun _ => ?_) (fun hz => ?_)
  · refine r_goto 1849 (pc := 1650) dL_law_1650 (by decide) ?_
    refine r_wk [some _, some _, some _, some _, some _, none, none, none, none] ⟨rfl, rfl, rfl, rfl, rfl, trivial⟩ ?_
    exact KK _ ⟨Nat.le_refl _, Nat.le_refl _⟩ _ _ _ w' G' hs_same (hsf hf)
  · have c0 : c = 0 := nI_injL (b := 0) (by omega) (by omega) hz
    subst c0
    have exy : x = y := hxy rfl
    subst exy
    refine r_aload_n (pc := 1638) dL_law_1638 rfl rfl ?_
    refine r_iconst (v := 0) (pc := 1639) dL_law_1639 rfl ?_
    refine r_laload (n := 1) (f := w') (pc := 1640) dL_law_1640 ((EHp_out (by omega)).trans hs_same) (vin_n (k := 0) rfl (by decide) (by decide)) ?_
    rw [show Int32.toNatClampNeg 0 = 0 from by decide, hw rfl]
    refine r_iload (pc := 1641) dL_law_1641 rfl ?_
    refine r_i2l (pc := 1643) dL_law_1643 ?_
    refine r_lcmp (pc := 1644) dL_law_1644 ?_
    refine r_if_eq 1650 (pc := 1645) dL_law_1645 (by decide) (fun _ => ?_) (fun z => absurd (cmp_eq.mpr rfl) z)
    refine r_goto 1849 (pc := 1650) dL_law_1650 (by decide) ?_
    refine r_wk [some _, some _, some _, some _, some _, none, none, none, none] ⟨rfl, rfl, rfl, rfl, rfl, trivial⟩ ?_
    exact KK _ ⟨Nat.le_refl _, Nat.le_refl _⟩ _ _ _ w' G' hs_same (hsf hf)
theorem lc_bestMode (hl : l.stackTraces = false) (i : Nat) (hi : i + 6 ≤ om_L om) (hL : om_L om ≤ 3072) (hB : 1 ≤ B.1 ∧ 6 ≤ B.2) (KK : LawK om l Post i B) (G : GAp k r) (hg : g.1 125 = LA w) (hf : g.2.2 = false) : Runs om l M_L_law B 1653 [some (.ref 100000), some (.ref 0), some (.ref 119), some (.ref 125), some (.int (nI i)), none, none, none, none] [] (EHp g k r) Post := by
  refine r_aload_n (pc := 1653) dL_law_1653 rfl rfl ?_
  refine r_aload_n (pc := 1654) dL_law_1654 rfl rfl ?_
  refine r_iload (pc := 1655) dL_law_1655 rfl ?_
  refine r_iconst (v := nI 1) (pc := 1657) dL_law_1657 (by decide) ?_
  refine r_iadd (pc := 1658) dL_law_1658 ?_
  refine r_taload (n := om_L om) (pc := 1659) dL_law_1659 law_a (vin_n (k := i + 1) (nadd rfl rfl) (by omega) (by omega)) ?_
  rw [cl_n (k := i + 1) (n := om_L om) (nadd (x := i) (y := 1) rfl rfl) (by omega) (by omega)]
  refine r_aload_n (pc := 1660) dL_law_1660 rfl rfl ?_
  obtain ⟨C, W, T, U, S, V, ns, cnt, ln, po, wd, t, nu⟩ := k
  obtain ⟨I, J, A, a, v, x0, n⟩ := r
  have ht : t = x0 := G.2.2.2.2
  subst ht
  obtain ⟨Q, q1, q2⟩ := op_bestMode hl G (om_xs om (i + 1))
  refine r_callSH (vs := [.ref 0, .int _, .ref 125]) (pc := 1661) 1 6 dL_law_1661 rfl l_RL_190 rfl ⟨by decide, by decide⟩ rfl (Nat.le_of_ble_eq_true rfl) hl hB.1 hB.2 (Nat.le_of_ble_eq_true rfl) (w_bestMode hl (om_xs om (i + 1)) q1 hg hf ⟨Nat.le_refl _, Nat.le_refl _⟩) (fun E h1 z => by obtain ⟨c, x, k', w', z, -⟩ := z; cases z) (fun o h1 z hc => by obtain ⟨c, x, k', w', -, -, rfl, -, -⟩ := z; rw [EHp_2, hsf hf] at hc; cases hc) (fun o h1 z => ?_)
  obtain ⟨c, x, k', w', z, hc2, rfl, hq, hw⟩ := z
  cases z
  refine q_istore [_, _, _, _, _, _, _, _, _] (pc := 1664) dL_law_1664 (by decide) rfl ?_
  refine r_aload_n (pc := 1666) dL_law_1666 rfl rfl ?_
  refine r_aload_n (pc := 1667) dL_law_1667 rfl rfl ?_
  refine r_iload (pc := 1668) dL_law_1668 rfl ?_
  refine r_iconst (v := nI 1) (pc := 1670) dL_law_1670 (by decide) ?_
  refine r_iadd (pc := 1671) dL_law_1671 ?_
  refine r_taload (n := om_L om) (pc := 1672) dL_law_1672 law_a (vin_n (k := i + 1) (nadd rfl rfl) (by omega) (by omega)) ?_
  rw [cl_n (k := i + 1) (n := om_L om) (nadd (x := i) (y := 1) rfl rfl) (by omega) (by omega)]
  refine r_callV (vs := [.int _]) (pc := 1673) 0 0 (ci := 9) (T := TX11) (N := 11) dL_law_1673 rfl l_RL_192 rfl ⟨by decide, by decide⟩ rfl (Nat.le_of_ble_eq_true rfl) hl EHp_119 rfl (Nat.zero_le _) (Nat.zero_le _) (Nat.le_of_ble_eq_true rfl) (q2 c x k' hq _ _) (fun E h1 z => by obtain ⟨y, r', z, -⟩ := z; cases z) (fun o h1 z hc => by obtain ⟨y, r', -, rfl, -⟩ := z; rw [EHp_2, hsf hf] at hc; cases hc) (fun o h1 z => ?_)
  obtain ⟨y, r', z, rfl, G', h0', hxy⟩ := z
  cases z
  refine q_istore [_, _, _, _, _, _, _, _, _] (pc := 1676) dL_law_1676 (by decide) rfl ?_
  refine r_aload_n (pc := 1678) dL_law_1678 rfl rfl ?_
  refine q_callV (ci := 9) (T := TX11) (N := 11) (vs := []) (pc := 1679) dL_law_1679 rfl l_RL_109 rfl ⟨by decide, by decide⟩ rfl (Nat.le_of_ble_eq_true rfl) hl EHp_119 rfl (Nat.le_of_ble_eq_true rfl) s_thr rfl ?_
  rw [h0']
  refine r_iload (pc := 1682) dL_law_1682 rfl ?_
  refine r_icmp_eq 1689 (pc := 1684) dL_law_1684 (by decide) (fun _ => ?_) (fun z => absurd rfl z)
  refine r_iload (pc := 1689) dL_law_1689 rfl ?_
  refine r_if_ne 1706 (pc := 1691) dL_law_1691 (by decide) (fun _ => ?_) (fun hz => ?_)
  · refine r_goto 1849 (pc := 1706) dL_law_1706 (by decide) ?_
    refine r_wk [some _, some _, some _, some _, some _, none, none, none, none] ⟨rfl, rfl, rfl, rfl, rfl, trivial⟩ ?_
    exact KK _ ⟨Nat.le_refl _, Nat.le_refl _⟩ _ _ _ w' G' hs_same (hsf hf)
  · have c0 : c = 0 := nI_injL (b := 0) (by omega) (by omega) hz
    subst c0
    have exy : x = y := hxy rfl
    subst exy
    refine r_aload_n (pc := 1694) dL_law_1694 rfl rfl ?_
    refine r_iconst (v := 0) (pc := 1695) dL_law_1695 rfl ?_
    refine r_laload (n := 1) (f := w') (pc := 1696) dL_law_1696 ((EHp_out (by omega)).trans hs_same) (vin_n (k := 0) rfl (by decide) (by decide)) ?_
    rw [show Int32.toNatClampNeg 0 = 0 from by decide, hw rfl]
    refine r_iload (pc := 1697) dL_law_1697 rfl ?_
    refine r_i2l (pc := 1699) dL_law_1699 ?_
    refine r_lcmp (pc := 1700) dL_law_1700 ?_
    refine r_if_eq 1706 (pc := 1701) dL_law_1701 (by decide) (fun _ => ?_) (fun z => absurd (cmp_eq.mpr rfl) z)
    refine r_goto 1849 (pc := 1706) dL_law_1706 (by decide) ?_
    refine r_wk [some _, some _, some _, some _, some _, none, none, none, none] ⟨rfl, rfl, rfl, rfl, rfl, trivial⟩ ?_
    exact KK _ ⟨Nat.le_refl _, Nat.le_refl _⟩ _ _ _ w' G' hs_same (hsf hf)
theorem lc_type (hl : l.stackTraces = false) (i : Nat) (hi : i + 6 ≤ om_L om) (hL : om_L om ≤ 3072) (hB : 1 ≤ B.1 ∧ 6 ≤ B.2) (KK : LawK om l Post i B) (G : GAp k r) (hg : g.1 125 = LA w) (hf : g.2.2 = false) : Runs om l M_L_law B 1709 [some (.ref 100000), some (.ref 0), some (.ref 119), some (.ref 125), some (.int (nI i)), none, none, none, none] [] (EHp g k r) Post := by
  refine r_aload_n (pc := 1709) dL_law_1709 rfl rfl ?_
  refine r_aload_n (pc := 1710) dL_law_1710 rfl rfl ?_
  refine r_iload (pc := 1711) dL_law_1711 rfl ?_
  refine r_iconst (v := nI 1) (pc := 1713) dL_law_1713 (by decide) ?_
  refine r_iadd (pc := 1714) dL_law_1714 ?_
  refine r_taload (n := om_L om) (pc := 1715) dL_law_1715 law_a (vin_n (k := i + 1) (nadd rfl rfl) (by omega) (by omega)) ?_
  rw [cl_n (k := i + 1) (n := om_L om) (nadd (x := i) (y := 1) rfl rfl) (by omega) (by omega)]
  refine r_aload_n (pc := 1716) dL_law_1716 rfl rfl ?_
  obtain ⟨C, W, T, U, S, V, ns, cnt, ln, po, wd, t, nu⟩ := k
  obtain ⟨I, J, A, a, v, x0, n⟩ := r
  have ht : t = x0 := G.2.2.2.2
  subst ht
  obtain ⟨Q, q1, q2⟩ := op_type hl G (om_xs om (i + 1))
  refine r_callSH (vs := [.ref 0, .int _, .ref 125]) (pc := 1717) 1 6 dL_law_1717 rfl l_RL_193 rfl ⟨by decide, by decide⟩ rfl (Nat.le_of_ble_eq_true rfl) hl hB.1 hB.2 (Nat.le_of_ble_eq_true rfl) (w_type hl (om_xs om (i + 1)) q1 hg hf ⟨Nat.le_refl _, Nat.le_refl _⟩) (fun E h1 z => by obtain ⟨c, x, k', w', z, -⟩ := z; cases z) (fun o h1 z hc => by obtain ⟨c, x, k', w', -, -, rfl, -, -⟩ := z; rw [EHp_2, hsf hf] at hc; cases hc) (fun o h1 z => ?_)
  obtain ⟨c, x, k', w', z, hc2, rfl, hq, hw⟩ := z
  cases z
  refine q_istore [_, _, _, _, _, _, _, _, _] (pc := 1720) dL_law_1720 (by decide) rfl ?_
  refine r_aload_n (pc := 1722) dL_law_1722 rfl rfl ?_
  refine r_aload_n (pc := 1723) dL_law_1723 rfl rfl ?_
  refine r_iload (pc := 1724) dL_law_1724 rfl ?_
  refine r_iconst (v := nI 1) (pc := 1726) dL_law_1726 (by decide) ?_
  refine r_iadd (pc := 1727) dL_law_1727 ?_
  refine r_taload (n := om_L om) (pc := 1728) dL_law_1728 law_a (vin_n (k := i + 1) (nadd rfl rfl) (by omega) (by omega)) ?_
  rw [cl_n (k := i + 1) (n := om_L om) (nadd (x := i) (y := 1) rfl rfl) (by omega) (by omega)]
  refine r_callV (vs := [.int _]) (pc := 1729) 0 0 (ci := 9) (T := TX11) (N := 11) dL_law_1729 rfl l_RL_195 rfl ⟨by decide, by decide⟩ rfl (Nat.le_of_ble_eq_true rfl) hl EHp_119 rfl (Nat.zero_le _) (Nat.zero_le _) (Nat.le_of_ble_eq_true rfl) (q2 c x k' hq _ _) (fun E h1 z => by obtain ⟨y, r', z, -⟩ := z; cases z) (fun o h1 z hc => by obtain ⟨y, r', -, rfl, -⟩ := z; rw [EHp_2, hsf hf] at hc; cases hc) (fun o h1 z => ?_)
  obtain ⟨y, r', z, rfl, G', h0', hxy⟩ := z
  cases z
  refine q_istore [_, _, _, _, _, _, _, _, _] (pc := 1732) dL_law_1732 (by decide) rfl ?_
  refine r_aload_n (pc := 1734) dL_law_1734 rfl rfl ?_
  refine q_callV (ci := 9) (T := TX11) (N := 11) (vs := []) (pc := 1735) dL_law_1735 rfl l_RL_109 rfl ⟨by decide, by decide⟩ rfl (Nat.le_of_ble_eq_true rfl) hl EHp_119 rfl (Nat.le_of_ble_eq_true rfl) s_thr rfl ?_
  rw [h0']
  refine r_iload (pc := 1738) dL_law_1738 rfl ?_
  refine r_icmp_eq 1745 (pc := 1740) dL_law_1740 (by decide) (fun _ => ?_) (fun z => absurd rfl z)
  refine r_iload (pc := 1745) dL_law_1745 rfl ?_
  refine r_if_ne 1762 (pc := 1747) dL_law_1747 (by decide) (fun _ => ?_) (fun hz => ?_)
  · refine r_goto 1849 (pc := 1762) dL_law_1762 (by decide) ?_
    refine r_wk [some _, some _, some _, some _, some _, none, none, none, none] ⟨rfl, rfl, rfl, rfl, rfl, trivial⟩ ?_
    exact KK _ ⟨Nat.le_refl _, Nat.le_refl _⟩ _ _ _ w' G' hs_same (hsf hf)
  · have c0 : c = 0 := nI_injL (b := 0) (by omega) (by omega) hz
    subst c0
    have exy : x = y := hxy rfl
    subst exy
    refine r_aload_n (pc := 1750) dL_law_1750 rfl rfl ?_
    refine r_iconst (v := 0) (pc := 1751) dL_law_1751 rfl ?_
    refine r_laload (n := 1) (f := w') (pc := 1752) dL_law_1752 ((EHp_out (by omega)).trans hs_same) (vin_n (k := 0) rfl (by decide) (by decide)) ?_
    rw [show Int32.toNatClampNeg 0 = 0 from by decide, hw rfl]
    refine r_iload (pc := 1753) dL_law_1753 rfl ?_
    refine r_i2l (pc := 1755) dL_law_1755 ?_
    refine r_lcmp (pc := 1756) dL_law_1756 ?_
    refine r_if_eq 1762 (pc := 1757) dL_law_1757 (by decide) (fun _ => ?_) (fun z => absurd (cmp_eq.mpr rfl) z)
    refine r_goto 1849 (pc := 1762) dL_law_1762 (by decide) ?_
    refine r_wk [some _, some _, some _, some _, some _, none, none, none, none] ⟨rfl, rfl, rfl, rfl, rfl, trivial⟩ ?_
    exact KK _ ⟨Nat.le_refl _, Nat.le_refl _⟩ _ _ _ w' G' hs_same (hsf hf)
theorem lc_undo (hl : l.stackTraces = false) (i : Nat) (hi : i + 6 ≤ om_L om) (hL : om_L om ≤ 3072) (hB : 1 ≤ B.1 ∧ 6 ≤ B.2) (KK : LawK om l Post i B) (G : GAp k r) (hg : g.1 125 = LA w) (hf : g.2.2 = false) : Runs om l M_L_law B 1791 [some (.ref 100000), some (.ref 0), some (.ref 119), some (.ref 125), some (.int (nI i)), none, none, none, none] [] (EHp g k r) Post := by
  refine r_aload_n (pc := 1791) dL_law_1791 rfl rfl ?_
  refine r_aload_n (pc := 1792) dL_law_1792 rfl rfl ?_
  obtain ⟨C, W, T, U, S, V, ns, cnt, ln, po, wd, t, nu⟩ := k
  obtain ⟨I, J, A, a, v, x0, n⟩ := r
  have ht : t = x0 := G.2.2.2.2
  subst ht
  obtain ⟨Q, q1, q2⟩ := op_undo hl G 
  refine r_callSH (vs := [.ref 0, .ref 125]) (pc := 1793) 1 6 dL_law_1793 rfl l_RL_204 rfl ⟨by decide, by decide⟩ rfl (Nat.le_of_ble_eq_true rfl) hl hB.1 hB.2 (Nat.le_of_ble_eq_true rfl) (w_undo hl  q1 hg hf ⟨Nat.le_refl _, Nat.le_refl _⟩) (fun E h1 z => by obtain ⟨c, x, k', w', z, -⟩ := z; cases z) (fun o h1 z hc => by obtain ⟨c, x, k', w', -, -, rfl, -, -⟩ := z; rw [EHp_2, hsf hf] at hc; cases hc) (fun o h1 z => ?_)
  obtain ⟨c, x, k', w', z, hc2, rfl, hq, hw⟩ := z
  cases z
  refine q_istore [_, _, _, _, _, _, _, _, _] (pc := 1796) dL_law_1796 (by decide) rfl ?_
  refine r_aload_n (pc := 1798) dL_law_1798 rfl rfl ?_
  refine r_callV (vs := []) (pc := 1799) 0 0 (ci := 9) (T := TX11) (N := 11) dL_law_1799 rfl l_RL_207 rfl ⟨by decide, by decide⟩ rfl (Nat.le_of_ble_eq_true rfl) hl EHp_119 rfl (Nat.zero_le _) (Nat.zero_le _) (Nat.le_of_ble_eq_true rfl) (q2 c x k' hq _ _) (fun E h1 z => by obtain ⟨y, r', z, -⟩ := z; cases z) (fun o h1 z hc => by obtain ⟨y, r', -, rfl, -⟩ := z; rw [EHp_2, hsf hf] at hc; cases hc) (fun o h1 z => ?_)
  obtain ⟨y, r', z, rfl, G', h0', hxy⟩ := z
  cases z
  refine q_istore [_, _, _, _, _, _, _, _, _] (pc := 1802) dL_law_1802 (by decide) rfl ?_
  refine r_aload_n (pc := 1804) dL_law_1804 rfl rfl ?_
  refine q_callV (ci := 9) (T := TX11) (N := 11) (vs := []) (pc := 1805) dL_law_1805 rfl l_RL_109 rfl ⟨by decide, by decide⟩ rfl (Nat.le_of_ble_eq_true rfl) hl EHp_119 rfl (Nat.le_of_ble_eq_true rfl) s_thr rfl ?_
  rw [h0']
  refine r_iload (pc := 1808) dL_law_1808 rfl ?_
  refine r_icmp_eq 1815 (pc := 1810) dL_law_1810 (by decide) (fun _ => ?_) (fun z => absurd rfl z)
  refine r_iload (pc := 1815) dL_law_1815 rfl ?_
  refine r_if_ne 1832 (pc := 1817) dL_law_1817 (by decide) (fun _ => ?_) (fun hz => ?_)
  · refine r_goto 1849 (pc := 1832) dL_law_1832 (by decide) ?_
    refine r_wk [some _, some _, some _, some _, some _, none, none, none, none] ⟨rfl, rfl, rfl, rfl, rfl, trivial⟩ ?_
    exact KK _ ⟨Nat.le_refl _, Nat.le_refl _⟩ _ _ _ w' G' hs_same (hsf hf)
  · have c0 : c = 0 := nI_injL (b := 0) (by omega) (by omega) hz
    subst c0
    have exy : x = y := hxy rfl
    subst exy
    refine r_aload_n (pc := 1820) dL_law_1820 rfl rfl ?_
    refine r_iconst (v := 0) (pc := 1821) dL_law_1821 rfl ?_
    refine r_laload (n := 1) (f := w') (pc := 1822) dL_law_1822 ((EHp_out (by omega)).trans hs_same) (vin_n (k := 0) rfl (by decide) (by decide)) ?_
    rw [show Int32.toNatClampNeg 0 = 0 from by decide, hw rfl]
    refine r_iload (pc := 1823) dL_law_1823 rfl ?_
    refine r_i2l (pc := 1825) dL_law_1825 ?_
    refine r_lcmp (pc := 1826) dL_law_1826 ?_
    refine r_if_eq 1832 (pc := 1827) dL_law_1827 (by decide) (fun _ => ?_) (fun z => absurd (cmp_eq.mpr rfl) z)
    refine r_goto 1849 (pc := 1832) dL_law_1832 (by decide) ?_
    refine r_wk [some _, some _, some _, some _, some _, none, none, none, none] ⟨rfl, rfl, rfl, rfl, rfl, trivial⟩ ?_
    exact KK _ ⟨Nat.le_refl _, Nat.le_refl _⟩ _ _ _ w' G' hs_same (hsf hf)
end LCS
