
/-! carrying a command out -/
def R_do10 (A n : Nat → Int32) (w : Int64) : Int32 × (Nat → Int32) := (0, A)
def R_do9 (A n : Nat → Int32) (w : Int64) : Int32 × (Nat → Int32) := if lg_cmp w 10266203 = 0 then (if R_in (n 0) 1 500 = 0 then R_do10 A n w else (1, (R_shoots A (cl (n 0))).1)) else R_do10 A n w
def R_do8 (A n : Nat → Int32) (w : Int64) : Int32 × (Nat → Int32) := if lg_cmp w 6476936 = 0 then (if R_in (n 0) 1 50 = 0 then R_do9 A n w else (1, R_learns A (cl (n 0)))) else R_do9 A n w
def R_do7 (A n : Nat → Int32) (w : Int64) : Int32 × (Nat → Int32) := if lg_cmp w 14006 = 0 then (if R_cSet A (n 0) (n 1) = 0 then R_do8 A n w else (1, R_sets A (cl (n 0)) (n 1))) else R_do8 A n w
def R_do6 (A n : Nat → Int32) (w : Int64) : Int32 × (Nat → Int32) := if lg_cmp w 35097859 = 0 then (if R_cStir (n 0) (n 1) (n 2) (n 3) (n 4) = 0 then R_do7 A n w else (1, R_stirs A (n 0) (n 1) (n 2) (n 3) (n 4))) else R_do7 A n w
def R_do5 (A n : Nat → Int32) (w : Int64) : Int32 × (Nat → Int32) := if lg_cmp w 10793230 = 0 then (if R_cThing (n 0) (n 1) = 0 then R_do6 A n w else (if 6 ≤ A 4 then R_do6 A n w else (1, R_adds A (cl (A 4)) (n 0) (n 1)))) else R_do6 A n w
def R_do4 (A n : Nat → Int32) (w : Int64) : Int32 × (Nat → Int32) := if lg_cmp w 129073 = 0 then (if R_in (n 0) 0 500 = 0 then R_do5 A n w else (1, upd A 3 (n 0))) else R_do5 A n w
def R_do3 (A n : Nat → Int32) (w : Int64) : Int32 × (Nat → Int32) := if lg_cmp w 127274 = 0 then (if R_in (n 0) (-200) 200 = 0 then R_do4 A n w else (1, upd A 2 (n 0))) else R_do4 A n w
def R_do2 (A n : Nat → Int32) (w : Int64) : Int32 × (Nat → Int32) := if lg_cmp w 6491892 = 0 then (if R_in (n 0) 0 (A 0) = 0 then R_do3 A n w else (1, upd A 1 (n 0))) else R_do3 A n w
def R_do1 (A n : Nat → Int32) (w : Int64) : Int32 × (Nat → Int32) := if lg_cmp w 394778 = 0 then (if R_in (n 0) 500 10000 = 0 then R_do2 A n w else (1, R_begins A (n 0))) else R_do2 A n w
theorem cset_ex {A : Nat → Int32} {x d : Int32} (h : ¬ R_cSet A x d = 0) : ∃ k, x = nI k ∧ k ≤ 11 := by
  have h1 : R_in x 0 11 = 1 := (in01 _ _ _).resolve_left fun z => h (by rw [R_cSet, if_pos z])
  obtain ⟨k, hk, -, hk1⟩ := in_ex (a := 0) (b := 11) h1 rfl rfl (by omega) (by omega)
  exact ⟨k, hk, hk1⟩
theorem s_do10 {om : OM} {l : Launch} {B : Nat × Nat} {h0 : Hp} {I : Nat → Int32} {J : Nat → Int64} {A a v t n : Nat → Int32} (hl : l.stackTraces = false) : Runs om l M_X11_does B 315 [some (.ref 119), some (.int (n 0)), some (.int (n 1))] [] (rH h0 I J A a v t n) (Det (some (.int (R_do10 A n (J 8)).1)) (rH h0 I J ((R_do10 A n (J 8)).2) a v t n)) := by
  refine r_iconst (v := 0) (pc := 315) dX11_does_315 (by decide) ?_
  exact r_ireturn (S := []) (pc := 316) dX11_does_316 rfl rfl ⟨rfl, rfl⟩
theorem s_do9 {om : OM} {l : Launch} {B : Nat × Nat} {h0 : Hp} {I : Nat → Int32} {J : Nat → Int64} {A a v t n : Nat → Int32} (hl : l.stackTraces = false) (hw : WF A) : Runs om l M_X11_does B 288 [some (.ref 119), some (.int (n 0)), some (.int (n 1))] [] (rH h0 I J A a v t n) (Det (some (.int (R_do9 A n (J 8)).1)) (rH h0 I J ((R_do9 A n (J 8)).2) a v t n)) := by
  refine r_aload_n (pc := 288) dX11_does_288 rfl rfl ?_
  refine rs_get (pc := 289) dX11_does_289 rfl f_RX11_238 rfl ?_
  refine r_ldc2 (pc := 292) dX11_does_292 rfl k_RX11_230 ?_
  refine r_lcmp (pc := 295) dX11_does_295 ?_
  refine r_if_ne 315 (pc := 296) dX11_does_296 (by decide) (fun c296 => ?_) (fun c296 => ?_)
  · rw [R_do9]; (repeat (first | rw [if_pos (by assumption)] | rw [if_neg (by assumption)]))
    exact s_do10 hl
  · refine r_iload_n (pc := 299) dX11_does_299 rfl rfl ?_
    refine q_callS (vs := [.int _]) (pc := 300) dX11_does_300 rfl l_RX11_188 rfl ⟨by decide, by decide⟩ rfl (Nat.le_of_ble_eq_true rfl) hl (Nat.le_of_ble_eq_true rfl) (s_X11_canShoot hl _) rfl ?_
    refine r_if_eq 315 (pc := 303) dX11_does_303 (by decide) (fun c303 => ?_) (fun c303 => ?_)
    · rw [R_do9]; (repeat (first | rw [if_pos (by assumption)] | rw [if_neg (by assumption)]))
      exact s_do10 hl
    · obtain ⟨k, hk, -, hk9⟩ := in_ex (a := 1) (b := 500) ((in01 _ _ _).resolve_left c303) rfl rfl (by omega) (by omega)
      have hk1 : k ≤ 500 := by omega
      have hcl : cl (n 0) = k := cl_nI hk (by omega)
      refine r_aload_n (pc := 306) dX11_does_306 rfl rfl ?_
      refine r_iload_n (pc := 307) dX11_does_307 rfl rfl ?_
      refine rs_call (vs := [.int _]) (pc := 308) dX11_does_308 rfl l_RX11_191 rfl rfl ⟨by decide, by decide⟩ rfl (Nat.le_of_ble_eq_true rfl) hl (Nat.le_of_ble_eq_true rfl) (s_X11_shoots hl k _ hk hk1 hw) rfl ?_
      refine r_pop (pc := 311) dX11_does_311 rfl ?_
      refine r_goto 317 (pc := 312) dX11_does_312 (by decide) ?_
      refine r_iconst (v := 1) (pc := 317) dX11_does_317 (by decide) ?_
      exact r_ireturn (S := []) (pc := 318) dX11_does_318 rfl rfl ⟨by rw [R_do9]; (repeat (first | rw [if_pos (by assumption)] | rw [if_neg (by assumption)])), by rw [R_do9]; (repeat (first | rw [if_pos (by assumption)] | rw [if_neg (by assumption)])); (try rw [hcl])⟩
theorem s_do8 {om : OM} {l : Launch} {B : Nat × Nat} {h0 : Hp} {I : Nat → Int32} {J : Nat → Int64} {A a v t n : Nat → Int32} (hl : l.stackTraces = false) (hw : WF A) : Runs om l M_X11_does B 262 [some (.ref 119), some (.int (n 0)), some (.int (n 1))] [] (rH h0 I J A a v t n) (Det (some (.int (R_do8 A n (J 8)).1)) (rH h0 I J ((R_do8 A n (J 8)).2) a v t n)) := by
  refine r_aload_n (pc := 262) dX11_does_262 rfl rfl ?_
  refine rs_get (pc := 263) dX11_does_263 rfl f_RX11_238 rfl ?_
  refine r_ldc2 (pc := 266) dX11_does_266 rfl k_RX11_228 ?_
  refine r_lcmp (pc := 269) dX11_does_269 ?_
  refine r_if_ne 288 (pc := 270) dX11_does_270 (by decide) (fun c270 => ?_) (fun c270 => ?_)
  · rw [R_do8]; (repeat (first | rw [if_pos (by assumption)] | rw [if_neg (by assumption)]))
    exact s_do9 hl hw
  · refine r_iload_n (pc := 273) dX11_does_273 rfl rfl ?_
    refine q_callS (vs := [.int _]) (pc := 274) dX11_does_274 rfl l_RX11_175 rfl ⟨by decide, by decide⟩ rfl (Nat.le_of_ble_eq_true rfl) hl (Nat.le_of_ble_eq_true rfl) (s_X11_canLearn hl _) rfl ?_
    refine r_if_eq 288 (pc := 277) dX11_does_277 (by decide) (fun c277 => ?_) (fun c277 => ?_)
    · rw [R_do8]; (repeat (first | rw [if_pos (by assumption)] | rw [if_neg (by assumption)]))
      exact s_do9 hl hw
    · obtain ⟨k, hk, -, hk9⟩ := in_ex (a := 1) (b := 50) ((in01 _ _ _).resolve_left c277) rfl rfl (by omega) (by omega)
      have hk1 : k ≤ 500 := by omega
      have hcl : cl (n 0) = k := cl_nI hk (by omega)
      refine r_aload_n (pc := 280) dX11_does_280 rfl rfl ?_
      refine r_iload_n (pc := 281) dX11_does_281 rfl rfl ?_
      refine rs_call (vs := [.int _]) (pc := 282) dX11_does_282 rfl l_RX11_178 rfl rfl ⟨by decide, by decide⟩ rfl (Nat.le_of_ble_eq_true rfl) hl (Nat.le_of_ble_eq_true rfl) (s_X11_learns hl k _ hk hk1 hw) rfl ?_
      refine r_goto 317 (pc := 285) dX11_does_285 (by decide) ?_
      refine r_iconst (v := 1) (pc := 317) dX11_does_317 (by decide) ?_
      exact r_ireturn (S := []) (pc := 318) dX11_does_318 rfl rfl ⟨by rw [R_do8]; (repeat (first | rw [if_pos (by assumption)] | rw [if_neg (by assumption)])), by rw [R_do8]; (repeat (first | rw [if_pos (by assumption)] | rw [if_neg (by assumption)])); (try rw [hcl])⟩
theorem s_do7 {om : OM} {l : Launch} {B : Nat × Nat} {h0 : Hp} {I : Nat → Int32} {J : Nat → Int64} {A a v t n : Nat → Int32} (hl : l.stackTraces = false) (hw : WF A) : Runs om l M_X11_does B 233 [some (.ref 119), some (.int (n 0)), some (.int (n 1))] [] (rH h0 I J A a v t n) (Det (some (.int (R_do7 A n (J 8)).1)) (rH h0 I J ((R_do7 A n (J 8)).2) a v t n)) := by
  refine r_aload_n (pc := 233) dX11_does_233 rfl rfl ?_
  refine rs_get (pc := 234) dX11_does_234 rfl f_RX11_238 rfl ?_
  refine r_ldc2 (pc := 237) dX11_does_237 rfl k_RX11_234 ?_
  refine r_lcmp (pc := 240) dX11_does_240 ?_
  refine r_if_ne 262 (pc := 241) dX11_does_241 (by decide) (fun c241 => ?_) (fun c241 => ?_)
  · rw [R_do7]; (repeat (first | rw [if_pos (by assumption)] | rw [if_neg (by assumption)]))
    exact s_do8 hl hw
  · refine r_aload_n (pc := 244) dX11_does_244 rfl rfl ?_
    refine r_iload_n (pc := 245) dX11_does_245 rfl rfl ?_
    refine r_iload_n (pc := 246) dX11_does_246 rfl rfl ?_
    refine rs_call (vs := [.int _, .int _]) (pc := 247) dX11_does_247 rfl l_RX11_169 rfl rfl ⟨by decide, by decide⟩ rfl (Nat.le_of_ble_eq_true rfl) hl (Nat.le_of_ble_eq_true rfl) (s_X11_canSet hl _ _) rfl ?_
    refine r_if_eq 262 (pc := 250) dX11_does_250 (by decide) (fun c250 => ?_) (fun c250 => ?_)
    · rw [R_do7]; (repeat (first | rw [if_pos (by assumption)] | rw [if_neg (by assumption)]))
      exact s_do8 hl hw
    · obtain ⟨k, hk, hk1⟩ := cset_ex c250
      have hcl : cl (n 0) = k := cl_nI hk (by omega)
      refine r_aload_n (pc := 253) dX11_does_253 rfl rfl ?_
      refine r_iload_n (pc := 254) dX11_does_254 rfl rfl ?_
      refine r_iload_n (pc := 255) dX11_does_255 rfl rfl ?_
      refine rs_call (vs := [.int _, .int _]) (pc := 256) dX11_does_256 rfl l_RX11_172 rfl rfl ⟨by decide, by decide⟩ rfl (Nat.le_of_ble_eq_true rfl) hl (Nat.le_of_ble_eq_true rfl) (s_X11_sets k _ _ hk hk1) rfl ?_
      refine r_goto 317 (pc := 259) dX11_does_259 (by decide) ?_
      refine r_iconst (v := 1) (pc := 317) dX11_does_317 (by decide) ?_
      exact r_ireturn (S := []) (pc := 318) dX11_does_318 rfl rfl ⟨by rw [R_do7]; (repeat (first | rw [if_pos (by assumption)] | rw [if_neg (by assumption)])), by rw [R_do7]; (repeat (first | rw [if_pos (by assumption)] | rw [if_neg (by assumption)])); (try rw [hcl])⟩
theorem s_do6 {om : OM} {l : Launch} {B : Nat × Nat} {h0 : Hp} {I : Nat → Int32} {J : Nat → Int64} {A a v t n : Nat → Int32} (hl : l.stackTraces = false) (hw : WF A) : Runs om l M_X11_does B 168 [some (.ref 119), some (.int (n 0)), some (.int (n 1))] [] (rH h0 I J A a v t n) (Det (some (.int (R_do6 A n (J 8)).1)) (rH h0 I J ((R_do6 A n (J 8)).2) a v t n)) := by
  refine r_aload_n (pc := 168) dX11_does_168 rfl rfl ?_
  refine rs_get (pc := 169) dX11_does_169 rfl f_RX11_238 rfl ?_
  refine r_ldc2 (pc := 172) dX11_does_172 rfl k_RX11_236 ?_
  refine r_lcmp (pc := 175) dX11_does_175 ?_
  refine r_if_ne 233 (pc := 176) dX11_does_176 (by decide) (fun c176 => ?_) (fun c176 => ?_)
  · rw [R_do6]; (repeat (first | rw [if_pos (by assumption)] | rw [if_neg (by assumption)]))
    exact s_do7 hl hw
  · refine r_aload_n (pc := 179) dX11_does_179 rfl rfl ?_
    refine r_iload_n (pc := 180) dX11_does_180 rfl rfl ?_
    refine r_iload_n (pc := 181) dX11_does_181 rfl rfl ?_
    refine r_aload_n (pc := 182) dX11_does_182 rfl rfl ?_
    refine rs_get (pc := 183) dX11_does_183 rfl f_RX11_23 rfl ?_
    refine r_iconst (v := 2) (pc := 186) dX11_does_186 (by decide) ?_
    refine rs_ldn (2) (pc := 187) dX11_does_187 rfl (by omega) ?_
    refine r_aload_n (pc := 188) dX11_does_188 rfl rfl ?_
    refine rs_get (pc := 189) dX11_does_189 rfl f_RX11_23 rfl ?_
    refine r_iconst (v := 3) (pc := 192) dX11_does_192 (by decide) ?_
    refine rs_ldn (3) (pc := 193) dX11_does_193 rfl (by omega) ?_
    refine r_aload_n (pc := 194) dX11_does_194 rfl rfl ?_
    refine rs_get (pc := 195) dX11_does_195 rfl f_RX11_23 rfl ?_
    refine r_iconst (v := 4) (pc := 198) dX11_does_198 (by decide) ?_
    refine rs_ldn (4) (pc := 199) dX11_does_199 rfl (by omega) ?_
    refine rs_call (vs := [.int _, .int _, .int _, .int _, .int _]) (pc := 200) dX11_does_200 rfl l_RX11_155 rfl rfl ⟨by decide, by decide⟩ rfl (Nat.le_of_ble_eq_true rfl) hl (Nat.le_of_ble_eq_true rfl) (s_X11_canStir hl _ _ _ _ _) rfl ?_
    refine r_if_eq 233 (pc := 203) dX11_does_203 (by decide) (fun c203 => ?_) (fun c203 => ?_)
    · rw [R_do6]; (repeat (first | rw [if_pos (by assumption)] | rw [if_neg (by assumption)]))
      exact s_do7 hl hw
    · refine r_aload_n (pc := 206) dX11_does_206 rfl rfl ?_
      refine r_iload_n (pc := 207) dX11_does_207 rfl rfl ?_
      refine r_iload_n (pc := 208) dX11_does_208 rfl rfl ?_
      refine r_aload_n (pc := 209) dX11_does_209 rfl rfl ?_
      refine rs_get (pc := 210) dX11_does_210 rfl f_RX11_23 rfl ?_
      refine r_iconst (v := 2) (pc := 213) dX11_does_213 (by decide) ?_
      refine rs_ldn (2) (pc := 214) dX11_does_214 rfl (by omega) ?_
      refine r_aload_n (pc := 215) dX11_does_215 rfl rfl ?_
      refine rs_get (pc := 216) dX11_does_216 rfl f_RX11_23 rfl ?_
      refine r_iconst (v := 3) (pc := 219) dX11_does_219 (by decide) ?_
      refine rs_ldn (3) (pc := 220) dX11_does_220 rfl (by omega) ?_
      refine r_aload_n (pc := 221) dX11_does_221 rfl rfl ?_
      refine rs_get (pc := 222) dX11_does_222 rfl f_RX11_23 rfl ?_
      refine r_iconst (v := 4) (pc := 225) dX11_does_225 (by decide) ?_
      refine rs_ldn (4) (pc := 226) dX11_does_226 rfl (by omega) ?_
      refine rs_call (vs := [.int _, .int _, .int _, .int _, .int _]) (pc := 227) dX11_does_227 rfl l_RX11_159 rfl rfl ⟨by decide, by decide⟩ rfl (Nat.le_of_ble_eq_true rfl) hl (Nat.le_of_ble_eq_true rfl) (s_X11_stirs _ _ _ _ _) rfl ?_
      refine r_goto 317 (pc := 230) dX11_does_230 (by decide) ?_
      refine r_iconst (v := 1) (pc := 317) dX11_does_317 (by decide) ?_
      exact r_ireturn (S := []) (pc := 318) dX11_does_318 rfl rfl ⟨by rw [R_do6]; (repeat (first | rw [if_pos (by assumption)] | rw [if_neg (by assumption)])), by rw [R_do6]; (repeat (first | rw [if_pos (by assumption)] | rw [if_neg (by assumption)]))⟩
theorem s_do5 {om : OM} {l : Launch} {B : Nat × Nat} {h0 : Hp} {I : Nat → Int32} {J : Nat → Int64} {A a v t n : Nat → Int32} (hl : l.stackTraces = false) (hw : WF A) : Runs om l M_X11_does B 128 [some (.ref 119), some (.int (n 0)), some (.int (n 1))] [] (rH h0 I J A a v t n) (Det (some (.int (R_do5 A n (J 8)).1)) (rH h0 I J ((R_do5 A n (J 8)).2) a v t n)) := by
  obtain ⟨K4, h4, hK4⟩ := hw.K4
  refine r_aload_n (pc := 128) dX11_does_128 rfl rfl ?_
  refine rs_get (pc := 129) dX11_does_129 rfl f_RX11_238 rfl ?_
  refine r_ldc2 (pc := 132) dX11_does_132 rfl k_RX11_232 ?_
  refine r_lcmp (pc := 135) dX11_does_135 ?_
  refine r_if_ne 168 (pc := 136) dX11_does_136 (by decide) (fun c136 => ?_) (fun c136 => ?_)
  · rw [R_do5]; (repeat (first | rw [if_pos (by assumption)] | rw [if_neg (by assumption)]))
    exact s_do6 hl hw
  · refine r_aload_n (pc := 139) dX11_does_139 rfl rfl ?_
    refine r_iload_n (pc := 140) dX11_does_140 rfl rfl ?_
    refine r_iload_n (pc := 141) dX11_does_141 rfl rfl ?_
    refine rs_call (vs := [.int _, .int _]) (pc := 142) dX11_does_142 rfl l_RX11_145 rfl rfl ⟨by decide, by decide⟩ rfl (Nat.le_of_ble_eq_true rfl) hl (Nat.le_of_ble_eq_true rfl) (s_X11_canThing hl _ _) rfl ?_
    refine r_if_eq 168 (pc := 145) dX11_does_145 (by decide) (fun c145 => ?_) (fun c145 => ?_)
    · rw [R_do5]; (repeat (first | rw [if_pos (by assumption)] | rw [if_neg (by assumption)]))
      exact s_do6 hl hw
    · refine r_aload_n (pc := 148) dX11_does_148 rfl rfl ?_
      refine rs_get (pc := 149) dX11_does_149 rfl f_RX11_7 rfl ?_
      refine r_iconst (v := 4) (pc := 152) dX11_does_152 (by decide) ?_
      refine rs_ld (4) (pc := 153) dX11_does_153 rfl (by omega) ?_
      refine r_bipush (v := 6) (pc := 154) dX11_does_154 (by decide) ?_
      refine r_icmp_ge 168 (pc := 156) dX11_does_156 (by decide) (fun c156 => ?_) (fun c156 => ?_)
      · rw [R_do5]; (repeat (first | rw [if_pos (by assumption)] | rw [if_neg (by assumption)]))
        exact s_do6 hl hw
      · have hk4 : K4 < 6 := by have h9 : ¬ (6 ≤ K4) := fun z => c156 (c_get h4 (show (6 : Int32) = nI 6 from rfl) (by omega) (by omega) z); omega
        refine r_aload_n (pc := 159) dX11_does_159 rfl rfl ?_
        refine r_iload_n (pc := 160) dX11_does_160 rfl rfl ?_
        refine r_iload_n (pc := 161) dX11_does_161 rfl rfl ?_
        refine rs_call (vs := [.int _, .int _]) (pc := 162) dX11_does_162 rfl l_RX11_148 rfl rfl ⟨by decide, by decide⟩ rfl (Nat.le_of_ble_eq_true rfl) hl (Nat.le_of_ble_eq_true rfl) (s_X11_adds K4 h4 hk4 _ _) rfl ?_
        refine r_goto 317 (pc := 165) dX11_does_165 (by decide) ?_
        refine r_iconst (v := 1) (pc := 317) dX11_does_317 (by decide) ?_
        exact r_ireturn (S := []) (pc := 318) dX11_does_318 rfl rfl ⟨by rw [R_do5]; (repeat (first | rw [if_pos (by assumption)] | rw [if_neg (by assumption)])), by rw [R_do5]; (repeat (first | rw [if_pos (by assumption)] | rw [if_neg (by assumption)])); (try rw [cl_nI h4 (by omega)])⟩
theorem s_do4 {om : OM} {l : Launch} {B : Nat × Nat} {h0 : Hp} {I : Nat → Int32} {J : Nat → Int64} {A a v t n : Nat → Int32} (hl : l.stackTraces = false) (hw : WF A) : Runs om l M_X11_does B 99 [some (.ref 119), some (.int (n 0)), some (.int (n 1))] [] (rH h0 I J A a v t n) (Det (some (.int (R_do4 A n (J 8)).1)) (rH h0 I J ((R_do4 A n (J 8)).2) a v t n)) := by
  refine r_aload_n (pc := 99) dX11_does_99 rfl rfl ?_
  refine rs_get (pc := 100) dX11_does_100 rfl f_RX11_238 rfl ?_
  refine r_ldc2 (pc := 103) dX11_does_103 rfl k_RX11_226 ?_
  refine r_lcmp (pc := 106) dX11_does_106 ?_
  refine r_if_ne 128 (pc := 107) dX11_does_107 (by decide) (fun c107 => ?_) (fun c107 => ?_)
  · rw [R_do4]; (repeat (first | rw [if_pos (by assumption)] | rw [if_neg (by assumption)]))
    exact s_do5 hl hw
  · refine r_aload_n (pc := 110) dX11_does_110 rfl rfl ?_
    refine r_iload_n (pc := 111) dX11_does_111 rfl rfl ?_
    refine rs_call (vs := [.int _]) (pc := 112) dX11_does_112 rfl l_RX11_142 rfl rfl ⟨by decide, by decide⟩ rfl (Nat.le_of_ble_eq_true rfl) hl (Nat.le_of_ble_eq_true rfl) (s_X11_canFoam hl _) rfl ?_
    refine r_if_eq 128 (pc := 115) dX11_does_115 (by decide) (fun c115 => ?_) (fun c115 => ?_)
    · rw [R_do4]; (repeat (first | rw [if_pos (by assumption)] | rw [if_neg (by assumption)]))
      exact s_do5 hl hw
    · refine r_aload_n (pc := 118) dX11_does_118 rfl rfl ?_
      refine rs_get (pc := 119) dX11_does_119 rfl f_RX11_7 rfl ?_
      refine r_iconst (v := 3) (pc := 122) dX11_does_122 (by decide) ?_
      refine r_iload_n (pc := 123) dX11_does_123 rfl rfl ?_
      refine rs_st (3) (pc := 124) dX11_does_124 rfl (by omega) ?_
      refine r_goto 317 (pc := 125) dX11_does_125 (by decide) ?_
      refine r_iconst (v := 1) (pc := 317) dX11_does_317 (by decide) ?_
      exact r_ireturn (S := []) (pc := 318) dX11_does_318 rfl rfl ⟨by rw [R_do4]; (repeat (first | rw [if_pos (by assumption)] | rw [if_neg (by assumption)])), by rw [R_do4]; (repeat (first | rw [if_pos (by assumption)] | rw [if_neg (by assumption)]))⟩
theorem s_do3 {om : OM} {l : Launch} {B : Nat × Nat} {h0 : Hp} {I : Nat → Int32} {J : Nat → Int64} {A a v t n : Nat → Int32} (hl : l.stackTraces = false) (hw : WF A) : Runs om l M_X11_does B 70 [some (.ref 119), some (.int (n 0)), some (.int (n 1))] [] (rH h0 I J A a v t n) (Det (some (.int (R_do3 A n (J 8)).1)) (rH h0 I J ((R_do3 A n (J 8)).2) a v t n)) := by
  refine r_aload_n (pc := 70) dX11_does_70 rfl rfl ?_
  refine rs_get (pc := 71) dX11_does_71 rfl f_RX11_238 rfl ?_
  refine r_ldc2 (pc := 74) dX11_does_74 rfl k_RX11_224 ?_
  refine r_lcmp (pc := 77) dX11_does_77 ?_
  refine r_if_ne 99 (pc := 78) dX11_does_78 (by decide) (fun c78 => ?_) (fun c78 => ?_)
  · rw [R_do3]; (repeat (first | rw [if_pos (by assumption)] | rw [if_neg (by assumption)]))
    exact s_do4 hl hw
  · refine r_aload_n (pc := 81) dX11_does_81 rfl rfl ?_
    refine r_iload_n (pc := 82) dX11_does_82 rfl rfl ?_
    refine rs_call (vs := [.int _]) (pc := 83) dX11_does_83 rfl l_RX11_139 rfl rfl ⟨by decide, by decide⟩ rfl (Nat.le_of_ble_eq_true rfl) hl (Nat.le_of_ble_eq_true rfl) (s_X11_canFlow hl _) rfl ?_
    refine r_if_eq 99 (pc := 86) dX11_does_86 (by decide) (fun c86 => ?_) (fun c86 => ?_)
    · rw [R_do3]; (repeat (first | rw [if_pos (by assumption)] | rw [if_neg (by assumption)]))
      exact s_do4 hl hw
    · refine r_aload_n (pc := 89) dX11_does_89 rfl rfl ?_
      refine rs_get (pc := 90) dX11_does_90 rfl f_RX11_7 rfl ?_
      refine r_iconst (v := 2) (pc := 93) dX11_does_93 (by decide) ?_
      refine r_iload_n (pc := 94) dX11_does_94 rfl rfl ?_
      refine rs_st (2) (pc := 95) dX11_does_95 rfl (by omega) ?_
      refine r_goto 317 (pc := 96) dX11_does_96 (by decide) ?_
      refine r_iconst (v := 1) (pc := 317) dX11_does_317 (by decide) ?_
      exact r_ireturn (S := []) (pc := 318) dX11_does_318 rfl rfl ⟨by rw [R_do3]; (repeat (first | rw [if_pos (by assumption)] | rw [if_neg (by assumption)])), by rw [R_do3]; (repeat (first | rw [if_pos (by assumption)] | rw [if_neg (by assumption)]))⟩
theorem s_do2 {om : OM} {l : Launch} {B : Nat × Nat} {h0 : Hp} {I : Nat → Int32} {J : Nat → Int64} {A a v t n : Nat → Int32} (hl : l.stackTraces = false) (hw : WF A) : Runs om l M_X11_does B 41 [some (.ref 119), some (.int (n 0)), some (.int (n 1))] [] (rH h0 I J A a v t n) (Det (some (.int (R_do2 A n (J 8)).1)) (rH h0 I J ((R_do2 A n (J 8)).2) a v t n)) := by
  refine r_aload_n (pc := 41) dX11_does_41 rfl rfl ?_
  refine rs_get (pc := 42) dX11_does_42 rfl f_RX11_238 rfl ?_
  refine r_ldc2 (pc := 45) dX11_does_45 rfl k_RX11_222 ?_
  refine r_lcmp (pc := 48) dX11_does_48 ?_
  refine r_if_ne 70 (pc := 49) dX11_does_49 (by decide) (fun c49 => ?_) (fun c49 => ?_)
  · rw [R_do2]; (repeat (first | rw [if_pos (by assumption)] | rw [if_neg (by assumption)]))
    exact s_do3 hl hw
  · refine r_aload_n (pc := 52) dX11_does_52 rfl rfl ?_
    refine r_iload_n (pc := 53) dX11_does_53 rfl rfl ?_
    refine rs_call (vs := [.int _]) (pc := 54) dX11_does_54 rfl l_RX11_133 rfl rfl ⟨by decide, by decide⟩ rfl (Nat.le_of_ble_eq_true rfl) hl (Nat.le_of_ble_eq_true rfl) (s_X11_canLevel hl _) rfl ?_
    refine r_if_eq 70 (pc := 57) dX11_does_57 (by decide) (fun c57 => ?_) (fun c57 => ?_)
    · rw [R_do2]; (repeat (first | rw [if_pos (by assumption)] | rw [if_neg (by assumption)]))
      exact s_do3 hl hw
    · refine r_aload_n (pc := 60) dX11_does_60 rfl rfl ?_
      refine rs_get (pc := 61) dX11_does_61 rfl f_RX11_7 rfl ?_
      refine r_iconst (v := 1) (pc := 64) dX11_does_64 (by decide) ?_
      refine r_iload_n (pc := 65) dX11_does_65 rfl rfl ?_
      refine rs_st (1) (pc := 66) dX11_does_66 rfl (by omega) ?_
      refine r_goto 317 (pc := 67) dX11_does_67 (by decide) ?_
      refine r_iconst (v := 1) (pc := 317) dX11_does_317 (by decide) ?_
      exact r_ireturn (S := []) (pc := 318) dX11_does_318 rfl rfl ⟨by rw [R_do2]; (repeat (first | rw [if_pos (by assumption)] | rw [if_neg (by assumption)])), by rw [R_do2]; (repeat (first | rw [if_pos (by assumption)] | rw [if_neg (by assumption)]))⟩
theorem s_do1 {om : OM} {l : Launch} {B : Nat × Nat} {h0 : Hp} {I : Nat → Int32} {J : Nat → Int64} {A a v t n : Nat → Int32} (hl : l.stackTraces = false) (hw : WF A) : Runs om l M_X11_does B 14 [some (.ref 119), some (.int (n 0)), some (.int (n 1))] [] (rH h0 I J A a v t n) (Det (some (.int (R_do1 A n (J 8)).1)) (rH h0 I J ((R_do1 A n (J 8)).2) a v t n)) := by
  refine r_aload_n (pc := 14) dX11_does_14 rfl rfl ?_
  refine rs_get (pc := 15) dX11_does_15 rfl f_RX11_238 rfl ?_
  refine r_ldc2 (pc := 18) dX11_does_18 rfl k_RX11_220 ?_
  refine r_lcmp (pc := 21) dX11_does_21 ?_
  refine r_if_ne 41 (pc := 22) dX11_does_22 (by decide) (fun c22 => ?_) (fun c22 => ?_)
  · rw [R_do1]; (repeat (first | rw [if_pos (by assumption)] | rw [if_neg (by assumption)]))
    exact s_do2 hl hw
  · refine r_aload_n (pc := 25) dX11_does_25 rfl rfl ?_
    refine r_iload_n (pc := 26) dX11_does_26 rfl rfl ?_
    refine rs_call (vs := [.int _]) (pc := 27) dX11_does_27 rfl l_RX11_127 rfl rfl ⟨by decide, by decide⟩ rfl (Nat.le_of_ble_eq_true rfl) hl (Nat.le_of_ble_eq_true rfl) (s_X11_canBegin hl _) rfl ?_
    refine r_if_eq 41 (pc := 30) dX11_does_30 (by decide) (fun c30 => ?_) (fun c30 => ?_)
    · rw [R_do1]; (repeat (first | rw [if_pos (by assumption)] | rw [if_neg (by assumption)]))
      exact s_do2 hl hw
    · refine r_aload_n (pc := 33) dX11_does_33 rfl rfl ?_
      refine r_iload_n (pc := 34) dX11_does_34 rfl rfl ?_
      refine rs_call (vs := [.int _]) (pc := 35) dX11_does_35 rfl l_RX11_26 rfl rfl ⟨by decide, by decide⟩ rfl (Nat.le_of_ble_eq_true rfl) hl (Nat.le_of_ble_eq_true rfl) (s_X11_begins _) rfl ?_
      refine r_goto 317 (pc := 38) dX11_does_38 (by decide) ?_
      refine r_iconst (v := 1) (pc := 317) dX11_does_317 (by decide) ?_
      exact r_ireturn (S := []) (pc := 318) dX11_does_318 rfl rfl ⟨by rw [R_do1]; (repeat (first | rw [if_pos (by assumption)] | rw [if_neg (by assumption)])), by rw [R_do1]; (repeat (first | rw [if_pos (by assumption)] | rw [if_neg (by assumption)]))⟩
theorem s_X11_does {om : OM} {l : Launch} {B : Nat × Nat} {h0 : Hp} {I : Nat → Int32} {J : Nat → Int64} {A a v t n : Nat → Int32} (hl : l.stackTraces = false) (hw : WF A) : Runs om l M_X11_does B 0 (entL 3 [.ref 119]) [] (rH h0 I J A a v t n) (Det (some (.int (R_do1 A n (J 8)).1)) (rH h0 I J ((R_do1 A n (J 8)).2) a v t n)) := by
  show Runs om l M_X11_does B 0 [some (.ref 119), none, none] [] _ _
  refine r_aload_n (pc := 0) dX11_does_0 rfl rfl ?_
  refine rs_get (pc := 1) dX11_does_1 rfl f_RX11_23 rfl ?_
  refine r_iconst (v := 0) (pc := 4) dX11_does_4 (by decide) ?_
  refine rs_ldn (0) (pc := 5) dX11_does_5 rfl (by omega) ?_
  refine q_istore_n [_, _, _] (pc := 6) dX11_does_6 rfl (by decide) rfl ?_
  refine r_aload_n (pc := 7) dX11_does_7 rfl rfl ?_
  refine rs_get (pc := 8) dX11_does_8 rfl f_RX11_23 rfl ?_
  refine r_iconst (v := 1) (pc := 11) dX11_does_11 (by decide) ?_
  refine rs_ldn (1) (pc := 12) dX11_does_12 rfl (by omega) ?_
  refine q_istore_n [_, _, _] (pc := 13) dX11_does_13 rfl (by decide) rfl ?_
  exact s_do1 hl hw
