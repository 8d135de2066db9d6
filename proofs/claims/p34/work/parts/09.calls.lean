/-! the call rows, the throw, Math, what is constant, what is made -/
def MOK (z : MI) (n : Nat) : Prop := mi_cw z ∈ GW ∧ plainName (mi_nm z).cls = true ∧ ((mi_nm z).cls ≠ "java/lang/invoke/MethodHandle" ∧ (mi_nm z).cls ≠ "java/lang/invoke/VarHandle") ∧ (parseMethodDescriptor (mi_nm z).desc).map (fun d => d.parameters.length) = some n ∧ Cond.initialized (mi_nm z).cls ∈ GW
/-- an entry of a class' pool that calls z: of its own, virtual; static; a constructor; of a nest mate -/
def CLV (own : String) (idx : Nat) (z : MI) (n : Nat) : Prop := Cond.methodLink own idx (mi_nm z) ∈ GW ∧ Cond.instanceMethod (mi_nm z) ∈ GW ∧ Cond.selects (mi_nm z).cls (mi_nm z) (mi_nm z) ∈ GW ∧ MOK z n
def CLS (own : String) (idx : Nat) (z : MI) (n : Nat) : Prop := Cond.methodLink own idx (mi_nm z) ∈ GW ∧ Cond.static (mi_nm z) ∈ GW ∧ MOK z n
def CLI (own : String) (idx : Nat) (z : MI) (n : Nat) : Prop := Cond.methodLink own idx (mi_nm z) ∈ GW ∧ Cond.instanceMethod (mi_nm z) ∈ GW ∧ (mi_nm z).name = "<init>" ∧ MOK z n
def CNI (own : String) (idx : Nat) (host : String) (z : MI) (n : Nat) : Prop := Cond.methodLinkNest own idx (mi_nm z) host ∈ NW ∧ Cond.instanceMethod (mi_nm z) ∈ GW ∧ (mi_nm z).name = "<init>" ∧ MOK z n
def CNS (own : String) (idx : Nat) (host : String) (z : MI) (n : Nat) : Prop := Cond.methodLinkNest own idx (mi_nm z) host ∈ NW ∧ Cond.static (mi_nm z) ∈ GW ∧ MOK z n
/-- room of z within that of M -/
def fitsIn (z M : MI) : Prop := mi_fr z + 1 ≤ mi_fr M ∧ 8 + (mi_ml z + 11) + mi_lo z ≤ mi_lo M
theorem ws_good {z : MI} (h : mi_cw z ∈ GW) : GoodIn GW (WS z) := fun w hw => gw_good w (ws_gw h w hw)
theorem mapo {f : Value → Value} (o : Option Value) (S : List Value) : (o.map f).toList ++ S.map f = (o.toList ++ S).map f := by cases o <;> rfl
theorem mapc_cat {om : OM} : ∀ (S : List Value), ((S.map (cv om)).map fun v => v.category).sum = (S.map fun v => v.category).sum
  | [] => rfl
  | v :: S => by
    show (cv om v).category + ((S.map (cv om)).map fun v => v.category).sum = v.category + (S.map fun v => v.category).sum
    rw [cv_cat, mapc_cat S]
theorem sim_size {om : OM} {h : Hp} {s : State} {H : Heap} {locs : List Loc} {cells : Nat} (hS : Sim om h s H locs cells) (hz : om_z om ≤ s.heap.size) (hh : H.size ≤ s.heap.size + cells) (hc : h.2.2 = true) : H.size = om_z om + h.2.1 := by
  have h1 := hS.2.2 hc
  have h2 : om_z om + h.2.1 ≤ H.size := by
    by_cases h0 : h.2.1 = 0
    · rw [h0]
      exact Nat.le_trans hz hS.2.1.1
    · have h3 := (hS.1.1 (h.2.1 - 1) _ (wl_get (by omega))).lt
      have h4 : om_z om + (h.2.1 - 1) < H.size := h3
      omega
  omega
theorem am_pc {om : OM} {l : Launch} {M : MI} {p : Program} {R : Room} {s : State} {m : MethodId} {args : Array Value} {meth : Method} {c : Code} {h : Hp} {H : Heap} {locs : List Loc} {cells : Nat} (C : CtxOK om l M p R s m args meth c) (hS : Sim om h s H locs cells) (hh : H.size ≤ s.heap.size + cells) (vs : List Value) : ∀ U : State, U.heap = H → s.WarmedH U.vm → am_Pc om h vs ((vs.map (cv om)).toArray) U := by
  intro U hU hW
  have hz := C.2.2.2.2.2.2.2.2.2.2.2.2.2.1
  refine ⟨rfl, by rw [hU]; exact hS.1, fun hc => by rw [hU]; exact sim_size hS hz hh hc, va_K.moved hW.alike C.2.2.2.2.2.2.2.2.2.2.2.1, ?_, by rw [hU]; exact Nat.le_trans hz hS.2.1.1, KW.warm hW C.2.2.2.2.2.2.2.2.2.2.2.2.2.2.2⟩
  rw [hU]
  exact Stat.moved hW.alike (C.2.2.2.2.2.2.2.2.2.2.2.2.1.kept (fun a h1 h2 => hS.2.1.2.1 a h1 h2))
section CR
variable {om : OM} {l : Launch} {M : MI} {B : Nat × Nat} {pc : Nat} {L : List (Option Value)} {S : List Value} {h : Hp} {Post PostZ : Out → Hp → Prop}
/-- behind a call of what doesn't throw -/
theorem am_behind {mc ms : Nat} {p : Program} {e : Env} {R : Room} {s : State} {m : MethodId} {args : Array Value} {below : List Frame} {meth : Method} {c : Code} {H : Heap} {locs : List Loc} {cells slots : Nat} {Q : State → Prop} {ls : Array Slot} {st0 : List Value} {a : Array Value}
    (hr : vx_Run p l e R s m args below meth c H locs cells slots mc ms (F0 m pc ls st0) (S.map (cv om)) (am_Qc om PostZ a) (am_XC om PostZ) (AZ om))
    (hX : ∀ E h1, ¬ PostZ (.inr E) h1) (hS : Sim om h s H locs cells) (hcln : ∀ o h1, PostZ (.inl o) h1 → h1.2.2 = true → h.2.2 = true ∧ h1.2.1 = h.2.1 + mc)
    (kk : ∀ (o : Option Value) (h1 : Hp) (H1 : Heap) (locs1 : List Loc), PostZ (.inl o) h1 → Sim om h1 s H1 locs1 (cells + mc) → W p l e R s m args below meth c H1 locs1 (cells + mc) (slots + ms) Q (F0 m (pc + 3) ls ((o.toList ++ S).map (cv om)))) : W p l e R s m args below meth c H locs cells slots Q (F0 m pc ls st0) := by
  intro T hT X
  rcases hr T hT X with ⟨v, st₀, t, T', L9, h0, X', hL, e1, e2, ⟨v9, h1, hv, hp, hb, hF⟩, st⟩ | ⟨q, st₀, t, T', L9, E, ce, h0, X', hL, e1, e2, ⟨h1, hp, -⟩, -⟩
  · obtain ⟨k1, k2, k3⟩ := vx_keep (A0 := AZ om) h0 e1 hS.2.1 (fun q _ z => z) (fun q z => z) hL hF
    cases hv
    obtain ⟨t2, a1, b1⟩ := kk v9 h1 T'.heap (locs ++ L9) hp ⟨by rw [e1]; exact hb, k3, fun hc => by
      obtain ⟨c1, c2⟩ := hcln v9 h1 hp hc
      have c3 := hS.2.2 c1
      omega⟩ T' rfl X'
    refine ⟨t2, st t2 ?_, b1⟩
    rw [mapo]
    exact a1
  · exact absurd hp (hX E h1)
theorem r_callV {own : String} {idx n : Nat} {z : MI} {vs fs : List Value} {b ci : Nat} {T : u_T} {N : Nat} (mc ms : Nat) (d : decode (mi_by M) pc = .ok (.invokevirtual idx, 3)) (ho : (mi_nm M).cls = own) (hz : CLV own idx z n) (hh : mi_hh z = []) (hfit : fitsIn z M) (hlen : vs.length = n) (hal : (argL (.ref b :: vs)).length ≤ mi_ml z) (hl : l.stackTraces = false)
    (hb : h.1 b = .inr (ci, fs)) (hcl : vwCl[ci]? = some ((mi_nm z).cls, T, N)) (hmc : mc ≤ B.1) (hms : ms ≤ B.2) (hst : (S.map fun v => v.category).sum ≤ 8)
    (kz : Runs om l z (mc, ms) 0 (entL (mi_ml z) (.ref b :: vs)) [] h PostZ) (hX : ∀ E h1, ¬ PostZ (.inr E) h1) (hcln : ∀ o h1, PostZ (.inl o) h1 → h1.2.2 = true → h.2.2 = true ∧ h1.2.1 = h.2.1 + mc)
    (k : ∀ o h1, PostZ (.inl o) h1 → Runs om l M (B.1 - mc, B.2 - ms) (pc + 3) L (o.toList ++ S) h1 Post) : Runs om l M B pc L (vs.reverse ++ .ref b :: S) h Post := by
  intro p e R s m args below meth c H locs cells slots Q ls C hS hL hc hs KR KX
  subst ho
  obtain ⟨w1, w2, w3, w4, w5, w6, w7, w8⟩ := hz
  obtain ⟨hat, hca, hlt⟩ := sim_at hS.1 hb (nd_inr (vw_lt hcl))
  refine w_size (fun hsz => ?_)
  have hM := am_met (om := om) (mc := mc) (ms := ms) hl w5 hh hal kz
  have hcw : WS z = Cond.code (mi_nm z) (mi_by z) (mi_ml z) (mi_rt z) :: GW := by unfold WS mi_cw; rw [hh]
  have hts := C.2.2.2.2.1
  have hfr := C.2.2.2.2.2.2.2.2.2.1
  have hlo := C.2.2.2.2.2.2.2.2.2.2.1
  have hgi : GoodIn GW (wsV (mi_nm M).cls idx (mi_nm z).cls (mi_nm z) (WS z)) := by
    intro w hw
    unfold wsV at hw
    rcases List.mem_append.mp hw with hw | hw
    · refine gw_good w ?_
      simp only [List.mem_cons, List.not_mem_nil, or_false] at hw
      rcases hw with rfl | rfl | rfl | rfl <;> assumption
    · exact ws_good w4 w hw
  refine am_behind (om := om) (PostZ := PostZ) (mc := mc) (ms := ms) (a := (Value.ref (ca om b) :: vs.map (cv om)).toArray) (vx_runV (As := vs.map (cv om)) (C := (mi_nm z).cls) ⟨C.1, C.2.1, C.2.2.1, C.2.2.2.1, hts⟩ hM (cwV n hts hgi hcw rfl rfl ⟨rfl, w6.1, w6.2, w7⟩ ⟨Nat.le_trans hfit.1 hfr, Nat.le_trans hfit.2 hlo⟩)
    ⟨am_blind _ _ _, ?_, fun U hU hW => am_pc C hS hsz (.ref b :: vs) U hU hW⟩ rfl (by rw [List.length_map]; exact hlen) hL.1 ?_ (lv_room (by rw [mapc_cat]; exact hst)) d ⟨by omega, by omega⟩) hX hS hcln (fun o h1 H1 locs1 hp hS1 => ?_)
  · exact va_recv C.2.2.2.2.2.2.2.2.2.2.2.1 hS.1.1 hcl hat
  · show (vs.reverse ++ .ref b :: S).map (cv om) = (vs.map (cv om)).reverse ++ .ref (ca om b) :: S.map (cv om)
    rw [List.map_append, List.map_reverse]
    rfl
  · exact k o h1 hp p e R s m args below meth c H1 locs1 (cells + mc) (slots + ms) Q ls C hS1 hL (by show cells + mc + (B.1 - mc) ≤ R.cells; omega) (by show slots + ms + (B.2 - ms) ≤ R.slots; omega) KR KX
theorem r_callS {own : String} {idx n : Nat} {z : MI} {vs : List Value} (mc ms : Nat) (d : decode (mi_by M) pc = .ok (.invokestatic idx, 3)) (ho : (mi_nm M).cls = own) (hz : CLS own idx z n) (hh : mi_hh z = []) (hfit : fitsIn z M) (hlen : vs.length = n) (hal : (argL vs).length ≤ mi_ml z) (hl : l.stackTraces = false)
    (hmc : mc ≤ B.1) (hms : ms ≤ B.2) (hst : (S.map fun v => v.category).sum ≤ 8)
    (kz : Runs om l z (mc, ms) 0 (entL (mi_ml z) vs) [] h PostZ) (hX : ∀ E h1, ¬ PostZ (.inr E) h1) (hcln : ∀ o h1, PostZ (.inl o) h1 → h1.2.2 = true → h.2.2 = true ∧ h1.2.1 = h.2.1 + mc)
    (k : ∀ o h1, PostZ (.inl o) h1 → Runs om l M (B.1 - mc, B.2 - ms) (pc + 3) L (o.toList ++ S) h1 Post) : Runs om l M B pc L (vs.reverse ++ S) h Post := by
  intro p e R s m args below meth c H locs cells slots Q ls C hS hL hc hs KR KX
  subst ho
  obtain ⟨w1, w2, w4, w5, w6, w7, w8⟩ := hz
  refine w_size (fun hsz => ?_)
  have hM := am_met (om := om) (mc := mc) (ms := ms) hl w5 hh hal kz
  have hcw : WS z = Cond.code (mi_nm z) (mi_by z) (mi_ml z) (mi_rt z) :: GW := by unfold WS mi_cw; rw [hh]
  have hts := C.2.2.2.2.1
  have hfr := C.2.2.2.2.2.2.2.2.2.1
  have hlo := C.2.2.2.2.2.2.2.2.2.2.1
  refine am_behind (om := om) (PostZ := PostZ) (mc := mc) (ms := ms) (a := (vs.map (cv om)).toArray) (vx_runS (As := vs.map (cv om)) ⟨C.1, C.2.1, C.2.2.1, C.2.2.2.1, hts⟩ hM ⟨callB_of n hts (ws_good w4) hcw rfl rfl (hts _ w8) (hts _ w1) ⟨w6.1, w6.2, w7⟩ ⟨Nat.le_trans hfit.1 hfr, Nat.le_trans hfit.2 hlo⟩, hts _ w2⟩
    ⟨am_blind _ _ _, fun U hU hW => am_pc C hS hsz vs U hU hW⟩ rfl (by rw [List.length_map]; exact hlen) hL.1 ?_ (lv_room (by rw [mapc_cat]; exact hst)) d ⟨by omega, by omega⟩) hX hS hcln (fun o h1 H1 locs1 hp hS1 => ?_)
  · show (vs.reverse ++ S).map (cv om) = (vs.map (cv om)).reverse ++ S.map (cv om)
    rw [List.map_append, List.map_reverse]
  · exact k o h1 hp p e R s m args below meth c H1 locs1 (cells + mc) (slots + ms) Q ls C hS1 hL (by show cells + mc + (B.1 - mc) ≤ R.cells; omega) (by show slots + ms + (B.2 - ms) ≤ R.slots; omega) KR KX
theorem r_callSN {own host : String} {idx n : Nat} {z : MI} {vs : List Value} (mc ms : Nat) (d : decode (mi_by M) pc = .ok (.invokestatic idx, 3)) (ho : (mi_nm M).cls = own) (hz : CNS own idx host z n) (hh : mi_hh z = []) (hfit : fitsIn z M) (hlen : vs.length = n) (hal : (argL vs).length ≤ mi_ml z) (hl : l.stackTraces = false)
    (hmc : mc ≤ B.1) (hms : ms ≤ B.2) (hst : (S.map fun v => v.category).sum ≤ 8)
    (kz : Runs om l z (mc, ms) 0 (entL (mi_ml z) vs) [] h PostZ) (hX : ∀ E h1, ¬ PostZ (.inr E) h1) (hcln : ∀ o h1, PostZ (.inl o) h1 → h1.2.2 = true → h.2.2 = true ∧ h1.2.1 = h.2.1 + mc)
    (k : ∀ o h1, PostZ (.inl o) h1 → Runs om l M (B.1 - mc, B.2 - ms) (pc + 3) L (o.toList ++ S) h1 Post) : Runs om l M B pc L (vs.reverse ++ S) h Post := by
  intro p e R s m args below meth c H locs cells slots Q ls C hS hL hc hs KR KX
  subst ho
  obtain ⟨w1, w2, w4, w5, w6, w7, w8⟩ := hz
  refine w_size (fun hsz => ?_)
  have hM := am_met (om := om) (mc := mc) (ms := ms) hl w5 hh hal kz
  have hcw : WS z = Cond.code (mi_nm z) (mi_by z) (mi_ml z) (mi_rt z) :: GW := by unfold WS mi_cw; rw [hh]
  have hts := C.2.2.2.2.1
  have hfr := C.2.2.2.2.2.2.2.2.2.1
  have hlo := C.2.2.2.2.2.2.2.2.2.2.1
  refine am_behind (om := om) (PostZ := PostZ) (mc := mc) (ms := ms) (a := (vs.map (cv om)).toArray) (vx_runSN (host := host) (As := vs.map (cv om)) ⟨C.1, C.2.1, C.2.2.1, C.2.2.2.1, hts⟩ hM ⟨va_cnB n hts (ws_good w4) hcw rfl rfl (C.2.2.2.2.2.2.2.2.2.2.2.2.2.2.2.1 _ w1) (hts _ w8) ⟨w6.1, w6.2, w7⟩ ⟨Nat.le_trans hfit.1 hfr, Nat.le_trans hfit.2 hlo⟩, hts _ w2, trivial⟩
    ⟨am_blind _ _ _, fun U hU hW => am_pc C hS hsz vs U hU hW⟩ rfl (by rw [List.length_map]; exact hlen) hL.1 ?_ (lv_room (by rw [mapc_cat]; exact hst)) d ⟨by omega, by omega⟩) hX hS hcln (fun o h1 H1 locs1 hp hS1 => ?_)
  · show (vs.reverse ++ S).map (cv om) = (vs.map (cv om)).reverse ++ S.map (cv om)
    rw [List.map_append, List.map_reverse]
  · exact k o h1 hp p e R s m args below meth c H1 locs1 (cells + mc) (slots + ms) Q ls C hS1 hL (by show cells + mc + (B.1 - mc) ≤ R.cells; omega) (by show slots + ms + (B.2 - ms) ≤ R.slots; omega) KR KX
/-- of a method with handlers of its own -/
theorem r_callSH {own : String} {idx n : Nat} {z : MI} {vs : List Value} (mc ms : Nat) (d : decode (mi_by M) pc = .ok (.invokestatic idx, 3)) (ho : (mi_nm M).cls = own) (hz : CLS own idx z n) (hh : mi_cw z = .codeWith (mi_nm z) (mi_by z) (mi_ml z) (mi_rt z) (mi_hh z)) (hfit : fitsIn z M) (hlen : vs.length = n) (hal : (argL vs).length ≤ mi_ml z) (hl : l.stackTraces = false)
    (hmc : mc ≤ B.1) (hms : ms ≤ B.2) (hst : (S.map fun v => v.category).sum ≤ 8)
    (kz : Runs om l z (mc, ms) 0 (entL (mi_ml z) vs) [] h PostZ) (hX : ∀ E h1, ¬ PostZ (.inr E) h1) (hcln : ∀ o h1, PostZ (.inl o) h1 → h1.2.2 = true → h.2.2 = true ∧ h1.2.1 = h.2.1 + mc)
    (k : ∀ o h1, PostZ (.inl o) h1 → Runs om l M (B.1 - mc, B.2 - ms) (pc + 3) L (o.toList ++ S) h1 Post) : Runs om l M B pc L (vs.reverse ++ S) h Post := by
  intro p e R s m args below meth c H locs cells slots Q ls C hS hL hc hs KR KX
  subst ho
  obtain ⟨w1, w2, w4, w5, w6, w7, w8⟩ := hz
  refine w_size (fun hsz => ?_)
  have hM := am_metH (om := om) (mc := mc) (ms := ms) hl w5 hh hal kz
  have hcw : WS z = Cond.codeWith (mi_nm z) (mi_by z) (mi_ml z) (mi_rt z) (mi_hh z) :: GW := by unfold WS; rw [hh]
  have hts := C.2.2.2.2.1
  have hfr := C.2.2.2.2.2.2.2.2.2.1
  have hlo := C.2.2.2.2.2.2.2.2.2.2.1
  have hgi : GoodIn GW (va_wsS (mi_nm M).cls idx (mi_nm z) (WS z)) := by
    intro w hw
    unfold va_wsS at hw
    rcases List.mem_append.mp hw with hw | hw
    · refine gw_good w ?_
      simp only [List.mem_cons, List.not_mem_nil, or_false] at hw
      rcases hw with rfl | rfl | rfl <;> assumption
    · exact ws_good w4 w hw
  refine am_behind (om := om) (PostZ := PostZ) (mc := mc) (ms := ms) (a := (vs.map (cv om)).toArray) (vx_runSX (As := vs.map (cv om)) ⟨C.1, C.2.1, C.2.2.1, C.2.2.2.1, hts⟩ hM (vx_cwSW n hts hgi hcw rfl rfl ⟨w6.1, w6.2, w7⟩ ⟨Nat.le_trans hfit.1 hfr, Nat.le_trans hfit.2 hlo⟩)
    ⟨am_blind _ _ _, fun U hU hW => am_pc C hS hsz vs U hU hW⟩ rfl (by rw [List.length_map]; exact hlen) hL.1 ?_ (lv_room (by rw [mapc_cat]; exact hst)) d ⟨by omega, by omega⟩) hX hS hcln (fun o h1 H1 locs1 hp hS1 => ?_)
  · show (vs.reverse ++ S).map (cv om) = (vs.map (cv om)).reverse ++ S.map (cv om)
    rw [List.map_append, List.map_reverse]
  · exact k o h1 hp p e R s m args below meth c H1 locs1 (cells + mc) (slots + ms) Q ls C hS1 hL (by show cells + mc + (B.1 - mc) ≤ R.cells; omega) (by show slots + ms + (B.2 - ms) ≤ R.slots; omega) KR KX
theorem r_callI {own : String} {idx n : Nat} {z : MI} {vs : List Value} {b : Nat} (mc ms : Nat) (d : decode (mi_by M) pc = .ok (.invokespecial idx, 3)) (ho : (mi_nm M).cls = own) (hz : CLI own idx z n) (hh : mi_hh z = []) (hrt : mi_rt z = none) (hfit : fitsIn z M) (hlen : vs.length = n) (hal : (argL (.ref b :: vs)).length ≤ mi_ml z) (hl : l.stackTraces = false)
    (hmc : mc ≤ B.1) (hms : ms ≤ B.2) (hst : (S.map fun v => v.category).sum ≤ 8)
    (kz : Runs om l z (mc, ms) 0 (entL (mi_ml z) (.ref b :: vs)) [] h PostZ) (hX : ∀ E h1, ¬ PostZ (.inr E) h1) (hcln : ∀ o h1, PostZ (.inl o) h1 → h1.2.2 = true → h.2.2 = true ∧ h1.2.1 = h.2.1 + mc)
    (k : ∀ o h1, PostZ (.inl o) h1 → Runs om l M (B.1 - mc, B.2 - ms) (pc + 3) L (o.toList ++ S) h1 Post) : Runs om l M B pc L (vs.reverse ++ .ref b :: S) h Post := by
  intro p e R s m args below meth c H locs cells slots Q ls C hS hL hc hs KR KX
  subst ho
  obtain ⟨w1, w2, w3, w4, w5, w6, w7, w8⟩ := hz
  refine w_size (fun hsz => ?_)
  have hM := am_met (om := om) (mc := mc) (ms := ms) hl w5 hh hal kz
  have hcw : WS z = Cond.code (mi_nm z) (mi_by z) (mi_ml z) none :: GW := by unfold WS mi_cw; rw [hh, hrt]
  have hts := C.2.2.2.2.1
  have hfr := C.2.2.2.2.2.2.2.2.2.1
  have hlo := C.2.2.2.2.2.2.2.2.2.2.1
  refine am_behind (om := om) (PostZ := PostZ) (mc := mc) (ms := ms) (a := (Value.ref (ca om b) :: vs.map (cv om)).toArray) (vx_runI (As := vs.map (cv om)) ⟨C.1, C.2.1, C.2.2.1, C.2.2.2.1, hts⟩ hM (cwI n hts (ws_good w4) hcw rfl rfl (hts _ w8) (hts _ w1) (hts _ w2) w3 ⟨w6.1, w6.2, w7⟩ ⟨Nat.le_trans hfit.1 hfr, Nat.le_trans hfit.2 hlo⟩)
    ⟨am_blind _ _ _, fun U hU hW => am_pc C hS hsz (.ref b :: vs) U hU hW⟩ rfl (by rw [List.length_map]; exact hlen) hL.1 ?_ (lv_room (by rw [mapc_cat]; exact hst)) d ⟨by omega, by omega⟩) hX hS hcln (fun o h1 H1 locs1 hp hS1 => ?_)
  · show (vs.reverse ++ .ref b :: S).map (cv om) = (vs.map (cv om)).reverse ++ .ref (ca om b) :: S.map (cv om)
    rw [List.map_append, List.map_reverse]
    rfl
  · exact k o h1 hp p e R s m args below meth c H1 locs1 (cells + mc) (slots + ms) Q ls C hS1 hL (by show cells + mc + (B.1 - mc) ≤ R.cells; omega) (by show slots + ms + (B.2 - ms) ≤ R.slots; omega) KR KX
theorem r_callIN {own host : String} {idx n : Nat} {z : MI} {vs : List Value} {b : Nat} (mc ms : Nat) (d : decode (mi_by M) pc = .ok (.invokespecial idx, 3)) (ho : (mi_nm M).cls = own) (hz : CNI own idx host z n) (hh : mi_hh z = []) (hrt : mi_rt z = none) (hfit : fitsIn z M) (hlen : vs.length = n) (hal : (argL (.ref b :: vs)).length ≤ mi_ml z) (hl : l.stackTraces = false)
    (hmc : mc ≤ B.1) (hms : ms ≤ B.2) (hst : (S.map fun v => v.category).sum ≤ 8)
    (kz : Runs om l z (mc, ms) 0 (entL (mi_ml z) (.ref b :: vs)) [] h PostZ) (hX : ∀ E h1, ¬ PostZ (.inr E) h1) (hcln : ∀ o h1, PostZ (.inl o) h1 → h1.2.2 = true → h.2.2 = true ∧ h1.2.1 = h.2.1 + mc)
    (k : ∀ o h1, PostZ (.inl o) h1 → Runs om l M (B.1 - mc, B.2 - ms) (pc + 3) L (o.toList ++ S) h1 Post) : Runs om l M B pc L (vs.reverse ++ .ref b :: S) h Post := by
  intro p e R s m args below meth c H locs cells slots Q ls C hS hL hc hs KR KX
  subst ho
  obtain ⟨w1, w2, w3, w4, w5, w6, w7, w8⟩ := hz
  refine w_size (fun hsz => ?_)
  have hM := am_met (om := om) (mc := mc) (ms := ms) hl w5 hh hal kz
  have hcw : WS z = Cond.code (mi_nm z) (mi_by z) (mi_ml z) none :: GW := by unfold WS mi_cw; rw [hh, hrt]
  have hts := C.2.2.2.2.1
  have hfr := C.2.2.2.2.2.2.2.2.2.1
  have hlo := C.2.2.2.2.2.2.2.2.2.2.1
  refine am_behind (om := om) (PostZ := PostZ) (mc := mc) (ms := ms) (a := (Value.ref (ca om b) :: vs.map (cv om)).toArray) (vx_runIN (host := host) (As := vs.map (cv om)) ⟨C.1, C.2.1, C.2.2.1, C.2.2.2.1, hts⟩ hM ⟨va_cnB n hts (ws_good w4) hcw rfl rfl (C.2.2.2.2.2.2.2.2.2.2.2.2.2.2.2.1 _ w1) (hts _ w8) ⟨w6.1, w6.2, w7⟩ ⟨Nat.le_trans hfit.1 hfr, Nat.le_trans hfit.2 hlo⟩, w3, hts _ w2⟩
    ⟨am_blind _ _ _, fun U hU hW => am_pc C hS hsz (.ref b :: vs) U hU hW⟩ rfl (by rw [List.length_map]; exact hlen) hL.1 ?_ (lv_room (by rw [mapc_cat]; exact hst)) d ⟨by omega, by omega⟩) hX hS hcln (fun o h1 H1 locs1 hp hS1 => ?_)
  · show (vs.reverse ++ .ref b :: S).map (cv om) = (vs.map (cv om)).reverse ++ .ref (ca om b) :: S.map (cv om)
    rw [List.map_append, List.map_reverse]
    rfl
  · exact k o h1 hp p e R s m args below meth c H1 locs1 (cells + mc) (slots + ms) Q ls C hS1 hL (by show cells + mc + (B.1 - mc) ≤ R.cells; omega) (by show slots + ms + (B.2 - ms) ≤ R.slots; omega) KR KX
end CR
