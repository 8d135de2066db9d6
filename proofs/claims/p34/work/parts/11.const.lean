/-! what is constant; what is made -/
section KR
variable {om : OM} {l : Launch} {M : MI} {B : Nat × Nat} {pc : Nat} {L : List (Option Value)} {S : List Value} {h : Hp} {Post PostZ : Out → Hp → Prop}
theorem r_getstatic {own : String} {idx : Nat} {C0 n0 d0 : String} {v : Value} (d : decode (mi_by M) pc = .ok (.getstatic idx, 3)) (ho : (mi_nm M).cls = own) (hq : (C0, n0, d0, v) ∈ sz_l) (hlk : Cond.fieldLink own idx C0 n0 d0 ∈ GW) (k : Runs om l M B (pc + 3) L (v :: S) h Post) : Runs om l M B pc L S h Post := by
  intro p e R s m args below meth c H locs cells slots Q ls C hS hL hc hs KR KX
  subst ho
  have hts := C.2.2.2.2.1
  have hst := C.2.2.2.2.2.2.2.2.2.2.2.2.1
  exact va_gets C.1 C.2.1 (hst.1 _ hq) hS.2.1 C.2.2.2.1 (hts _ hlk) (fun _ h9 => h9) d (k p e R s m args below meth c H locs cells slots Q ls C hS hL hc hs KR KX)
theorem r_taload {t n : Nat} {f : Nat → Value} {i : Int32} (d : decode (mi_by M) pc = .ok (.iaload, 1)) (hq : (FieldType.int, t, n, f) ∈ sa_l om) (hin : vp_in i n) (k : Runs om l M B (pc + 1) L (f i.toNatClampNeg :: S) h Post) : Runs om l M B pc L (.int i :: .ref t :: S) h Post := by
  intro p e R s m args below meth c H locs cells slots Q ls C hS hL hc hs KR KX
  have hst := C.2.2.2.2.2.2.2.2.2.2.2.2.1
  exact va_ti C.1 C.2.1 (hst.2.1 _ hq) hS.2.1 hin rfl d (k p e R s m args below meth c H locs cells slots Q ls C hS hL hc hs KR KX)
theorem r_tbaload {t n : Nat} {f : Nat → Value} {i : Int32} (d : decode (mi_by M) pc = .ok (.baload, 1)) (hq : (FieldType.byte, t, n, f) ∈ sa_l om) (hin : vp_in i n) (k : Runs om l M B (pc + 1) L (f i.toNatClampNeg :: S) h Post) : Runs om l M B pc L (.int i :: .ref t :: S) h Post := by
  intro p e R s m args below meth c H locs cells slots Q ls C hS hL hc hs KR KX
  have hst := C.2.2.2.2.2.2.2.2.2.2.2.2.1
  exact va_tb C.1 C.2.1 (hst.2.1 _ hq) hS.2.1 hin rfl d (k p e R s m args below meth c H locs cells slots Q ls C hS hL hc hs KR KX)
theorem r_taaload {t n : Nat} {C0 : String} {f : Nat → Value} {i : Int32} (d : decode (mi_by M) pc = .ok (.aaload, 1)) (hq : (FieldType.object C0, t, n, f) ∈ sa_l om) (hin : vp_in i n) (k : Runs om l M B (pc + 1) L (f i.toNatClampNeg :: S) h Post) : Runs om l M B pc L (.int i :: .ref t :: S) h Post := by
  intro p e R s m args below meth c H locs cells slots Q ls C hS hL hc hs KR KX
  have hst := C.2.2.2.2.2.2.2.2.2.2.2.2.1
  exact vb_tq C.1 C.2.1 (hst.2.1 _ hq) hS.2.1 hin rfl d (k p e R s m args below meth c H locs cells slots Q ls C hS hL hc hs KR KX)
theorem r_talen {t n : Nat} {ty : FieldType} {f : Nat → Value} {v : Int32} (d : decode (mi_by M) pc = .ok (.arraylength, 1)) (hq : (ty, t, n, f) ∈ sa_l om) (hv : Int32.ofNat n = v) (k : Runs om l M B (pc + 1) L (.int v :: S) h Post) : Runs om l M B pc L (.ref t :: S) h Post := by
  intro p e R s m args below meth c H locs cells slots Q ls C hS hL hc hs KR KX
  have hst := C.2.2.2.2.2.2.2.2.2.2.2.2.1
  exact va_tlen C.1 C.2.1 (hst.2.1 _ hq) hS.2.1 hv d (k p e R s m args below meth c H locs cells slots Q ls C hS hL hc hs KR KX)
theorem r_getfieldC {own : String} {idx t : Nat} {o0 n0 d0 : String} {v : Value} (d : decode (mi_by M) pc = .ok (.getfield idx, 3)) (ho : (mi_nm M).cls = own) (hq : (o0, n0, d0, v, t) ∈ sf_l) (hlk : Cond.fieldLink own idx o0 n0 d0 ∈ GW) (k : Runs om l M B (pc + 3) L (v :: S) h Post) : Runs om l M B pc L (.ref t :: S) h Post := by
  intro p e R s m args below meth c H locs cells slots Q ls C hS hL hc hs KR KX
  subst ho
  have hts := C.2.2.2.2.1
  have hst := C.2.2.2.2.2.2.2.2.2.2.2.2.1
  exact vk_getf C.1 C.2.1 (hst.2.2.2.1 _ hq) hS.2.1 C.2.2.2.1 (hts _ hlk) (fun _ h9 => h9) d (k p e R s m args below meth c H locs cells slots Q ls C hS hL hc hs KR KX)
theorem so_recv {p : Program} {R : Room} {s : State} {m : MethodId} {args : Array Value} {meth : Method} {c : Code} {H : Heap} {locs : List Loc} {cells : Nat} (C : CtxOK om l M p R s m args meth c) (hS : Sim om h s H locs cells) {E : String} {t : Nat} (hq : (E, t) ∈ so_l) : ∃ cell : Cell, H[ca om t]? = some cell ∧ cell.vm.isStatics = false ∧ s.vm.findClass E = some cell.cls := by
  obtain ⟨cell, h1, h2, h3, -⟩ := (C.2.2.2.2.2.2.2.2.2.2.2.2.1.2.2.1 _ hq).kept hS.2.1.2.1
  exact ⟨cell, h1, h2, h3⟩
/-- a call of a method of an object that is constant -/
theorem r_callVC {own : String} {idx n : Nat} {z : MI} {vs : List Value} {b : Nat} (d : decode (mi_by M) pc = .ok (.invokevirtual idx, 3)) (ho : (mi_nm M).cls = own) (hz : CLV own idx z n) (hh : mi_hh z = []) (hfit : fitsIn z M) (hlen : vs.length = n) (hal : (argL (.ref b :: vs)).length ≤ mi_ml z) (hl : l.stackTraces = false)
    (hb : ((mi_nm z).cls, b) ∈ so_l) (hst : (S.map fun v => v.category).sum ≤ 8)
    (kz : Runs om l z (0, 0) 0 (entL (mi_ml z) (.ref b :: vs)) [] h PostZ) (hX : ∀ E h1, ¬ PostZ (.inr E) h1) (hcln : ∀ o h1, PostZ (.inl o) h1 → h1.2.2 = true → h.2.2 = true ∧ h1.2.1 = h.2.1 + 0)
    (k : ∀ o h1, PostZ (.inl o) h1 → Runs om l M B (pc + 3) L (o.toList ++ S) h1 Post) : Runs om l M B pc L (vs.reverse ++ .ref b :: S) h Post := by
  intro p e R s m args below meth c H locs cells slots Q ls C hS hL hc hs KR KX
  subst ho
  obtain ⟨w1, w2, w3, w4, w5, w6, w7, w8⟩ := hz
  refine w_size (fun hsz => ?_)
  have hM := am_met (om := om) (mc := 0) (ms := 0) hl w5 hh hal kz
  have hcw : WS z = Cond.code (mi_nm z) (mi_by z) (mi_ml z) (mi_rt z) :: GW := by unfold WS mi_cw; rw [hh]
  have hts := C.2.2.2.2.1
  have hfr := C.2.2.2.2.2.2.2.2.2.1
  have hlo := C.2.2.2.2.2.2.2.2.2.2.1
  have hgi : GoodIn GW (wsV (mi_nm M).cls idx (mi_nm z).cls (mi_nm z) (WS z)) := by
    intro w hw
    unfold wsV at hw
    rcases List.mem_append.mp hw with hw | hw
    · refine gw_good w ?_
      simp only [List.mem_cons, List.not_mem_nil, or_false] at hw
      rcases hw with rfl | rfl | rfl | rfl <;> assumption
    · exact ws_good w4 w hw
  refine am_behind (om := om) (PostZ := PostZ) (mc := 0) (ms := 0) (a := (Value.ref (ca om b) :: vs.map (cv om)).toArray) (vx_runV (As := vs.map (cv om)) (C := (mi_nm z).cls) ⟨C.1, C.2.1, C.2.2.1, C.2.2.2.1, hts⟩ hM (cwV n hts hgi hcw rfl rfl ⟨rfl, w6.1, w6.2, w7⟩ ⟨Nat.le_trans hfit.1 hfr, Nat.le_trans hfit.2 hlo⟩)
    ⟨am_blind _ _ _, so_recv C hS hb, fun U hU hW => am_pc C hS hsz (.ref b :: vs) U hU hW⟩ rfl (by rw [List.length_map]; exact hlen) hL.1 ?_ (lv_room (by rw [mapc_cat]; exact hst)) d ⟨by omega, by omega⟩) hX hS hcln (fun o h1 H1 locs1 hp hS1 => ?_)
  · show (vs.reverse ++ .ref b :: S).map (cv om) = (vs.map (cv om)).reverse ++ .ref (ca om b) :: S.map (cv om)
    rw [List.map_append, List.map_reverse]
    rfl
  · exact k o h1 hp p e R s m args below meth c H1 locs1 (cells + 0) (slots + 0) Q ls C hS1 hL hc hs KR KX
/-- of a method of a class above -/
theorem r_callUC {own C0 owner : String} {idx n : Nat} {x : MethodName} {z : MI} {vs : List Value} {b : Nat} (d : decode (mi_by M) pc = .ok (.invokevirtual idx, 3)) (ho : (mi_nm M).cls = own) (w1 : Cond.methodLink own idx x ∈ GW) (w1b : Cond.sameMethod x.cls owner x.name x.desc ∈ GW) (w2 : Cond.instanceMethod (mi_nm z) ∈ GW) (w3 : Cond.selects C0 x (mi_nm z) ∈ GW) (hyx : mi_nm z = ⟨owner, x.name, x.desc⟩) (hon : owner ≠ "java/lang/invoke/MethodHandle" ∧ owner ≠ "java/lang/invoke/VarHandle" ∧ (parseMethodDescriptor x.desc).map (fun d => d.parameters.length) = some n) (hz : MOK z n) (hh : mi_hh z = []) (hfit : fitsIn z M) (hlen : vs.length = n) (hal : (argL (.ref b :: vs)).length ≤ mi_ml z) (hl : l.stackTraces = false)
    (hb : (C0, b) ∈ so_l) (hst : (S.map fun v => v.category).sum ≤ 8)
    (kz : Runs om l z (0, 0) 0 (entL (mi_ml z) (.ref b :: vs)) [] h PostZ) (hX : ∀ E h1, ¬ PostZ (.inr E) h1) (hcln : ∀ o h1, PostZ (.inl o) h1 → h1.2.2 = true → h.2.2 = true ∧ h1.2.1 = h.2.1 + 0)
    (k : ∀ o h1, PostZ (.inl o) h1 → Runs om l M B (pc + 3) L (o.toList ++ S) h1 Post) : Runs om l M B pc L (vs.reverse ++ .ref b :: S) h Post := by
  intro p e R s m args below meth c H locs cells slots Q ls C hS hL hc hs KR KX
  subst ho
  obtain ⟨w4, w5, w6, w7, w8⟩ := hz
  refine w_size (fun hsz => ?_)
  have hM := am_met (om := om) (mc := 0) (ms := 0) hl w5 hh hal kz
  have hcw : WS z = Cond.code (mi_nm z) (mi_by z) (mi_ml z) (mi_rt z) :: GW := by unfold WS mi_cw; rw [hh]
  have hts := C.2.2.2.2.1
  have hfr := C.2.2.2.2.2.2.2.2.2.1
  have hlo := C.2.2.2.2.2.2.2.2.2.2.1
  have hgi : GoodIn GW (va_wsU (mi_nm M).cls idx C0 owner x (mi_nm z) (WS z)) := by
    intro w hw
    unfold va_wsU at hw
    rcases List.mem_append.mp hw with hw | hw
    · refine gw_good w ?_
      simp only [List.mem_cons, List.not_mem_nil, or_false] at hw
      rcases hw with rfl | rfl | rfl | rfl | rfl <;> assumption
    · exact ws_good w4 w hw
  refine am_behind (om := om) (PostZ := PostZ) (mc := 0) (ms := 0) (a := (Value.ref (ca om b) :: vs.map (cv om)).toArray) (vx_runU (As := vs.map (cv om)) (C := C0) (owner := owner) (x := x) ⟨C.1, C.2.1, C.2.2.1, C.2.2.2.1, hts⟩ hM (va_cwU n hts hgi hcw rfl rfl hyx hon ⟨Nat.le_trans hfit.1 hfr, Nat.le_trans hfit.2 hlo⟩)
    ⟨am_blind _ _ _, so_recv C hS hb, fun U hU hW => am_pc C hS hsz (.ref b :: vs) U hU hW⟩ rfl (by rw [List.length_map]; exact hlen) hL.1 ?_ (lv_room (by rw [mapc_cat]; exact hst)) d ⟨by omega, by omega⟩) hX hS hcln (fun o h1 H1 locs1 hp hS1 => ?_)
  · show (vs.reverse ++ .ref b :: S).map (cv om) = (vs.map (cv om)).reverse ++ .ref (ca om b) :: S.map (cv om)
    rw [List.map_append, List.map_reverse]
    rfl
  · exact k o h1 hp p e R s m args below meth c H1 locs1 (cells + 0) (slots + 0) Q ls C hS1 hL hc hs KR KX
/-! what is made: only while nothing else was made -/
theorem sim_push {s : State} {H1 : Heap} {cells q : Nat} {e : va_E} (hP : va_P (om_D om) vwCl (wl om h ++ [(q, ce om e)]) H1) (hD : va_D (AZ om) (wl om h ++ [(q, ce om e)])) (hh : H1.size ≤ s.heap.size + (cells + 1)) (hc : s.heap.size + cells = om_z om + h.2.1) (hw : ∀ k, h.2.1 ≤ k → h.1 k = dead) (hn : h.2.1 < 100000) : q = om_z om + h.2.1 ∧ SimT om (hpush h e) H1 := by
  have hq : (wl om h ++ [(q, ce om e)])[h.2.1]? = some (q, ce om e) := by
    rw [List.getElem?_append_right (by rw [wl_len]; exact Nat.le_refl _), wl_len, Nat.sub_self]
    rfl
  have h1 : q < H1.size := (hP _ _ hq).lt
  have h2 : om_z om ≤ q := hD.2 _ _ hq
  have h3 : q = om_z om + h.2.1 := by
    by_cases h4 : q - om_z om < h.2.1
    · have h5 : (wl om h ++ [(q, ce om e)])[q - om_z om]? = some (om_z om + (q - om_z om), ce om (h.1 (q - om_z om))) := by
        rw [List.getElem?_append_left (by rw [wl_len]; exact h4)]
        exact wl_get h4
      have h6 := hD.1 _ _ _ _ h5 hq (by show om_z om + (q - om_z om) = q; omega)
      omega
    · omega
  refine ⟨h3, ?_, fun j hj => ?_, by show h.2.1 + 1 ≤ 100000; omega⟩
  · rw [← wl_push, ← h3]
    exact hP
  · have hj' : h.2.1 + 1 ≤ j := hj
    show (if j = h.2.1 then e else h.1 j) = dead
    rw [if_neg (by omega)]
    exact hw j (by omega)
theorem r_new {own C0 : String} {idx ci N : Nat} {T : u_T} {ty0 : Nat → FieldType} {fs : List Value} (d : decode (mi_by M) pc = .ok (.new idx, 3)) (ho : (mi_nm M).cls = own) (hC : CLF ci C0 T N ty0) (w1 : Cond.classLink own idx C0 ∈ GW) (w2 : Cond.instantiable C0 N ∈ GW) (w3 : Cond.initialized C0 ∈ GW) (hfs : ∀ j, j < N → defaultValue (ty0 j) = vp_V fs j) (hcv : ∀ w0 : OM, fs.map (cv w0) = fs) (hcl : h.2.2 = true) (hn : h.2.1 < 100000) (hB : 1 ≤ B.1 ∧ N ≤ B.2) (k : Runs om l M (B.1 - 1, B.2 - N) (pc + 3) L (.ref h.2.1 :: S) (hpush h (.inr (ci, fs))) Post) : Runs om l M B pc L S h Post := by
  intro p e R s m args below meth c H locs cells slots Q ls C hS hL hc hs KR KX
  subst ho
  have hts := C.2.2.2.2.1
  have hz := C.2.2.2.2.2.2.2.2.2.2.2.2.2.1
  have hA : ∀ q, s.heap.size ≤ q → AZ om q := fun q h9 => Nat.le_trans hz h9
  refine va_new (D := om_D om) (fs := fs) C.1 C.2.1 hts hC.2.1 ty0 hC.2.2.1 C.2.2.2.1 (hts _ w1) (hts _ w2) (hts _ w3) C.2.2.2.2.2.2.2.2.2.2.2.1 hS.1.1 wl_D hS.2.1 hA hC.1 hfs (by omega) (by omega) d (fun q H1 hP1 hD1 hS1 => ?_)
  refine w_size (fun hsz => ?_)
  have he : ce om (.inr (ci, fs)) = .inr (ci, fs) := by show Sum.inr (ci, fs.map (cv om)) = _; rw [hcv]
  rw [← he] at hP1 hD1
  obtain ⟨hq, hS2⟩ := sim_push (h := h) (om := om) (s := s) hP1 hD1 hsz (hS.2.2 hcl) hS.1.2.1 hn
  subst hq
  have hr : (Value.ref (om_z om + h.2.1)) = cv om (.ref h.2.1) := by show _ = Value.ref (ca om h.2.1); rw [ca_lt hn]
  rw [hr]
  exact k p e R s m args below meth c H1 locs (cells + 1) (slots + N) Q ls C ⟨hS2, hS1, fun _ => by have := hS.2.2 hcl; show s.heap.size + (cells + 1) = om_z om + (h.2.1 + 1); omega⟩ hL (by show cells + 1 + (B.1 - 1) ≤ R.cells; omega) (by show slots + N + (B.2 - N) ≤ R.slots; omega) KR KX
theorem ra_int {s : State} {c1 c2 : ClassId} {ty : FieldType} (ht : ∀ C0, ty ≠ .object C0) (h1 : va_RA s c1 ty) (h2 : va_RA s c2 ty) : c1 = c2 := by
  cases ty with
  | object C0 => exact absurd rfl (ht C0)
  | _ => exact Option.some.inj ((show s.vm.findClass _ = some c1 from h1).symm.trans h2)
theorem ra_obj {s : State} {c1 c2 : ClassId} {C0 : String} (h1 : va_RA s c1 (.object C0)) (h2 : va_RA s c2 (.object C0)) : c1 = c2 := by
  obtain ⟨-, -, -, -, -, e1⟩ := h1
  obtain ⟨-, -, -, -, -, e2⟩ := h2
  exact Option.some.inj (e1.symm.trans e2)
theorem r_newarray {atype : ArrayType} {ty : FieldType} {t N : Nat} {n : Int32} {x : (Nat → Int32) ⊕ (Nat → Int64) ⊕ (Nat → UInt32) ⊕ (Nat → UInt64) ⊕ (Nat → Option Nat)} (d : decode (mi_by M) pc = .ok (.newarray atype, 2)) (w1 : Cond.arrayClass (newarray.typeOf atype) ∈ GW) (hty : newarray.typeOf atype = ty) (ht : ∀ w0 : OM, (om_ty w0)[t]? = some (om_tc w0 t, ty)) (hto : ∀ C0, ty ≠ .object C0) (ha : ∀ cA : ClassId, vp_cell cA (N, x) = arrV cA N (fun _ => defaultValue ty)) (hce : ∀ w0 : OM, ce w0 (.inl (t, N, x)) = .inl (om_tc w0 t, N, x)) (hn0 : ¬ n < 0) (hN : n.toNatClampNeg = N) (hby : N * componentBytes ty ≤ 536870912) (hcl : h.2.2 = true) (hn : h.2.1 < 100000) (hB : 1 ≤ B.1 ∧ N ≤ B.2) (k : Runs om l M (B.1 - 1, B.2 - N) (pc + 2) L (.ref h.2.1 :: S) (hpush h (.inl (t, N, x))) Post) : Runs om l M B pc L (.int n :: S) h Post := by
  intro p e R s m args below meth c H locs cells slots Q ls C hS hL hc hs KR KX
  have hts := C.2.2.2.2.1
  have hz := C.2.2.2.2.2.2.2.2.2.2.2.2.2.1
  have hA : ∀ q, s.heap.size ≤ q → AZ om q := fun q h9 => Nat.le_trans hz h9
  refine va_newa (D := om_D om) (a0 := (N, x)) C.1 C.2.1 (hts _ w1) hty C.2.2.2.2.2.2.2.2.2.2.2.1 hS.1.1 wl_D hS.2.1 hA ha hn0 hN hby (by omega) (by omega) d (fun q cA H1 hK1 hP1 hD1 hS1 => ?_)
  refine w_size (fun hsz => ?_)
  have h1 := hK1.2 4 (cA, ty) rfl
  have h2 := C.2.2.2.2.2.2.2.2.2.2.2.1.2 t _ (ht om)
  have hcA : cA = om_tc om t := ra_int hto h1.2 h2.2
  subst hcA
  rw [← hce om] at hP1 hD1
  obtain ⟨hq, hS2⟩ := sim_push (h := h) (om := om) (s := s) hP1 hD1 hsz (hS.2.2 hcl) hS.1.2.1 hn
  subst hq
  have hr : (Value.ref (om_z om + h.2.1)) = cv om (.ref h.2.1) := by show _ = Value.ref (ca om h.2.1); rw [ca_lt hn]
  rw [hr]
  exact k p e R s m args below meth c H1 locs (cells + 1) (slots + N) Q ls C ⟨hS2, hS1, fun _ => by have := hS.2.2 hcl; show s.heap.size + (cells + 1) = om_z om + (h.2.1 + 1); omega⟩ hL (by show cells + 1 + (B.1 - 1) ≤ R.cells; omega) (by show slots + N + (B.2 - N) ≤ R.slots; omega) KR KX
theorem r_anewarray {own : String} {idx N : Nat} {n : Int32} (d : decode (mi_by M) pc = .ok (.anewarray idx, 3)) (ho : (mi_nm M).cls = own) (w1 : Cond.classLink own idx "EchoGauge$State" ∈ GW) (w2 : Cond.arrayOver (.object "EchoGauge$State") ∈ NW) (hn0 : ¬ n < 0) (hN : n.toNatClampNeg = N) (hby : N * 4 ≤ 536870912) (hcl : h.2.2 = true) (hn : h.2.1 < 100000) (hB : 1 ≤ B.1 ∧ N ≤ B.2) (k : Runs om l M (B.1 - 1, B.2 - N) (pc + 3) L (.ref h.2.1 :: S) (hpush h (.inl (3, N, .inr (.inr (.inr (.inr (fun _ => none))))))) Post) : Runs om l M B pc L (.int n :: S) h Post := by
  intro p e R s m args below meth c H locs cells slots Q ls C hS hL hc hs KR KX
  subst ho
  have hts := C.2.2.2.2.1
  have hz := C.2.2.2.2.2.2.2.2.2.2.2.2.2.1
  have hkw := C.2.2.2.2.2.2.2.2.2.2.2.2.2.2.2
  have hA : ∀ q, s.heap.size ≤ q → AZ om q := fun q h9 => Nat.le_trans hz h9
  refine va_newq (D := om_D om) C.1 C.2.1 C.2.2.2.1 (hts _ w1) (hkw.1 _ w2) C.2.2.2.2.2.2.2.2.2.2.2.1 hS.1.1 wl_D hS.2.1 hA hn0 hN hby (by omega) (by omega) d (fun q cA H1 hK1 hP1 hD1 hS1 => ?_)
  refine w_size (fun hsz => ?_)
  have h1 := hK1.2 4 (cA, .object "EchoGauge$State") rfl
  have h2 := C.2.2.2.2.2.2.2.2.2.2.2.1.2 3 (om_tc om 3, .object "EchoGauge$State") rfl
  have hcA : cA = om_tc om 3 := ra_obj h1.2 h2.2
  subst hcA
  have he : ce om (.inl (3, N, .inr (.inr (.inr (.inr (fun _ => none)))))) = .inl (om_tc om 3, N, .inr (.inr (.inr (.inr (fun _ => none))))) := rfl
  rw [← he] at hP1 hD1
  obtain ⟨hq, hS2⟩ := sim_push (h := h) (om := om) (s := s) hP1 hD1 hsz (hS.2.2 hcl) hS.1.2.1 hn
  subst hq
  have hr : (Value.ref (om_z om + h.2.1)) = cv om (.ref h.2.1) := by show _ = Value.ref (ca om h.2.1); rw [ca_lt hn]
  rw [hr]
  exact k p e R s m args below meth c H1 locs (cells + 1) (slots + N) Q ls C ⟨hS2, hS1, fun _ => by have := hS.2.2 hcl; show s.heap.size + (cells + 1) = om_z om + (h.2.1 + 1); omega⟩ hL (by show cells + 1 + (B.1 - 1) ≤ R.cells; omega) (by show slots + N + (B.2 - N) ≤ R.slots; omega) KR KX
end KR
