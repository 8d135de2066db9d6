/-! caught calls, throws, Math, copies, what is constant, what is made -/
/-- a local given something that nothing is known of -/
def st1n (L : List (Option Value)) (i : Nat) : List (Option Value) := (st1 L i .null).set i none
theorem st1n_get {L : List (Option Value)} {i j : Nat} {w : Value} (h : (st1n L i)[j]? = some (some w)) : j ≠ i ∧ L[j]? = some (some w) ∧ ¬ (j + 1 = i ∧ w.category = 2) := by
  have h0 : ((st1 L i .null).set i none)[j]? = some (some w) := h
  by_cases hj : j = i
  · subst hj
    have hlt : j < ((st1 L j .null).set j none).length := (List.getElem?_eq_some_iff.mp h0).1
    rw [List.length_set] at hlt
    rw [List.getElem?_set_self hlt] at h0
    cases h0
  · rw [List.getElem?_set_ne (Ne.symm hj)] at h0
    rcases st1_get h0 with ⟨h1, -⟩ | h1
    · exact absurd h1 hj
    · exact h1
theorem loc_st1n {om : OM} {M : MI} {L : List (Option Value)} {ls' : Array Slot} {i : Nat} {v : Value} (h : lv_has ls' (mi_ml M) ((i, v) :: (ent om 0 L).filter (fun q => !(q.1 == i) && !(q.1 + 1 == i && q.2.category == 2)))) : LocR om M (st1n L i) ls' := by
  refine ⟨h.1, h.2.1, fun q hq => ?_⟩
  obtain ⟨j, w, rfl, h2⟩ := (ent_mem _ 0 q).mp hq
  rw [Nat.zero_add]
  obtain ⟨h3, h4, h5⟩ := st1n_get h2
  refine h.2.2 (j, cv om w) (List.mem_cons_of_mem _ (List.mem_filter.mpr ⟨(ent_mem L 0 _).mpr ⟨j, w, by rw [Nat.zero_add], h4⟩, ?_⟩))
  have hc : (cv om w).category = w.category := cv_cat om w
  show (!(j == i) && !(j + 1 == i && (cv om w).category == 2)) = true
  rw [hc]
  simp only [Bool.and_eq_true, Bool.not_eq_true', beq_eq_false_iff_ne, ne_eq, Bool.and_eq_false_iff]
  refine ⟨h3, ?_⟩
  by_cases z : j + 1 = i
  · exact Or.inr (fun y => h5 ⟨z, y⟩)
  · exact Or.inl z
/-- M's table catches an E thrown at pc; the handler begins with an astore of place kk, of ln bytes -/
def CatchOK (M : MI) (pc : Nat) (E : String) (hpc ln kk : Nat) : Prop :=
  kk < mi_ml M ∧ ((∃ k0 : Fin 4, (k0 : Nat) = kk ∧ decode (mi_by M) hpc = .ok (.astore_n k0, 1) ∧ ln = 1) ∨ (decode (mi_by M) hpc = .ok (.astore kk, 2) ∧ ln = 2)) ∧
  ∃ (pre : List ExceptionTableEntry) (x : ExceptionTableEntry) (suf : List ExceptionTableEntry) (name : String), tableOf (mi_hh M) = pre ++ x :: suf ∧ (∀ z ∈ pre, covers z pc = false ∨ (z.catchType ≠ 0 ∧ ∃ nm : String, Cond.classLink (mi_nm M).cls z.catchType nm ∈ GW ∧ (E, nm) ∈ nc_l)) ∧ covers x pc = true ∧ x.catchType ≠ 0 ∧ Cond.classLink (mi_nm M).cls x.catchType name ∈ GW ∧ Cond.castable E name ∈ NW ∧ x.handlerPc = hpc
section MR
variable {om : OM} {l : Launch} {M : MI} {B : Nat × Nat} {pc : Nat} {L : List (Option Value)} {S : List Value} {h : Hp} {Post PostZ : Out → Hp → Prop}
theorem r_callVX {own : String} {idx n : Nat} {z : MI} {vs fs : List Value} {b ci : Nat} {T : u_T} {N : Nat} (mc ms : Nat) (d : decode (mi_by M) pc = .ok (.invokevirtual idx, 3)) (ho : (mi_nm M).cls = own) (hz : CLV own idx z n) (hh : mi_hh z = []) (hfit : fitsIn z M) (hlen : vs.length = n) (hal : (argL (.ref b :: vs)).length ≤ mi_ml z) (hl : l.stackTraces = false)
    (hb : h.1 b = .inr (ci, fs)) (hcl : vwCl[ci]? = some ((mi_nm z).cls, T, N)) (hmc : mc ≤ B.1) (hms : ms ≤ B.2) (hst : (S.map fun v => v.category).sum ≤ 8)
    (kz : Runs om l z (mc, ms) 0 (entL (mi_ml z) (.ref b :: vs)) [] h PostZ) (hcln : ∀ o h1, PostZ o h1 → h1.2.2 = true → h.2.2 = true ∧ h1.2.1 = h.2.1 + mc)
    (kx : ∀ E h1, PostZ (.inr E) h1 → ∃ hpc ln kk, CatchOK M pc E hpc ln kk ∧ Runs om l M (B.1 - mc, B.2 - ms) (hpc + ln) (st1n L kk) [] h1 Post)
    (k : ∀ o h1, PostZ (.inl o) h1 → Runs om l M (B.1 - mc, B.2 - ms) (pc + 3) L (o.toList ++ S) h1 Post) : Runs om l M B pc L (vs.reverse ++ .ref b :: S) h Post := by
  intro p e R s m args below meth c H locs cells slots Q ls C hS hL hc hs KR KX
  subst ho
  obtain ⟨w1, w2, w3, w4, w5, w6, w7, w8⟩ := hz
  obtain ⟨hat, hca, hlt⟩ := sim_at hS.1 hb (nd_inr (vw_lt hcl))
  refine w_size (fun hsz => ?_)
  have hM := am_met (om := om) (mc := mc) (ms := ms) hl w5 hh hal kz
  have hcw : WS z = Cond.code (mi_nm z) (mi_by z) (mi_ml z) (mi_rt z) :: GW := by unfold WS mi_cw; rw [hh]
  have hts := C.2.2.2.2.1
  have hfr := C.2.2.2.2.2.2.2.2.2.1
  have hlo := C.2.2.2.2.2.2.2.2.2.2.1
  have hgi : GoodIn GW (wsV (mi_nm M).cls idx (mi_nm z).cls (mi_nm z) (WS z)) := by
    intro w hw
    unfold wsV at hw
    rcases List.mem_append.mp hw with hw | hw
    · refine gw_good w ?_
      simp only [List.mem_cons, List.not_mem_nil, or_false] at hw
      rcases hw with rfl | rfl | rfl | rfl <;> assumption
    · exact ws_good w4 w hw
  have hr : vx_Run p l e R s m args below meth c H locs cells slots mc ms (F0 m pc ls ((vs.reverse ++ .ref b :: S).map (cv om))) (S.map (cv om)) (am_Qc om PostZ (Value.ref (ca om b) :: vs.map (cv om)).toArray) (am_XC om PostZ) (AZ om) := vx_runV (As := vs.map (cv om)) (C := (mi_nm z).cls) ⟨C.1, C.2.1, C.2.2.1, C.2.2.2.1, hts⟩ hM (cwV n hts hgi hcw rfl rfl ⟨rfl, w6.1, w6.2, w7⟩ ⟨Nat.le_trans hfit.1 hfr, Nat.le_trans hfit.2 hlo⟩)
    ⟨am_blind _ _ _, va_recv C.2.2.2.2.2.2.2.2.2.2.2.1 hS.1.1 hcl hat, fun U hU hW => am_pc C hS hsz (.ref b :: vs) U hU hW⟩ rfl (by rw [List.length_map]; exact hlen) hL.1 (by
      show (vs.reverse ++ .ref b :: S).map (cv om) = (vs.map (cv om)).reverse ++ .ref (ca om b) :: S.map (cv om)
      rw [List.map_append, List.map_reverse]
      rfl) (lv_room (by rw [mapc_cat]; exact hst)) d ⟨by omega, by omega⟩
  have hB1 : cells + mc + (B.1 - mc) ≤ R.cells := by omega
  have hB2 : slots + ms + (B.2 - ms) ≤ R.slots := by omega
  intro T hT X
  rcases hr T hT X with ⟨v, st₀, t, T', L9, h0, X', hL9, e1, e2, ⟨v9, h1, hv, hp, hb9, hF⟩, st⟩ | ⟨q, st₀, t, T', L9, E, ce, h0, X', hL9, e1, e2, ⟨h1, hp, hb9, hF⟩, hce, hcv, hclE, st⟩
  · obtain ⟨k1, k2, k3⟩ := vx_keep (A0 := AZ om) h0 e1 hS.2.1 (fun q _ z => z) (fun q z => z) hL9 hF
    cases hv
    have hS1 : Sim om h1 s T'.heap (locs ++ L9) (cells + mc) := ⟨by rw [e1]; exact hb9, k3, fun hc => by
      obtain ⟨c1, c2⟩ := hcln _ h1 hp hc
      have c3 := hS.2.2 c1
      omega⟩
    obtain ⟨t2, a1, b1⟩ := k v9 h1 hp p e R s m args below meth c T'.heap (locs ++ L9) (cells + mc) (slots + ms) Q ls C hS1 hL hB1 hB2 KR KX T' rfl X'
    refine ⟨t2, st t2 ?_, b1⟩
    rw [mapo]
    exact a1
  · obtain ⟨k1, k2, k3⟩ := vx_keep (A0 := AZ om) h0 e1 hS.2.1 (fun q _ z => z) (fun q z => z) hL9 hF
    have hS1 : Sim om h1 s T'.heap (locs ++ L9) (cells + mc) := ⟨by rw [e1]; exact hb9, k3, fun hc => by
      obtain ⟨c1, c2⟩ := hcln _ h1 hp hc
      have c3 := hS.2.2 c1
      omega⟩
    obtain ⟨hpc, ln, kk, ⟨hkk, hast, pre, x, suf, name, htab, hpre, hcov, hct, hlk, hcast, hhp⟩, kH⟩ := kx E h1 hp
    have hkw := C.2.2.2.2.2.2.2.2.2.2.2.2.2.2.2
    have hW : vx_W p l e R s m args below meth c T'.heap (locs ++ L9) (cells + mc) (slots + ms) Q (F0 m pc ls (S.map (cv om))) q := by
      refine vx_catch C.2.2.2.1 pre x suf (C.2.2.2.2.2.2.2.2.1.trans htab) (fun z hz => ?_) hcov hct (hts _ hlk) (va_Nw.use rfl (hkw.1 _ hcast)) (by rw [e1]; exact hce) hcv hclE ?_
      · rcases hpre z hz with h9 | ⟨h9, nm, h10, h11⟩
        · exact Or.inl h9
        · exact Or.inr ⟨h9, nm, hts _ h10, hkw.2.2 _ h11⟩
      · rw [hhp]
        rcases hast with ⟨k0, hk0, hd, rfl⟩ | ⟨hd, rfl⟩
        · exact lv_astore_n C.1 C.2.1 hd hk0 hL hkk rfl (fun ls9 h9 => kH p e R s m args below meth c T'.heap (locs ++ L9) (cells + mc) (slots + ms) Q ls9 C hS1 (loc_st1n h9) hB1 hB2 KR KX)
        · exact lv_astore C.1 C.2.1 hd hL hkk rfl (fun ls9 h9 => kH p e R s m args below meth c T'.heap (locs ++ L9) (cells + mc) (slots + ms) Q ls9 C hS1 (loc_st1n h9) hB1 hB2 KR KX)
    obtain ⟨t2, a1, b1⟩ := hW T' rfl X'
    exact ⟨t2, st.trans a1, b1⟩
/-- 'throw new E("text")' -/
def x_names : List String := ["java/lang/RuntimeException", "java/lang/Exception"]
def THR (own : String) (ik is ic : Nat) (cls text : String) : Prop := Bundle.fit cls = true ∧ Cond.classLink own ik cls ∈ GW ∧ Cond.initialized cls ∈ GW ∧ (own, is, text) ∈ str_l ∧ (∀ w ∈ vx_atS own ic cls x_names, w ∈ GW ∨ w ∈ NW) ∧ (∀ w ∈ Cond.classLink own ik cls :: Cond.initialized cls :: vx_atS own ic cls x_names, vx_ot w = true)
theorem thr_at {own cls : String} {ic : Nat} {args : Array Value} {s : State} (h1 : ∀ w ∈ vx_atS own ic cls x_names, w ∈ GW ∨ w ∈ NW) (hts : ∀ w ∈ GW, w.before args s = true) (hkw : ∀ w ∈ NW, va_Nw w s) : ∀ w ∈ vx_atS own ic cls x_names, w.before args s = true := by
  intro w hw
  rcases h1 w hw with h | h
  · exact hts w h
  · have h2 : okN w = true := (List.mem_filter.mp h).2
    cases w with
    | methodLinkNest => exact va_Nw.use rfl (hkw _ h)
    | castable => exact va_Nw.use rfl (hkw _ h)
    | declares => exact va_Nw.use rfl (hkw _ h)
    | arrayOver t =>
      cases t with
      | object C => exact va_AO.use (hkw _ h)
      | _ => cases h2
    | _ => cases h2
theorem sim_throw {h : Hp} {s : State} {H : Heap} {locs : List Loc} {cells : Nat} (hS : Sim om h s H locs cells) {t : State} (h1 : H.size ≤ t.heap.size) (h2 : ∀ q : Nat, q < H.size → t.heap[q]? = H[q]?) : SimT om (h.1, h.2.1, false) t.heap ∧ va_F (AZ om) s t := by
  refine ⟨⟨?_, hS.1.2⟩, Nat.le_trans hS.2.1.1 h1, fun q h3 h4 => ?_⟩
  · have hP : va_P (om_D om) vwCl (wl om h) t.heap := hS.1.1.kept (fun k q hk => h2 q.1 (hS.1.1 k q hk).lt)
    exact hP
  · rw [h2 q (Nat.lt_of_lt_of_le h3 hS.2.1.1)]
    exact hS.2.1.2.1 q h3 h4
theorem r_throw {own cls text : String} {ik is ic : Nat} (d0 : decode (mi_by M) pc = .ok (.new ik, 3)) (d3 : decode (mi_by M) (pc + 3) = .ok (.dup, 1)) (d4 : decode (mi_by M) (pc + 4) = .ok (.ldc is, 2)) (d6 : decode (mi_by M) (pc + 6) = .ok (.invokespecial ic, 3)) (d9 : decode (mi_by M) (pc + 9) = .ok (.athrow, 1)) (ho : (mi_nm M).cls = own) (hh : mi_hh M = []) (hT : THR own ik is ic cls text) (hfr : 6 ≤ mi_fr M) (hlo : (S.map fun v => v.category).sum + 82 ≤ mi_lo M) (hl : l.stackTraces = false) (hB : 1 ≤ B.1 ∧ 6 ≤ B.2) (hp : Post (.inr cls) (h.1, h.2.1, false)) : Runs om l M B pc L S h Post := by
  intro p e R s m args below meth c H locs cells slots Q ls C hS hL hc hs KR KX
  subst ho
  obtain ⟨t1, t2, t3, t4, t5, t6⟩ := hT
  rcases KX with ⟨Qc, XC, free, rfl, k2, k3⟩ | k1
  · have hts := C.2.2.2.2.1
    have hkw := C.2.2.2.2.2.2.2.2.2.2.2.2.2.2.2
    obtain ⟨sa, hsa⟩ := hkw.2.1 _ t4
    have hst := C.2.2.2.2.2.2.2.2.2.2.2.2.1
    have hfr' := C.2.2.2.2.2.2.2.2.2.1
    have hlo' := C.2.2.2.2.2.2.2.2.2.2.1
    have htab : c.exceptionTable.toList = [] := by rw [C.2.2.2.2.2.2.2.2.1, hh]; rfl
    exact vx_throwS (names := x_names) C.1 C.2.1 hl C.2.2.2.1 t1 (by decide +kernel) (hts _ t2) (hts _ t3) hsa (thr_at t5 hts hkw.1) t6 hst.2.2.2.2.2.1 hst.2.2.2.2.2.2.1 hS.2.1 (hL.1.trans C.2.2.1.symm) d0 d3 d4 d6 d9 (by rw [htab]; exact fun _ h9 => absurd h9 List.not_mem_nil)
      (by show 2 + 3 < R.frames; omega) (by rw [mapc_cat]; show _ + 82 ≤ R.locals; omega) (by omega) (by omega) C.2.2.2.2.2.1 (fun t ha h1 h2 => k3 _ _ t hp ha (sim_throw hS h1 h2).1 (sim_throw hS h1 h2).2) (fun q hq => k2 _ (hS.2.1.2.2 q hq)) (by omega) (by omega)
  · exact absurd hp (k1 _ _)
theorem r_throwW {own cls text : String} {ik is ic : Nat} (d0 : decode (mi_by M) pc = .ok (.new ik, 3)) (d3 : decode (mi_by M) (pc + 3) = .ok (.dup, 1)) (d4 : decode (mi_by M) (pc + 4) = .ok (.ldc_w is, 3)) (d7 : decode (mi_by M) (pc + 7) = .ok (.invokespecial ic, 3)) (d10 : decode (mi_by M) (pc + 10) = .ok (.athrow, 1)) (ho : (mi_nm M).cls = own) (hh : mi_hh M = []) (hT : THR own ik is ic cls text) (hfr : 6 ≤ mi_fr M) (hlo : (S.map fun v => v.category).sum + 82 ≤ mi_lo M) (hl : l.stackTraces = false) (hB : 1 ≤ B.1 ∧ 6 ≤ B.2) (hp : Post (.inr cls) (h.1, h.2.1, false)) : Runs om l M B pc L S h Post := by
  intro p e R s m args below meth c H locs cells slots Q ls C hS hL hc hs KR KX
  subst ho
  obtain ⟨t1, t2, t3, t4, t5, t6⟩ := hT
  rcases KX with ⟨Qc, XC, free, rfl, k2, k3⟩ | k1
  · have hts := C.2.2.2.2.1
    have hkw := C.2.2.2.2.2.2.2.2.2.2.2.2.2.2.2
    obtain ⟨sa, hsa⟩ := hkw.2.1 _ t4
    have hst := C.2.2.2.2.2.2.2.2.2.2.2.2.1
    have hfr' := C.2.2.2.2.2.2.2.2.2.1
    have hlo' := C.2.2.2.2.2.2.2.2.2.2.1
    have htab : c.exceptionTable.toList = [] := by rw [C.2.2.2.2.2.2.2.2.1, hh]; rfl
    exact vx_throwSW (names := x_names) C.1 C.2.1 hl C.2.2.2.1 t1 (by decide +kernel) (hts _ t2) (hts _ t3) hsa (thr_at t5 hts hkw.1) t6 hst.2.2.2.2.2.1 hst.2.2.2.2.2.2.1 hS.2.1 (hL.1.trans C.2.2.1.symm) d0 d3 d4 d7 d10 (by rw [htab]; exact fun _ h9 => absurd h9 List.not_mem_nil)
      (by show 2 + 3 < R.frames; omega) (by rw [mapc_cat]; show _ + 82 ≤ R.locals; omega) (by omega) (by omega) C.2.2.2.2.2.1 (fun t ha h1 h2 => k3 _ _ t hp ha (sim_throw hS h1 h2).1 (sim_throw hS h1 h2).2) (fun q hq => k2 _ (hS.2.1.2.2 q hq)) (by omega) (by omega)
  · exact absurd hp (k1 _ _)
/-- Object's constructor -/
theorem r_objinit {own : String} {idx a : Nat} (d : decode (mi_by M) pc = .ok (.invokespecial idx, 3)) (ho : (mi_nm M).cls = own) (w1 : Cond.methodLink own idx Lib.objectInit ∈ GW) (w2 : Cond.instanceMethod Lib.objectInit ∈ GW) (w3 : Cond.code Lib.objectInit ⟨#[0xb1]⟩ 1 none ∈ GW) (hfr : 1 ≤ mi_fr M) (hlo : (S.map fun v => v.category).sum + 12 ≤ mi_lo M) (k : Runs om l M B (pc + 3) L S h Post) : Runs om l M B pc L (.ref a :: S) h Post := by
  intro p e R s m args below meth c H locs cells slots Q ls C hS hL hc hs KR KX
  subst ho
  have hts := C.2.2.2.2.1
  have hfr' := C.2.2.2.2.2.2.2.2.2.1
  have hlo' := C.2.2.2.2.2.2.2.2.2.2.1
  exact W.objInit (a := ca om a) (rest := S.map (cv om)) C.1 C.2.1 C.2.2.2.1 (hts _ w1) (hts _ w2) (hts _ w3) rfl (hL.1.trans C.2.2.1.symm) rfl d (by omega) (by show 2 * 0 + ((S.map (cv om)).map fun v => v.category).sum + 12 ≤ R.locals; rw [mapc_cat]; omega) (k p e R s m args below meth c H locs cells slots Q ls C hS hL hc hs KR KX)
/-- Math over ints -/
def MTH (own : String) (idx : Nat) (y : MethodName) (bytes : ByteArray) (ml : Nat) : Prop := Cond.methodLink own idx y ∈ GW ∧ Cond.static y ∈ GW ∧ Cond.initialized "java/lang/Math" ∈ GW ∧ Cond.code y bytes ml (some .int) ∈ GW
theorem r_max {own : String} {idx : Nat} {x y : Int32} (d : decode (mi_by M) pc = .ok (.invokestatic idx, 3)) (ho : (mi_nm M).cls = own) (hm : MTH own idx Lib.Math.max.name Lib.Math.max.code 2) (hfr : 1 ≤ mi_fr M) (hlo : (S.map fun v => v.category).sum + 13 ≤ mi_lo M) (k : Runs om l M B (pc + 3) L (.int (if x < y then y else x) :: S) h Post) : Runs om l M B pc L (.int y :: .int x :: S) h Post := by
  intro p e R s m args below meth c H locs cells slots Q ls C hS hL hc hs KR KX
  subst ho
  have hts := C.2.2.2.2.1
  have hfr' := C.2.2.2.2.2.2.2.2.2.1
  have hlo' := C.2.2.2.2.2.2.2.2.2.2.1
  exact va_mmax C.1 C.2.1 (C.2.2.1.trans hL.1.symm) C.2.2.2.1 (hts _ hm.1) (hts _ hm.2.1) (hts _ hm.2.2.1) (hts _ hm.2.2.2) (by omega) (by rw [mapc_cat]; omega) (by omega) (by omega) d (k p e R s m args below meth c H locs cells slots Q ls C hS hL hc hs KR KX)
theorem r_min {own : String} {idx : Nat} {x y : Int32} (d : decode (mi_by M) pc = .ok (.invokestatic idx, 3)) (ho : (mi_nm M).cls = own) (hm : MTH own idx Lib.Math.min.name Lib.Math.min.code 2) (hfr : 1 ≤ mi_fr M) (hlo : (S.map fun v => v.category).sum + 13 ≤ mi_lo M) (k : Runs om l M B (pc + 3) L (.int (if y < x then y else x) :: S) h Post) : Runs om l M B pc L (.int y :: .int x :: S) h Post := by
  intro p e R s m args below meth c H locs cells slots Q ls C hS hL hc hs KR KX
  subst ho
  have hts := C.2.2.2.2.1
  have hfr' := C.2.2.2.2.2.2.2.2.2.1
  have hlo' := C.2.2.2.2.2.2.2.2.2.2.1
  exact va_mmin C.1 C.2.1 (C.2.2.1.trans hL.1.symm) C.2.2.2.1 (hts _ hm.1) (hts _ hm.2.1) (hts _ hm.2.2.1) (hts _ hm.2.2.2) (by omega) (by rw [mapc_cat]; omega) (by omega) (by omega) d (k p e R s m args below meth c H locs cells slots Q ls C hS hL hc hs KR KX)
theorem r_abs {own : String} {idx : Nat} {x : Int32} (d : decode (mi_by M) pc = .ok (.invokestatic idx, 3)) (ho : (mi_nm M).cls = own) (hm : MTH own idx Lib.Math.abs.name Lib.Math.abs.code 1) (hfr : 1 ≤ mi_fr M) (hlo : (S.map fun v => v.category).sum + 13 ≤ mi_lo M) (k : Runs om l M B (pc + 3) L (.int (if 0 ≤ x then x else 0 - x) :: S) h Post) : Runs om l M B pc L (.int x :: S) h Post := by
  intro p e R s m args below meth c H locs cells slots Q ls C hS hL hc hs KR KX
  subst ho
  have hts := C.2.2.2.2.1
  have hfr' := C.2.2.2.2.2.2.2.2.2.1
  have hlo' := C.2.2.2.2.2.2.2.2.2.2.1
  exact va_mabs C.1 C.2.1 (C.2.2.1.trans hL.1.symm) C.2.2.2.1 (hts _ hm.1) (hts _ hm.2.1) (hts _ hm.2.2.1) (hts _ hm.2.2.2) (by omega) (by rw [mapc_cat]; omega) (by omega) (by omega) d (k p e R s m args below meth c H locs cells slots Q ls C hS hL hc hs KR KX)
/-- System.arraycopy -/
def ACP (own : String) (idx : Nat) : Prop := Cond.methodLink own idx arraycopyName ∈ GW ∧ Cond.native arraycopyName ∈ GW ∧ Cond.static arraycopyName ∈ GW ∧ Cond.initialized "java/lang/System" ∈ GW
abbrev cpN : Nat := nativeFrameWords "java/lang/System" "arraycopy" 5 + 11
theorem r_copyI {own : String} {idx a0 a n0 n1 : Nat} {f g : Nat → Int32} {sp dp n : Int32} (d : decode (mi_by M) pc = .ok (.invokestatic idx, 3)) (ho : (mi_nm M).cls = own) (hm : ACP own idx) (hfr : 1 ≤ mi_fr M) (hlo : (S.map fun v => v.category).sum + cpN ≤ mi_lo M) (ha0 : h.1 a0 = .inl (0, n0, .inl f)) (ha : h.1 a = .inl (0, n1, .inl g)) (h1 : ¬ sp < 0) (h2 : ¬ dp < 0) (h3 : ¬ n < 0) (h4 : sp.toNatClampNeg + n.toNatClampNeg ≤ n0) (h5 : dp.toNatClampNeg + n.toNatClampNeg ≤ n1)
    (k : Runs om l M B (pc + 3) L S (hs h a (.inl (0, n1, .inl (va_cpy f g sp.toNatClampNeg dp.toNatClampNeg n.toNatClampNeg)))) Post) : Runs om l M B pc L (.int n :: .int dp :: .ref a :: .int sp :: .ref a0 :: S) h Post := by
  intro p e R s m args below meth c H locs cells slots Q ls C hS hL hc hs KR KX
  subst ho
  have hts := C.2.2.2.2.1
  have hfr' := C.2.2.2.2.2.2.2.2.2.1
  have hlo' := C.2.2.2.2.2.2.2.2.2.2.1
  obtain ⟨hat0, -, -⟩ := sim_at hS.1 ha0 nd_inl
  obtain ⟨hat, hca, hlt⟩ := sim_at hS.1 ha nd_inl
  refine va_copyi (ty := .int) C.1 C.2.1 (C.2.2.1.trans hL.1.symm) C.2.2.2.1 (hts _ hm.1) (hts _ hm.2.1) (hts _ hm.2.2.1) (hts _ hm.2.2.2) C.2.2.2.2.2.2.2.2.2.2.2.1 hS.1.1 wl_D hS.2.1 a0 a 0 0 hat0 hat rfl rfl rfl h1 h2 h3 h4 h5 (fun _ _ => rfl) (by omega) (by rw [mapc_cat]; exact Nat.le_trans hlo hlo') d (fun H1 locs1 hP1 _ hS1 => ?_)
  rw [hca] at hP1
  exact k p e R s m args below meth c H1 locs1 cells slots Q ls C ⟨sim_set (e := .inl (0, n1, .inl (va_cpy f g sp.toNatClampNeg dp.toNatClampNeg n.toNatClampNeg))) hP1 hlt hS.1.2.1 hS.1.2.2, hS1, hS.2.2⟩ hL hc hs KR KX
theorem r_copyL {own : String} {idx a0 a n0 n1 : Nat} {f g : Nat → Int64} {sp dp n : Int32} (d : decode (mi_by M) pc = .ok (.invokestatic idx, 3)) (ho : (mi_nm M).cls = own) (hm : ACP own idx) (hfr : 1 ≤ mi_fr M) (hlo : (S.map fun v => v.category).sum + cpN ≤ mi_lo M) (ha0 : h.1 a0 = .inl (2, n0, .inr (.inl f))) (ha : h.1 a = .inl (2, n1, .inr (.inl g))) (h1 : ¬ sp < 0) (h2 : ¬ dp < 0) (h3 : ¬ n < 0) (h4 : sp.toNatClampNeg + n.toNatClampNeg ≤ n0) (h5 : dp.toNatClampNeg + n.toNatClampNeg ≤ n1)
    (k : Runs om l M B (pc + 3) L S (hs h a (.inl (2, n1, .inr (.inl (va_cpy f g sp.toNatClampNeg dp.toNatClampNeg n.toNatClampNeg))))) Post) : Runs om l M B pc L (.int n :: .int dp :: .ref a :: .int sp :: .ref a0 :: S) h Post := by
  intro p e R s m args below meth c H locs cells slots Q ls C hS hL hc hs KR KX
  subst ho
  have hts := C.2.2.2.2.1
  have hfr' := C.2.2.2.2.2.2.2.2.2.1
  have hlo' := C.2.2.2.2.2.2.2.2.2.2.1
  obtain ⟨hat0, -, -⟩ := sim_at hS.1 ha0 nd_inl
  obtain ⟨hat, hca, hlt⟩ := sim_at hS.1 ha nd_inl
  refine va_copyl (ty := .long) C.1 C.2.1 (C.2.2.1.trans hL.1.symm) C.2.2.2.1 (hts _ hm.1) (hts _ hm.2.1) (hts _ hm.2.2.1) (hts _ hm.2.2.2) C.2.2.2.2.2.2.2.2.2.2.2.1 hS.1.1 wl_D hS.2.1 a0 a 2 2 hat0 hat rfl rfl rfl h1 h2 h3 h4 h5 (fun _ _ => rfl) (by omega) (by rw [mapc_cat]; exact Nat.le_trans hlo hlo') d (fun H1 locs1 hP1 _ hS1 => ?_)
  rw [hca] at hP1
  exact k p e R s m args below meth c H1 locs1 cells slots Q ls C ⟨sim_set (e := .inl (2, n1, .inr (.inl (va_cpy f g sp.toNatClampNeg dp.toNatClampNeg n.toNatClampNeg)))) hP1 hlt hS.1.2.1 hS.1.2.2, hS1, hS.2.2⟩ hL hc hs KR KX
/-- from the settings' first values -/
theorem r_copyF {own : String} {idx a n1 : Nat} {g : Nat → Int32} {sp dp n : Int32} (d : decode (mi_by M) pc = .ok (.invokestatic idx, 3)) (ho : (mi_nm M).cls = own) (hm : ACP own idx) (hfr : 1 ≤ mi_fr M) (hlo : (S.map fun v => v.category).sum + cpN ≤ mi_lo M) (ha : h.1 a = .inl (0, n1, .inl g)) (h1 : ¬ sp < 0) (h2 : ¬ dp < 0) (h3 : ¬ n < 0) (h4 : sp.toNatClampNeg + n.toNatClampNeg ≤ 12) (h5 : dp.toNatClampNeg + n.toNatClampNeg ≤ n1)
    (k : Runs om l M B (pc + 3) L S (hs h a (.inl (0, n1, .inl (va_cpy (fun j => c_first.getD j 0) g sp.toNatClampNeg dp.toNatClampNeg n.toNatClampNeg)))) Post) : Runs om l M B pc L (.int n :: .int dp :: .ref a :: .int sp :: .ref 100001 :: S) h Post := by
  intro p e R s m args below meth c H locs cells slots Q ls C hS hL hc hs KR KX
  subst ho
  have hts := C.2.2.2.2.1
  have hfr' := C.2.2.2.2.2.2.2.2.2.1
  have hlo' := C.2.2.2.2.2.2.2.2.2.2.1
  have hst := C.2.2.2.2.2.2.2.2.2.2.2.2.1
  obtain ⟨hat, hca, hlt⟩ := sim_at hS.1 ha nd_inl
  have hX := hst.2.2.2.2.2.2.2.1
  refine va_copyx C.1 C.2.1 (C.2.2.1.trans hL.1.symm) C.2.2.2.1 (hts _ hm.1) (hts _ hm.2.1) (hts _ hm.2.2.1) (hts _ hm.2.2.2) C.2.2.2.2.2.2.2.2.2.2.2.1 hS.1.1 wl_D hS.2.1 hX (hX.elim (fun scr z => (Array.getElem?_eq_some_iff.mp z.1).1)) hst.2.2.2.2.2.2.2.2 a 0 hat rfl h1 h2 h3 h4 h5 (by omega) (by rw [mapc_cat]; exact Nat.le_trans hlo hlo') d (fun H1 locs1 hP1 _ hS1 => ?_)
  rw [hca] at hP1
  exact k p e R s m args below meth c H1 locs1 cells slots Q ls C ⟨sim_set (e := .inl (0, n1, .inl (va_cpy (fun j => c_first.getD j 0) g sp.toNatClampNeg dp.toNatClampNeg n.toNatClampNeg))) hP1 hlt hS.1.2.1 hS.1.2.2, hS1, hS.2.2⟩ hL hc hs KR KX
end MR
