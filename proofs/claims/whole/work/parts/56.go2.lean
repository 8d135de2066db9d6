/-! Word.ordinal: inherited from Enum, of which no word says that it is initialized: walked where it is called -/
theorem l_ordinst : Cond.instanceMethod (mi_nm M_Jx29ce0_ordinal_8abf5) ∈ GW := (gw_i 584 (by decide +kernel) (by decide +kernel))
theorem l_ordcode : Cond.code (mi_nm M_Jx29ce0_ordinal_8abf5) cJx29ce0_ordinal_8abf5 1 (some .int) ∈ GW := (gw_i 585 (by decide +kernel) (by decide +kernel))
theorem ord_so {i : Nat} (hi : i < 9) : ("EchoGauge$Word", 100010 + i) ∈ so_l := List.mem_append_left _ (List.mem_map.mpr ⟨i, List.mem_range.mpr hi, rfl⟩)
theorem ord_sf {i : Nat} (hi : i < 9) : ("java/lang/Enum", "ordinal", "I", Value.int (nI i), 100010 + i) ∈ sf_l := by
  unfold sf_l
  refine List.mem_append_left _ (List.mem_append_left _ (List.mem_append_right _ ?_))
  exact List.mem_map.mpr ⟨i, List.mem_range.mpr hi, rfl⟩
section ORD
variable {om : OM} {l : Launch} {M : MI} {B : Nat × Nat} {pc : Nat} {L : List (Option Value)} {S : List Value} {h : Hp} {Post : Out → Hp → Prop}
theorem r_ordinal {idx i : Nat} (d : decode (mi_by M) pc = .ok (.invokevirtual idx, 3)) (hlk : Cond.methodLink (mi_nm M).cls idx ⟨"EchoGauge$Word", "ordinal", "()I"⟩ ∈ GW) (hi : i < 9) (hf1 : 1 ≤ mi_fr M) (hf2 : 20 ≤ mi_lo M) (hst : (S.map fun v => v.category).sum ≤ 8)
    (k : Runs om l M B (pc + 3) L (.int (nI i) :: S) h Post) : Runs om l M B pc L (.ref (100010 + i) :: S) h Post := by
  intro p e R s m args below meth c H locs cells slots Q ls C hS hL hc hs KR KX
  have hts := C.2.2.2.2.1
  have hfr := C.2.2.2.2.2.2.2.2.2.1
  have hlo := C.2.2.2.2.2.2.2.2.2.2.1
  have hk := k p e R s m args below meth c H locs cells slots Q ls C hS hL hc hs KR KX
  obtain ⟨cell, h1, h2, h3⟩ := so_recv C hS (ord_so hi)
  obtain ⟨cf, ck, fi, f, cell2, f1, f2, f3, f4, f5, -⟩ := (C.2.2.2.2.2.2.2.2.2.2.2.2.1.2.2.2.1 _ (ord_sf hi)).kept hS.2.1.2.1
  cases h1.symm.trans f3
  obtain ⟨mk, methM, hnamed, hmethM, -, habM⟩ := Cond.instanceMethod_spec (hts _ l_ordinst)
  obtain ⟨methM', cM, hmethM', hcodeM, hbyM, hloM, hreM, hlkM, -, hsigM⟩ := Cond.code_spec hnamed (hts _ l_ordcode)
  cases hmethM.symm.trans hmethM'
  obtain ⟨cn, ck0, r1, hcn, hck, hni, hf, hn1⟩ := Cond.sameMethod_found (hts _ l_ordsame)
  obtain ⟨c2, r2, m2, q1, q2, q3, q4, kP, hkP, hkPi⟩ := Cond.selects_spec (hts _ l_ordsel)
  cases h3.symm.trans q1
  cases hf.symm.trans q2
  cases hnamed.symm.trans q3
  obtain ⟨r0, r, hn0, hrm, hstR, hsigR⟩ := va_Decl.of (x := mi_nm M_Jx29ce0_ordinal_8abf5) (hts _ l_ordinst) (hts _ l_ordcode)
  cases hn0.symm.trans hn1
  intro T hT X
  have hselP : selectMethod e.platform s.vm cell.cls r1 = .method mk := by rw [Launch.admits_selectMethod X.admits]; exact q4
  obtain ⟨vm₁, X₁, hstep₁⟩ := X.invokevirtualUp C.1 C.2.2.2.1 (hts _ hlk) (hts _ l_ordsame) (by decide) hn0 hrm hstR (a := ca om (100010 + i)) (cell := cell) (by rw [hT]; exact h1)
    (fun z h => by rw [h] at h2; cases h2) hselP hmethM habM hkP hkPi (g := F0 m pc ls (.ref (ca om (100010 + i)) :: S.map (cv om))) rfl (argsL := []) (rest := S.map (cv om)) (by
      have e2 : parseMethodDescriptor "()I" = some r.sig := hsigR
      have e3 : parseMethodDescriptor "()I" = some ⟨[], some .int⟩ := by decide
      rw [← Option.some.inj (e3.symm.trans e2)]
      rfl) rfl (by rw [C.2.1]; exact d)
  have hW₁ : s.WarmedH vm₁ := X₁.warmed
  have hm₁ : (T.setVm vm₁).vm.method? mk = some methM := by show vm₁.method? mk = _; rw [hW₁.alike.method?]; exact hmethM
  obtain ⟨ci, cq, kq, fq, ff, g1, g2, g3⟩ := Cond.fieldLink_spec (d := mk.cls) (findClass_of_methodNamed hnamed) (hts _ g_RJx29ce0_7) e.platform X.magic
  cases f1.symm.trans g1
  obtain ⟨w1, w2⟩ := State.fieldFound?_spec g1
  obtain ⟨vm', hg, hW', hr, hfi⟩ := State.fieldEntry (e := e) (vm₀ := (T.setVm vm₁).vm) hW₁ g2 g3 w1 w2
  have X₂ := X.noted hW'
  obtain ⟨t, a1, b1⟩ := hk (T.setVm vm') hT X₂
  have hroom := X₁.notFull (g := F0 m pc ls (S.map (cv om))) (vars := cM.maxLocals) (hL.1.trans C.2.2.1.symm) (by omega) (by
    have h9 := lv_room (m := m) (pc := pc) (ls := ls) (rest := S.map (cv om)) (st := S.map (cv om)) (by rw [mapc_cat]; exact hst)
    rw [hloM]
    show 2 * (F0 m pc ls (S.map (cv om))).monitorRoom + ((S.map (cv om)).map fun v => v.category).sum + (1 + 11) ≤ R.locals
    omega)
  refine ⟨t, hstep₁ t (fun acts => ?_), b1⟩
  exact Steps.intGetterInline (g := F0 m pc ls (S.map (cv om))) X₁.here C.1 acts hm₁ hcodeM hlkM (State.plainMethod.of_name (fun k9 hk9 => by
      obtain ⟨k8, hk8, hn8⟩ := className_of_methodNamed hnamed
      obtain ⟨k7, hk7, he7⟩ := hW₁.alike.2.2 _ _ hk8
      cases (show vm₁.classes[mk.cls]? = some k9 from hk9).symm.trans hk7
      rw [he7]
      show plainName k8.name = true
      rw [hn8]
      decide)) hreM hloM (by rw [hbyM]; exact dJx29ce0_ordinal_8abf5_0) (by rw [hbyM]; exact dJx29ce0_ordinal_8abf5_1) (by rw [hbyM]; exact dJx29ce0_ordinal_8abf5_4) hroom (by rw [C.2.1]; exact d)
    (hW₁.alike.symm.trans hW'.alike) hg hr hfi f2 (by show T.heap[ca om (100010 + i)]? = _; rw [hT]; exact h1) f4 f5 a1
end ORD
