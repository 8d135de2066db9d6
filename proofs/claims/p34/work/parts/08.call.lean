/-! calls: a method that runs meets a contract of the kit; the call rows -/
def argL : List Value → List (Option Value)
  | [] => []
  | v :: vs => if v.category = 2 then some v :: none :: argL vs else some v :: argL vs
def entL (n : Nat) (vs : List Value) : List (Option Value) := argL vs ++ List.replicate (n - (argL vs).length) none
theorem ent_nones {om : OM} : ∀ (k i : Nat), ent om i (List.replicate k none) = []
  | 0, _ => rfl
  | k + 1, i => by
    rw [List.replicate_succ]
    exact ent_nones k (i + 1)
theorem ent_arg {om : OM} (k : Nat) : ∀ (vs : List Value) (i : Nat), ent om i (argL vs ++ List.replicate k none) = lv_args i (vs.map (cv om))
  | [], i => ent_nones k i
  | v :: vs, i => by
    by_cases hc : v.category = 2
    · have e1 : argL (v :: vs) = some v :: none :: argL vs := if_pos hc
      rw [e1]
      show (i, cv om v) :: ent om (i + 1 + 1) (argL vs ++ List.replicate k none) = (i, cv om v) :: lv_args (if (cv om v).category = 2 then i + 2 else i + 1) (vs.map (cv om))
      rw [ent_arg k vs (i + 1 + 1), cv_cat, if_pos hc]
    · have e1 : argL (v :: vs) = some v :: argL vs := if_neg hc
      rw [e1]
      show (i, cv om v) :: ent om (i + 1) (argL vs ++ List.replicate k none) = (i, cv om v) :: lv_args (if (cv om v).category = 2 then i + 2 else i + 1) (vs.map (cv om))
      rw [ent_arg k vs (i + 1), cv_cat, if_neg hc]
theorem arg_len {om : OM} : ∀ (vs : List Value), (lg_sl (vs.map (cv om))).length = (argL vs).length
  | [] => rfl
  | v :: vs => by
    have ih := arg_len (om := om) vs
    by_cases hc : v.category = 2
    · have e1 : argL (v :: vs) = some v :: none :: argL vs := if_pos hc
      have e2 : lg_sl ((v :: vs).map (cv om)) = [.val (cv om v), .second] ++ lg_sl (vs.map (cv om)) := by
        show (if (cv om v).category = 2 then [Slot.val (cv om v), Slot.second] else [Slot.val (cv om v)]) ++ lg_sl (vs.map (cv om)) = _
        rw [cv_cat, if_pos hc]
      rw [e1, e2, List.length_append, ih]
      show 2 + (argL vs).length = (argL vs).length + 1 + 1
      omega
    · have e1 : argL (v :: vs) = some v :: argL vs := if_neg hc
      have e2 : lg_sl ((v :: vs).map (cv om)) = [.val (cv om v)] ++ lg_sl (vs.map (cv om)) := by
        show (if (cv om v).category = 2 then [Slot.val (cv om v), Slot.second] else [Slot.val (cv om v)]) ++ lg_sl (vs.map (cv om)) = _
        rw [cv_cat, if_neg hc]
      rw [e1, e2, List.length_append, ih]
      show 1 + (argL vs).length = (argL vs).length + 1
      omega
def am_Pc (om : OM) (h : Hp) (vs : List Value) : Array Value → State → Prop := fun v U => v = (vs.map (cv om)).toArray ∧ SimT om h U.heap ∧ (h.2.2 = true → U.heap.size = om_z om + h.2.1) ∧ va_K (om_D om) vwCl (om_ty om) U ∧ Stat om U U.heap ∧ om_z om ≤ U.heap.size ∧ KW U
def am_Qc (om : OM) (Post : Out → Hp → Prop) : Array Value → State → Outcome → State → Prop := fun _ st o t => ∃ (v : Option Value) (h1 : Hp), o = .returned (v.map (cv om)) ∧ Post (.inl v) h1 ∧ SimT om h1 t.heap ∧ va_F (AZ om) st t
def am_XC (om : OM) (Post : Out → Hp → Prop) : String → State → State → Prop := fun E st t => ∃ h1 : Hp, Post (.inr E) h1 ∧ SimT om h1 t.heap ∧ va_F (AZ om) st t
def am_rm (z : MI) (mc ms : Nat) : Room := { frames := mi_fr z, cells := mc, slots := ms, locals := mi_lo z }
theorem am_blind (om : OM) (h : Hp) (vs : List Value) : FrameBlind (am_Pc om h vs) := by
  intro a U g mk q
  obtain ⟨q0, q1, q2, q3, q4, q5, q6⟩ := q
  exact ⟨q0, q1, q2, va_K.moved (u := U) (U := U.calling g mk a) (Vm.Alike.refl U.vm) q3, Stat.moved (u := U) (U := U.calling g mk a) (Vm.Alike.refl U.vm) q4, q5, KW.warm (s := U) (U := U.calling g mk a) (State.WarmedH.refl U) q6⟩
/-- the end of a body -/
theorem am_end {om : OM} {z : MI} {Post : Out → Hp → Prop} {p : Program} {l : Launch} {e : Env} {R : Room} {s : State} {m : MethodId} {args : Array Value} {below : List Frame} {meth : Method} {c : Code} {H1 : Heap} {locs1 : List Loc} {cells1 slots1 pc1 : Nat} {ls1 : Array Slot} {o : Option Value} {h1 : Hp} {XC : String → State → State → Prop}
    (hx : p.tables.exec = Jvm.exec) (hb : c.code = mi_by z) (hr : meth.sig.returnType = mi_rt z) (hlocks : meth.locks = false) (hp : Post (.inl o) h1) (hS : SimT om h1 H1) (hS1 : va_S (AZ om) s.heap H1 locs1) (hc : cells1 ≤ R.cells) (hs : slots1 ≤ R.slots) (hR : RetAt z pc1 o) :
    W p l e R s m args below meth c H1 locs1 cells1 slots1 (vx_MQ below (am_Qc om Post) XC args s R.cells R.slots (AZ om)) (F0 m pc1 ls1 (o.toList.map (cv om))) := by
  refine vx_ret (W.widen (k := R.cells) (n := R.slots) hc hs ?_)
  have hq : ∀ t : State, t.heap = H1 → s.WarmedH t.vm → am_Qc om Post args s (.returned (o.map (cv om))) t := fun t ht _ => ⟨o, h1, rfl, hp, by rw [ht]; exact hS, hS1.F ht⟩
  cases o with
  | none => exact W.vret hx hb (hr.trans hR.2) hq hS1.2.2 hR.1 hlocks
  | some v =>
    cases v with
    | int x =>
      obtain ⟨hd, ty, h2, h3⟩ := hR
      exact W.zret hx hb (hr.trans h2) h3 hq hS1.2.2 hd hlocks
    | long x => exact W.lret hx hb (hr.trans hR.2) hq hS1.2.2 hR.1 hlocks
    | double x => exact W.dret hx hb (hr.trans hR.2) hq hS1.2.2 hR.1 hlocks
    | ref x =>
      obtain ⟨hd, C0, h2⟩ := hR
      exact W.aret hx hb (hr.trans h2) (Or.inl ⟨_, rfl⟩) (Or.inr ⟨_, rfl⟩) hq hS1.2.2 hd hlocks
    | null =>
      obtain ⟨hd, C0, h2⟩ := hR
      exact W.aret hx hb (hr.trans h2) (Or.inl ⟨_, rfl⟩) (Or.inl rfl) hq hS1.2.2 hd hlocks
    | _ => exact hR.elim
theorem am_body {om : OM} {l : Launch} {z : MI} {mc ms : Nat} {vs : List Value} {h : Hp} {Post : Out → Hp → Prop} (hl : l.stackTraces = false) (hn : (argL vs).length ≤ mi_ml z) (k : Runs om l z (mc, ms) 0 (entL (mi_ml z) vs) [] h Post)
    {p : Program} {e : Env} {s : State} {m : MethodId} {args : Array Value} {below : List Frame} {meth : Method} {c : Code} {s₁ : State} (B : BodyLoose p l (mi_nm z) (headSpec (WS z) (am_rm z mc ms)) (mi_by z) (mi_ml z) (mi_rt z) e s m args below meth c s₁) (hml : c.maxLocals = mi_ml z) (ht : c.exceptionTable.toList = tableOf (mi_hh z)) (hv : am_Pc om h vs args s) :
    W p l e (headSpec (WS z) (am_rm z mc ms)).room s m args below meth c s.heap [] 0 0 (vx_MQ below (am_Qc om Post) (am_XC om Post) args s mc ms (AZ om)) (entryFrame m args (mi_ml z)) := by
  obtain ⟨rfl, hsim, hcl, hK, hst, hz, hkw⟩ := hv
  have hx := B.exec
  have hb := B.bytes
  have hr := B.returns
  have hts : ∀ w ∈ GW, w.before (vs.map (cv om)).toArray s = true := fun w hw => atoms_spec (ws := WS z) B.pre w (List.mem_cons_of_mem _ hw)
  have hown : s.vm.findClass (mi_nm z).cls = some m.cls := findClass_of_methodNamed B.named
  have hlocks := B.notSynchronized
  have hin : meth.name = (mi_nm z).name := (name_of_methodNamed B.named B.method).1
  have hlv := lv_entry (vs.map (cv om)) (n := mi_ml z) (by rw [arg_len]; exact hn)
  rw [lg_entry_eq]
  generalize (lg_sl (vs.map (cv om)) ++ List.replicate (mi_ml z - (lg_sl (vs.map (cv om))).length) Slot.unset).toArray = ls at hlv ⊢
  refine k p e _ s m _ below meth c s.heap [] 0 0 _ ls ⟨hx, hb, hml, hown, hts, hlocks, hr, hin, ht, Nat.le_refl _, Nat.le_refl _, hK, hst, hz, hl, hkw⟩ ⟨hsim, va_S.rf, fun q => hcl q⟩ ?_ ?_ ?_ ?_ ?_
  · show lv_has ls (mi_ml z) (ent om 0 (argL vs ++ List.replicate (mi_ml z - (argL vs).length) none))
    rw [ent_arg]
    exact hlv
  · exact Nat.le_of_eq (Nat.zero_add _)
  · exact Nat.le_of_eq (Nat.zero_add _)
  · intro o h1 H1 locs1 cells1 slots1 pc1 ls1 hp hS hS1 hc hs hR
    exact am_end (R := (headSpec (WS z) (am_rm z mc ms)).room) hx hb hr hlocks hp hS hS1 hc hs hR
  · exact Or.inl ⟨_, _, _, rfl, fun _ h9 => h9, fun E h1 t hp _ hS hF => ⟨h1, hp, hS, hF⟩⟩
theorem am_met {om : OM} {l : Launch} {z : MI} {mc ms : Nat} {vs : List Value} {h : Hp} {Post : Out → Hp → Prop} (hl : l.stackTraces = false) (hy : plainName (mi_nm z).cls = true) (hh : mi_hh z = []) (hn : (argL vs).length ≤ mi_ml z) (k : Runs om l z (mc, ms) 0 (entL (mi_ml z) vs) [] h Post) :
    vx_Met l (mi_nm z) (WS z) (am_rm z mc ms) (am_Pc om h vs) (am_Qc om Post) (am_XC om Post) mc ms (AZ om) := by
  have hcw : mi_cw z = .code (mi_nm z) (mi_by z) (mi_ml z) (mi_rt z) := by unfold mi_cw; rw [hh]
  refine vx_ofW (cc := mi_by z) (maxL := mi_ml z) (ret := mi_rt z) (ws' := GW) hy (by unfold WS; rw [hcw]) ?_
  intro p e s m args below meth c s₁ B hml htab hv
  refine am_body hl hn k B hml ?_ hv
  rw [hh]
  exact List.eq_nil_iff_forall_not_mem.mpr htab
theorem am_metH {om : OM} {l : Launch} {z : MI} {mc ms : Nat} {vs : List Value} {h : Hp} {Post : Out → Hp → Prop} (hl : l.stackTraces = false) (hy : plainName (mi_nm z).cls = true) (hh : mi_cw z = .codeWith (mi_nm z) (mi_by z) (mi_ml z) (mi_rt z) (mi_hh z)) (hn : (argL vs).length ≤ mi_ml z) (k : Runs om l z (mc, ms) 0 (entL (mi_ml z) vs) [] h Post) :
    vx_Met l (mi_nm z) (WS z) (am_rm z mc ms) (am_Pc om h vs) (am_Qc om Post) (am_XC om Post) mc ms (AZ om) := by
  refine vx_ofWH (cc := mi_by z) (maxL := mi_ml z) (ret := mi_rt z) (hh := mi_hh z) (ws' := GW) hy (by unfold WS; rw [hh]) ?_
  intro p e s m args below meth c s₁ B hml hv
  refine am_body hl hn k B hml ?_ hv
  refine vx_table (x := mi_nm z) B (bytes := mi_by z) (maxL' := mi_ml z) (ret' := mi_rt z) ?_
  have h1 := atoms_spec (ws := WS z) B.pre (mi_cw z) List.mem_cons_self
  rw [hh] at h1
  exact h1
