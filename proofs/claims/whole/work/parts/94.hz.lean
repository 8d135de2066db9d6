/-! words, texts, classes at the law's entry -/
theorem okN_tabs {w : Cond} (h : okN w = true) {A : Array Value} {s : State} (hb : w.before A s = true) : va_Nw w s := by
  cases w with
  | methodLinkNest => exact va_Nw.of rfl hb
  | castable => exact va_Nw.of rfl hb
  | declares => exact va_Nw.of rfl hb
  | arrayOver t =>
    cases t with
    | object C => exact va_AO.of hb
    | _ => cases h
  | _ => cases h
theorem kw_at {A : Array Value} {s : State} (h : (Jvm.Cond.and given_1 narrow_1).before A s = true) (hts : ∀ w ∈ lw_tbl, w.before A s = true) : KW s := by
  refine ⟨fun w hw => ?_, fun q hq => ?_, fun q hq => va_Nc.of (nfw h (N_nc q hq))⟩
  · obtain ⟨h1, h2⟩ := List.mem_filter.mp hw
    exact okN_tabs h2 (hts w h1)
  · obtain ⟨a, c, cell, k, q1, -⟩ := Cond.exactly_spec (args := A) (first := s) (o := none) (s := s) (idx := []) (nfw h (N_str q hq))
    exact ⟨a, vk_R.of (hts _ (B_str q hq)) q1⟩
theorem ins_of {A : Array Value} {s : State} (hts : ∀ w ∈ lw_tbl, w.before A s = true) {ci n : Nat} {C : String} {T : u_T} {N : Nat} {ty : Nat → FieldType} (hC : CLF ci C T N ty) (hi : Cond.instantiable C n ∈ lw_tbl) : ∃ p : ClassId × (Nat → Nat), u_Kn s C T N p.1 p.2 := by
  obtain ⟨a, b, hk⟩ := u_known (ws := lw_tbl) hts (fun w hw => (List.mem_filter.mp (hC.2.1 w hw)).1) (hts _ hi)
  exact ⟨(a, b), hk⟩
theorem kn_at {A : Array Value} {s : State} (hts : ∀ w ∈ lw_tbl, w.before A s = true) : ∀ q ∈ vwCl, ∃ p : ClassId × (Nat → Nat), u_Kn s q.1 q.2.1 q.2.2 p.1 p.2 :=
  List.forall_mem_cons.mpr ⟨ins_of (n := 5) hts clf_0 (by decide +kernel), List.forall_mem_cons.mpr ⟨ins_of (n := 2) hts clf_1 (by decide +kernel), List.forall_mem_cons.mpr ⟨ins_of (n := 5) hts clf_2 (by decide +kernel), List.forall_mem_cons.mpr ⟨ins_of (n := 9) hts clf_3 (by decide +kernel), List.forall_mem_cons.mpr ⟨ins_of (n := 2) hts clf_4 (by decide +kernel), List.forall_mem_cons.mpr ⟨ins_of (n := 1) hts clf_5 (by decide +kernel), List.forall_mem_cons.mpr ⟨ins_of (n := 7) hts clf_6 (by decide +kernel), List.forall_mem_cons.mpr ⟨ins_of (n := 14) hts clf_7 (by decide +kernel), List.forall_mem_cons.mpr ⟨ins_of (n := 6) hts clf_8 (by decide +kernel), List.forall_mem_cons.mpr ⟨ins_of (n := 11) hts clf_9 (by decide +kernel), fun _ z => absurd z List.not_mem_nil⟩⟩⟩⟩⟩⟩⟩⟩⟩⟩
theorem D_at {A : Array Value} {s : State} (hts : ∀ w ∈ lw_tbl, w.before A s = true) : ∃ D : va_G, ∀ (c : Nat) (q : vw_C), vwCl[c]? = some q → u_Kn s q.1 q.2.1 q.2.2 (D.1 c) (D.2 c) := by
  have h0 : ∀ c : Nat, ∃ p : ClassId × (Nat → Nat), ∀ q : vw_C, vwCl[c]? = some q → u_Kn s q.1 q.2.1 q.2.2 p.1 p.2 := by
    intro c
    cases hq : vwCl[c]? with
    | none => exact ⟨(0, fun _ => 0), fun q z => by cases z⟩
    | some r =>
      obtain ⟨p, hp⟩ := kn_at hts r (List.mem_of_getElem? hq)
      exact ⟨p, fun q z => by cases z; exact hp⟩
  obtain ⟨f, hf⟩ := Classical.axiomOfChoice h0
  exact ⟨(fun c => (f c).1, fun c => (f c).2), hf⟩
theorem ac_of {A : Array Value} {s : State} {ty : FieldType} (h : (Cond.arrayClass ty).before A s = true) : ∃ c : ClassId, ArrOfT s c ty ∧ s.vm.findClass ("[" ++ ty.toString) = some c := by
  obtain ⟨c, k, comp, h1, h2, h3⟩ := Cond.arrayClass_spec (args := A) (first := s) (o := none) (s := s) (idx := []) h
  exact ⟨c, fun n z => ⟨(fun k h => by cases h), k, h2, comp, h3⟩, h1⟩
theorem ao_of {A : Array Value} {s : State} {C : String} (h : (Cond.arrayOver (.object C)).before A s = true) : ∃ c : ClassId, ArrOfT s c (.object C) ∧ va_RA s c (.object C) := by
  obtain ⟨comp, c, k, h1, -, h2, h3, h4⟩ := Cond.arrayOver_spec (args := A) (first := s) (o := none) (s := s) (idx := []) h
  exact ⟨c, fun n z => ⟨(fun k h => by cases h), k, h2, comp, h3⟩, k, comp, h2, h3, h1, h4⟩
theorem tys_at {A : Array Value} {s : State} (hts : ∀ w ∈ lw_tbl, w.before A s = true) : ∃ tc : Nat → ClassId, ∀ (om : OM), om_tc om = tc → ∀ (k : Nat) (q : ClassId × FieldType), (om_ty om)[k]? = some q → ArrOfT s q.1 q.2 ∧ va_RA s q.1 q.2 := by
  obtain ⟨c0, a0, b0⟩ := ac_of (hts _ B_ai)
  obtain ⟨c1, a1, b1⟩ := ac_of (hts _ B_ab)
  obtain ⟨c2, a2, b2⟩ := ac_of (hts _ B_al)
  obtain ⟨c3, a3, b3⟩ := ao_of (hts _ B_ao)
  refine ⟨fun k => [c0, c1, c2, c3].getD k 0, fun om h k q hq => ?_⟩
  unfold om_ty at hq
  rw [h] at hq
  match k, hq with
  | 0, hq => cases hq; exact ⟨a0, b0⟩
  | 1, hq => cases hq; exact ⟨a1, b1⟩
  | 2, hq => cases hq; exact ⟨a2, b2⟩
  | 3, hq => cases hq; exact ⟨a3, b3⟩
  | k + 4, hq => simp at hq
/-- the context at the law's entry -/
theorem ctx_at {p : Program} {s : State} {m : MethodId} {meth : Method} {c : Code} {l : Launch} {b L : Nat} {xs : Nat → Int32} (hst : l.stackTraces = false) (A : lw_At p s m meth c b L xs) : ∃ om : OM, om_L om = L ∧ CtxOK om l M_L_law p room_1 s m #[Value.ref b] meth c ∧ om_z om = s.heap.size ∧ om_st om 0 = b ∧ va_P (om_D om) vwCl [] s.heap := by
  have hA := id A
  obtain ⟨a1, a2, a3, a4, a5, hts, hX, hb, a9, h, a11, a12⟩ := A
  obtain ⟨st, h0, hS⟩ := stat_at h hts hX hb
  obtain ⟨D, hD⟩ := D_at hts
  obtain ⟨tc, htc⟩ := tys_at hts
  refine ⟨(D, s.heap.size, st, tc, L, xs), rfl, ctx_of hst hA ⟨hD, htc _ rfl⟩ (hS _ rfl rfl rfl rfl) rfl (kw_at h hts), rfl, h0, fun k q hq => ?_⟩
  simp at hq
theorem whole_start0 {p : Program} {e : Env} {s : State} {m : MethodId} {below : List Frame} {meth : Method} {c : Code} (hN : NNq) (l : Launch) (hflags : l.flags = flags0) {b L : Nat} {xs : Nat → Int32} (hL : L ≤ 3072) (C0 : lw_At p s m meth c b L xs) : W p l e room_1 s m #[Value.ref b] below meth c s.heap [] 0 0 (lw_Z below #[Value.ref b] s) (entryFrame m ([Value.ref b] : List Value).toArray 9) := by
  obtain ⟨om, h1, h2, h3, h4, h5⟩ := ctx_at (st_of hflags) C0
  exact start_of (st_of hflags) hN (by rw [h1]; exact hL) h2 h3 h4 h5 C0.2.2.1 C0.2.1
