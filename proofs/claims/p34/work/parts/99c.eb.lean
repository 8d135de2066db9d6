/-! the other end: words of the Statement, what is constant, the context at the law's entry -/
theorem ctx_of {om : OM} {p : Program} {s : State} {m : MethodId} {meth : Method} {c : Code} {l : Launch} {b L : Nat} {xs : Nat → Int32} (hst : l.stackTraces = false) (A : lw_At p s m meth c b L xs) (hK : va_K (om_D om) vwCl (om_ty om) s) (hS : Stat om s s.heap) (hz : om_z om = s.heap.size) (hW : KW s) : CtxOK om l M_L_law p room_1 s m #[Value.ref b] meth c := by
  obtain ⟨a1, a2, a3, a4, a5, a6, a7, a8, a9, a10, a11, a12⟩ := A
  exact ⟨a1, a2, a4, a5, fun w hw => a6 w (List.mem_filter.mp hw).1, a9, a3, a11, a12, by decide, by decide, hK, hS, Nat.le_of_eq hz, hst, hW⟩

theorem st_of {l : Launch} (hflags : l.flags = flags0) : l.stackTraces = false := by
  unfold Launch.stackTraces
  rw [hflags]
  decide

def NF : List Cond := flatC (Jvm.Cond.and given_1 narrow_1)
theorem nfw {A : Array Value} {s : State} (h : (Jvm.Cond.and given_1 narrow_1).before A s = true) {w : Cond} (hw : w ∈ NF) : w.before A s = true := flat_of_before _ h w hw
def tA (C n : String) (N : Nat) (f : Nat → Int32) : Prop := Cond.arrayOf (.static C n "[I") .int ∈ NF ∧ Cond.eq (.length (.static C n "[I")) (.int (Int32.ofNat N)) ∈ NF ∧ ∀ j, j < N → Cond.eq (.elem (.static C n "[I") (.int (Int32.ofNat j))) (.int (f j)) ∈ NF
theorem tA_first : tA "EchoGauge$Settings" "FIRST" 12 (fun j => c_first.getD j 0) := ⟨by decide +kernel, by decide +kernel, by decide +kernel⟩
theorem tA_least : tA "EchoGauge$Settings" "LEAST" 12 (fun j => c_least.getD j 0) := ⟨by decide +kernel, by decide +kernel, by decide +kernel⟩
theorem tA_most : tA "EchoGauge$Settings" "MOST" 12 (fun j => c_most.getD j 0) := ⟨by decide +kernel, by decide +kernel, by decide +kernel⟩
theorem N_us : Cond.isRef (.static Bundle.tN "UNASSIGNED_STACK" Bundle.steD) ∈ NF := by decide +kernel
theorem N_ss : Cond.isRef (.static Bundle.tN "SUPPRESSED_SENTINEL" Bundle.listD) ∈ NF := by decide +kernel
theorem N_str : ∀ q ∈ str_l, Cond.exactly (.string q.1 q.2.1) "java/lang/String" ∈ NF := by decide +kernel
theorem B_str : ∀ q ∈ str_l, Cond.stringRef q.1 q.2.1 q.2.2 ∈ lw_tbl := by decide +kernel
def laid (C n d : String) : Prop := Cond.laysStatic C n d ∈ lw_tbl ∧ Cond.initialized C ∈ lw_tbl
theorem B_first : laid "EchoGauge$Settings" "FIRST" "[I" := ⟨by decide +kernel, by decide +kernel⟩
theorem B_least : laid "EchoGauge$Settings" "LEAST" "[I" := ⟨by decide +kernel, by decide +kernel⟩
theorem B_most : laid "EchoGauge$Settings" "MOST" "[I" := ⟨by decide +kernel, by decide +kernel⟩
theorem B_us : laid Bundle.tN "UNASSIGNED_STACK" Bundle.steD := ⟨by decide +kernel, by decide +kernel⟩
theorem B_ss : laid Bundle.tN "SUPPRESSED_SENTINEL" Bundle.listD := ⟨by decide +kernel, by decide +kernel⟩
theorem B_ai : Cond.arrayClass .int ∈ lw_tbl := by decide +kernel
theorem B_ab : Cond.arrayClass .byte ∈ lw_tbl := by decide +kernel
theorem B_al : Cond.arrayClass .long ∈ lw_tbl := by decide +kernel
theorem B_ao : Cond.arrayOver (.object "EchoGauge$State") ∈ lw_tbl := by decide +kernel

theorem len31 {A : Array Value} {s : State} {t : Term} {v : Value} (hv : (Term.length t).eval A s none [] s = some v) : ∃ (b : Addr) (cell : Cell), t.eval A s none [] s = some (.ref b) ∧ s.arrayAt? b = some cell ∧ cell.slots.size < 2 ^ 31 ∧ v = .int cell.slots.size.toInt32 := by
  obtain ⟨b, cell, ht, harr, h9⟩ := Term.length_spec hv
  refine ⟨b, cell, ht, harr, ?_, h9⟩
  simp only [Term.eval, ht, harr, Option.bind_eq_bind, Option.bind_some] at hv
  by_cases hlt : cell.slots.size < 2147483648
  · exact hlt
  · simp [hlt] at hv
theorem T_int {A : Array Value} {s : State} (h : (Jvm.Cond.and given_1 narrow_1).before A s = true) {C n : String} {N : Nat} {f : Nat → Int32} (hN : N < 2 ^ 31) (hT : tA C n N f) {P : Nat → Prop} (hP : ∀ a : Nat, a < s.heap.size → ¬ P a) : ∃ t : Nat, (Term.static C n "[I").eval A s none [] s = some (.ref t) ∧ va_T .int t N (fun j => .int (f j)) P s s.heap ∧ va_X t N f s s.heap ∧ ¬ P t := by
  have hl := va_eqt (nfw h hT.2.1)
  obtain ⟨t, ht, hv⟩ := va_Tof (f := fun j => .int (f j)) (A := P) hN (nfw h hT.1) hl (fun j hj => va_eqt (nfw h (hT.2.2 j hj))) hP
  obtain ⟨b, cell, hb, harr, h31, hsz⟩ := len31 hl
  cases ht.symm.trans hb
  obtain ⟨hcell, -, -, -⟩ := State.arrayAt?_spec harr
  obtain ⟨cell2, h1, h2, h3, h4, h5, h6, h7⟩ := id hv
  cases hcell.symm.trans h1
  refine ⟨t, ht, hv, ⟨cell, h1, h2, h3, ?_, h6⟩, h7⟩
  have e1 : Int32.ofNat cell.slots.size = Int32.ofNat N := h5
  have e2 := congrArg Int32.toInt e1
  rw [Int32.toInt_ofNat_of_lt h31, Int32.toInt_ofNat_of_lt hN] at e2
  omega
theorem ca_k (om : OM) (k : Nat) : ca om (100000 + k) = om_st om k := by
  unfold ca
  rw [if_neg (by omega), Nat.add_sub_cancel_left]
theorem va_X_T {b L : Nat} {xs : Nat → Int32} {s : State} {P : Nat → Prop} (hX : va_X b L xs s s.heap) (hb : ¬ P b) : va_T .int b L (fun j => .int (xs j)) P s s.heap := by
  obtain ⟨scr, h1, h2, h3, h4, h5⟩ := hX
  exact ⟨scr, h1, h2, h3, Nat.le_of_eq h4.symm, by rw [h4], h5, hb⟩
def stF (b t1 t2 t3 : Nat) (k : Nat) : Nat := [b, t1, t2, t3].getD k 0
theorem ca_c {om : OM} {b t1 t2 t3 : Nat} (h : om_st om = stF b t1 t2 t3) {i : Nat} : ca om (100000 + i) = [b, t1, t2, t3].getD i 0 := by
  rw [ca_k, h]
  rfl
theorem stat_at {A : Array Value} {s : State} {b L : Nat} {xs : Nat → Int32} (h : (Jvm.Cond.and given_1 narrow_1).before A s = true) (hts : ∀ w ∈ lw_tbl, w.before A s = true) (hX : va_X b L xs s s.heap) (hb : b < s.heap.size) : ∃ st : Nat → Nat, st 0 = b ∧ ∀ om : OM, om_z om = s.heap.size → om_st om = st → om_L om = L → om_xs om = xs → Stat om s s.heap := by
  have hA : ∀ a : Nat, a < s.heap.size → ¬ (fun q : Nat => s.heap.size ≤ q) a := fun a ha => Nat.not_le.mpr ha
  obtain ⟨t1, e1, T1, X1, n1⟩ := T_int h (Nat.le_of_ble_eq_true rfl) tA_first hA
  obtain ⟨t2, e2, T2, -, -⟩ := T_int h (Nat.le_of_ble_eq_true rfl) tA_least hA
  obtain ⟨t3, e3, T3, -, -⟩ := T_int h (Nat.le_of_ble_eq_true rfl) tA_most hA
  refine ⟨stF b t1 t2 t3, rfl, fun om hz hst hL hxs => ?_⟩
  have hAZ : AZ om = fun q : Nat => s.heap.size ≤ q := by
    show (fun q : Nat => om_z om ≤ q) = _
    rw [hz]
  have c0 : ca om 100000 = b := ca_c hst (i := 0)
  have c1 : ca om 100001 = t1 := ca_c hst (i := 1)
  have c2 : ca om 100002 = t2 := ca_c hst (i := 2)
  have c3 : ca om 100003 = t3 := ca_c hst (i := 3)
  unfold Stat
  rw [hAZ]
  refine ⟨?_, ?_, fun _ z => absurd z List.not_mem_nil, fun _ z => absurd z List.not_mem_nil, trivial, ?_, ?_, ?_, ?_⟩
  · refine List.forall_mem_cons.mpr ⟨?_, List.forall_mem_cons.mpr ⟨?_, List.forall_mem_cons.mpr ⟨?_, fun _ z => absurd z List.not_mem_nil⟩⟩⟩
    · show va_Z _ _ _ (.ref (ca om 100001)) _ _ _
      rw [c1]
      exact va_Zof (hts _ B_first.1) (hts _ B_first.2) e1 hA
    · show va_Z _ _ _ (.ref (ca om 100002)) _ _ _
      rw [c2]
      exact va_Zof (hts _ B_least.1) (hts _ B_least.2) e2 hA
    · show va_Z _ _ _ (.ref (ca om 100003)) _ _ _
      rw [c3]
      exact va_Zof (hts _ B_most.1) (hts _ B_most.2) e3 hA
  · refine List.forall_mem_cons.mpr ⟨?_, List.forall_mem_cons.mpr ⟨?_, List.forall_mem_cons.mpr ⟨?_, List.forall_mem_cons.mpr ⟨?_, fun _ z => absurd z List.not_mem_nil⟩⟩⟩⟩
    · show va_T .int (ca om 100000) (om_L om) (fun j => .int (om_xs om j)) _ s s.heap
      rw [c0, hL, hxs]
      exact va_X_T hX (hA b hb)
    · show va_T .int (ca om 100001) 12 (fun j => .int (c_first.getD j 0)) _ s s.heap
      rw [c1]; exact T1
    · show va_T .int (ca om 100002) 12 (fun j => .int (c_least.getD j 0)) _ s s.heap
      rw [c2]; exact T2
    · show va_T .int (ca om 100003) 12 (fun j => .int (c_most.getD j 0)) _ s s.heap
      rw [c3]; exact T3
  · exact vx_Zqof (hts _ B_us.1) (hts _ B_us.2) (nfw h N_us) hA
  · exact vx_Zqof (hts _ B_ss.1) (hts _ B_ss.2) (nfw h N_ss) hA
  · rw [c1]; exact X1
  · rw [c1]; exact n1
theorem okN_tabs {w : Cond} (h : okN w = true) {A : Array Value} {s : State} (hb : w.before A s = true) : va_Nw w s := by
  cases w with
  | methodLinkNest => exact va_Nw.of rfl hb
  | castable => exact va_Nw.of rfl hb
  | declares => exact va_Nw.of rfl hb
  | arrayOver t =>
    cases t with
    | object C => exact va_AO.of hb
    | _ => cases h
  | _ => cases h
theorem kw_at {A : Array Value} {s : State} (h : (Jvm.Cond.and given_1 narrow_1).before A s = true) (hts : ∀ w ∈ lw_tbl, w.before A s = true) : KW s := by
  refine ⟨fun w hw => ?_, fun q hq => ?_, fun q hq => absurd hq List.not_mem_nil⟩
  · obtain ⟨h1, h2⟩ := List.mem_filter.mp hw
    exact okN_tabs h2 (hts w h1)
  · obtain ⟨a, c, cell, k, q1, -⟩ := Cond.exactly_spec (args := A) (first := s) (o := none) (s := s) (idx := []) (nfw h (N_str q hq))
    exact ⟨a, vk_R.of (hts _ (B_str q hq)) q1⟩
theorem ins_of {A : Array Value} {s : State} (hts : ∀ w ∈ lw_tbl, w.before A s = true) {ci n : Nat} {C : String} {T : u_T} {N : Nat} {ty : Nat → FieldType} (hC : CLF ci C T N ty) (hi : Cond.instantiable C n ∈ lw_tbl) : ∃ p : ClassId × (Nat → Nat), u_Kn s C T N p.1 p.2 := by
  obtain ⟨a, b, hk⟩ := u_known (ws := lw_tbl) hts (fun w hw => (List.mem_filter.mp (hC.2.1 w hw)).1) (hts _ hi)
  exact ⟨(a, b), hk⟩
theorem kn_at {A : Array Value} {s : State} (hts : ∀ w ∈ lw_tbl, w.before A s = true) : ∀ q ∈ vwCl, ∃ p : ClassId × (Nat → Nat), u_Kn s q.1 q.2.1 q.2.2 p.1 p.2 :=
  List.forall_mem_cons.mpr ⟨ins_of (n := 5) hts clf_0 (by decide +kernel), List.forall_mem_cons.mpr ⟨ins_of (n := 2) hts clf_1 (by decide +kernel), List.forall_mem_cons.mpr ⟨ins_of (n := 5) hts clf_2 (by decide +kernel), List.forall_mem_cons.mpr ⟨ins_of (n := 9) hts clf_3 (by decide +kernel), List.forall_mem_cons.mpr ⟨ins_of (n := 2) hts clf_4 (by decide +kernel), List.forall_mem_cons.mpr ⟨ins_of (n := 1) hts clf_5 (by decide +kernel), List.forall_mem_cons.mpr ⟨ins_of (n := 7) hts clf_6 (by decide +kernel), List.forall_mem_cons.mpr ⟨ins_of (n := 14) hts clf_7 (by decide +kernel), List.forall_mem_cons.mpr ⟨ins_of (n := 6) hts clf_8 (by decide +kernel), fun _ z => absurd z List.not_mem_nil⟩⟩⟩⟩⟩⟩⟩⟩⟩
theorem D_at {A : Array Value} {s : State} (hts : ∀ w ∈ lw_tbl, w.before A s = true) : ∃ D : va_G, ∀ (c : Nat) (q : vw_C), vwCl[c]? = some q → u_Kn s q.1 q.2.1 q.2.2 (D.1 c) (D.2 c) := by
  have h0 : ∀ c : Nat, ∃ p : ClassId × (Nat → Nat), ∀ q : vw_C, vwCl[c]? = some q → u_Kn s q.1 q.2.1 q.2.2 p.1 p.2 := by
    intro c
    cases hq : vwCl[c]? with
    | none => exact ⟨(0, fun _ => 0), fun q z => by cases z⟩
    | some r =>
      obtain ⟨p, hp⟩ := kn_at hts r (List.mem_of_getElem? hq)
      exact ⟨p, fun q z => by cases z; exact hp⟩
  obtain ⟨f, hf⟩ := Classical.axiomOfChoice h0
  exact ⟨(fun c => (f c).1, fun c => (f c).2), hf⟩
theorem ac_of {A : Array Value} {s : State} {ty : FieldType} (h : (Cond.arrayClass ty).before A s = true) : ∃ c : ClassId, ArrOfT s c ty ∧ s.vm.findClass ("[" ++ ty.toString) = some c := by
  obtain ⟨c, k, comp, h1, h2, h3⟩ := Cond.arrayClass_spec (args := A) (first := s) (o := none) (s := s) (idx := []) h
  exact ⟨c, fun n z => ⟨(fun k h => by cases h), k, h2, comp, h3⟩, h1⟩
theorem ao_of {A : Array Value} {s : State} {C : String} (h : (Cond.arrayOver (.object C)).before A s = true) : ∃ c : ClassId, ArrOfT s c (.object C) ∧ va_RA s c (.object C) := by
  obtain ⟨comp, c, k, h1, -, h2, h3, h4⟩ := Cond.arrayOver_spec (args := A) (first := s) (o := none) (s := s) (idx := []) h
  exact ⟨c, fun n z => ⟨(fun k h => by cases h), k, h2, comp, h3⟩, k, comp, h2, h3, h1, h4⟩
theorem tys_at {A : Array Value} {s : State} (hts : ∀ w ∈ lw_tbl, w.before A s = true) : ∃ tc : Nat → ClassId, ∀ (om : OM), om_tc om = tc → ∀ (k : Nat) (q : ClassId × FieldType), (om_ty om)[k]? = some q → ArrOfT s q.1 q.2 ∧ va_RA s q.1 q.2 := by
  obtain ⟨c0, a0, b0⟩ := ac_of (hts _ B_ai)
  obtain ⟨c1, a1, b1⟩ := ac_of (hts _ B_ab)
  obtain ⟨c2, a2, b2⟩ := ac_of (hts _ B_al)
  obtain ⟨c3, a3, b3⟩ := ao_of (hts _ B_ao)
  refine ⟨fun k => [c0, c1, c2, c3].getD k 0, fun om h k q hq => ?_⟩
  unfold om_ty at hq
  rw [h] at hq
  match k, hq with
  | 0, hq => cases hq; exact ⟨a0, b0⟩
  | 1, hq => cases hq; exact ⟨a1, b1⟩
  | 2, hq => cases hq; exact ⟨a2, b2⟩
  | 3, hq => cases hq; exact ⟨a3, b3⟩
  | k + 4, hq => simp at hq
theorem ctx_at {p : Program} {s : State} {m : MethodId} {meth : Method} {c : Code} {l : Launch} {b L : Nat} {xs : Nat → Int32} (hst : l.stackTraces = false) (A : lw_At p s m meth c b L xs) : ∃ om : OM, om_L om = L ∧ CtxOK om l M_L_law p room_1 s m #[Value.ref b] meth c ∧ om_z om = s.heap.size ∧ om_st om 0 = b ∧ va_P (om_D om) vwCl [] s.heap := by
  have hA := id A
  obtain ⟨a1, a2, a3, a4, a5, hts, hX, hb, a9, h, a11, a12⟩ := A
  obtain ⟨st, h0, hS⟩ := stat_at h hts hX hb
  obtain ⟨D, hD⟩ := D_at hts
  obtain ⟨tc, htc⟩ := tys_at hts
  refine ⟨(D, s.heap.size, st, tc, L, xs), rfl, ctx_of hst hA ⟨hD, htc _ rfl⟩ (hS _ rfl rfl rfl rfl) rfl (kw_at h hts), rfl, h0, fun k q hq => ?_⟩
  simp at hq
theorem start_of {om : OM} {p : Program} {e : Env} {s : State} {m : MethodId} {below : List Frame} {meth : Method} {c : Code} {l : Launch} {b : Nat} (hst : l.stackTraces = false) (hL : om_L om ≤ 260) (C : CtxOK om l M_L_law p room_1 s m #[Value.ref b] meth c) (hz : om_z om = s.heap.size) (hb : om_st om 0 = b) (hD : va_P (om_D om) vwCl [] s.heap) (hr : meth.sig.returnType = ret) (hc9 : c.code = code) : W p l e room_1 s m #[Value.ref b] below meth c s.heap [] 0 0 (lw_Z below #[Value.ref b] s) (entryFrame m ([Value.ref b] : List Value).toArray 13) := by
  have hlv := lv_entry [Value.ref b] (n := 13) (Nat.le_of_ble_eq_true rfl)
  rw [lg_entry_eq]
  generalize (lg_sl [Value.ref b] ++ List.replicate (13 - (lg_sl [Value.ref b]).length) Slot.unset).toArray = ls at hlv ⊢
  refine law_all hst hL p e room_1 s m _ below meth c s.heap [] 0 0 _ ls C ⟨⟨hD, fun _ _ => rfl, Nat.zero_le _⟩, va_S.rf, fun _ => by rw [hz]; rfl⟩ ?_ (by decide) (by decide) ?_ (Or.inr (fun E h1 z => by cases z))
  · show lv_has ls 13 (ent om 0 (argL [.ref 100000] ++ List.replicate 12 none))
    rw [ent_arg]
    show lv_has ls 13 (lv_args 0 [.ref (om_st om 0)])
    rw [hb]
    exact hlv
  · intro o h1 H1 locs1 cells1 slots1 pc1 ls1 hp hS hS1 hc hs hR
    cases hp
    refine va_forget (fun q hq => ?_) ?_
    · have h2 : om_z om ≤ q.base := hS1.2.2 q hq
      rw [hz] at h2
      exact h2
    refine W.widen (k := 600086) (n := 7301441) hc hs ?_
    exact lw_ret C.1 hc9 hr C.2.2.2.2.2.1 hR.1

theorem whole_start0 {p : Program} {e : Env} {s : State} {m : MethodId} {below : List Frame} {meth : Method} {c : Code} (l : Launch) (hflags : l.flags = flags0) {b L : Nat} {xs : Nat → Int32} (hL : L ≤ 260) (C0 : lw_At p s m meth c b L xs) : W p l e room_1 s m #[Value.ref b] below meth c s.heap [] 0 0 (lw_Z below #[Value.ref b] s) (entryFrame m ([Value.ref b] : List Value).toArray 13) := by
  obtain ⟨om, h1, h2, h3, h4, h5⟩ := ctx_at (st_of hflags) C0
  exact start_of (st_of hflags) (by rw [h1]; exact hL) h2 h3 h4 h5 C0.2.2.1 C0.2.1

