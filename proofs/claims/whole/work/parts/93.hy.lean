/-! what is constant, at the law's entry: the class's part of it -/
theorem len31 {A : Array Value} {s : State} {t : Term} {v : Value} (hv : (Term.length t).eval A s none [] s = some v) : ∃ (b : Addr) (cell : Cell), t.eval A s none [] s = some (.ref b) ∧ s.arrayAt? b = some cell ∧ cell.slots.size < 2 ^ 31 ∧ v = .int cell.slots.size.toInt32 := by
  obtain ⟨b, cell, ht, harr, h9⟩ := Term.length_spec hv
  refine ⟨b, cell, ht, harr, ?_, h9⟩
  simp only [Term.eval, ht, harr, Option.bind_eq_bind, Option.bind_some] at hv
  by_cases hlt : cell.slots.size < 2147483648
  · exact hlt
  · simp [hlt] at hv
theorem T_int {A : Array Value} {s : State} (h : (Jvm.Cond.and given_1 narrow_1).before A s = true) {C n : String} {N : Nat} {f : Nat → Int32} (hN : N < 2 ^ 31) (hT : tA C n N f) {P : Nat → Prop} (hP : ∀ a : Nat, a < s.heap.size → ¬ P a) : ∃ t : Nat, (Term.static C n "[I").eval A s none [] s = some (.ref t) ∧ va_T .int t N (fun j => .int (f j)) P s s.heap ∧ va_X t N f s s.heap ∧ ¬ P t := by
  have hl := va_eqt (nfw h hT.2.1)
  obtain ⟨t, ht, hv⟩ := va_Tof (f := fun j => .int (f j)) (A := P) hN (nfw h hT.1) hl (fun j hj => va_eqt (nfw h (hT.2.2 j hj))) hP
  obtain ⟨b, cell, hb, harr, h31, hsz⟩ := len31 hl
  cases ht.symm.trans hb
  obtain ⟨hcell, -, -, -⟩ := State.arrayAt?_spec harr
  obtain ⟨cell2, h1, h2, h3, h4, h5, h6, h7⟩ := id hv
  cases hcell.symm.trans h1
  refine ⟨t, ht, hv, ⟨cell, h1, h2, h3, ?_, h6⟩, h7⟩
  have e1 : Int32.ofNat cell.slots.size = Int32.ofNat N := h5
  have e2 := congrArg Int32.toInt e1
  rw [Int32.toInt_ofNat_of_lt h31, Int32.toInt_ofNat_of_lt hN] at e2
  omega
theorem va_T_congr {ty : FieldType} {t N : Nat} {f g : Nat → Value} {A : Nat → Prop} {U : State} {H : Heap} (h : va_T ty t N f A U H) (hf : ∀ j, j < N → f j = g j) : va_T ty t N g A U H := by
  obtain ⟨cell, h1, h2, h3, h4, h5, h6, h7⟩ := h
  exact ⟨cell, h1, h2, h3, h4, h5, fun j hj => by rw [h6 j hj, hf j hj], h7⟩
theorem pick9 {P : Nat → Nat → Prop} (h : ∀ i, i < 9 → ∃ t, P i t) : ∃ f : Nat → Nat, ∀ i, i < 9 → P i (f i) := by
  have h0 : ∀ i : Nat, ∃ t : Nat, i < 9 → P i t := fun i => by
    by_cases hi : i < 9
    · obtain ⟨t, ht⟩ := h i hi
      exact ⟨t, fun _ => ht⟩
    · exact ⟨0, fun z => absurd z hi⟩
  obtain ⟨f, hf⟩ := Classical.axiomOfChoice h0
  exact ⟨f, hf⟩
def stF (b t1 t2 t3 t4 t5 fm : Nat) (W K V : Nat → Nat) (k : Nat) : Nat := if k < 10 then [b, t1, t2, t3, t4, t5].getD k 0 else if k < 20 then W (k - 10) else if k < 30 then K (k - 20) else if k < 50 then V (k - 30) else fm
theorem ca_k (om : OM) (k : Nat) : ca om (100000 + k) = om_st om k := by
  unfold ca
  rw [if_neg (by omega), Nat.add_sub_cancel_left]
theorem ca_W {om : OM} {b t1 t2 t3 t4 t5 fm : Nat} {W K V : Nat → Nat} (h : om_st om = stF b t1 t2 t3 t4 t5 fm W K V) {i : Nat} (hi : i < 9) : ca om (100010 + i) = W i := by
  rw [show 100010 + i = 100000 + (10 + i) by omega, ca_k, h]
  unfold stF
  rw [if_neg (by omega), if_pos (by omega), Nat.add_sub_cancel_left]
theorem ca_K {om : OM} {b t1 t2 t3 t4 t5 fm : Nat} {W K V : Nat → Nat} (h : om_st om = stF b t1 t2 t3 t4 t5 fm W K V) {i : Nat} (hi : i < 9) : ca om (100020 + i) = K i := by
  rw [show 100020 + i = 100000 + (20 + i) by omega, ca_k, h]
  unfold stF
  rw [if_neg (by omega), if_neg (by omega), if_pos (by omega), Nat.add_sub_cancel_left]
theorem ca_V {om : OM} {b t1 t2 t3 t4 t5 fm : Nat} {W K V : Nat → Nat} (h : om_st om = stF b t1 t2 t3 t4 t5 fm W K V) {i : Nat} (hi : i < 9) : ca om (100030 + i) = V i := by
  rw [show 100030 + i = 100000 + (30 + i) by omega, ca_k, h]
  unfold stF
  rw [if_neg (by omega), if_neg (by omega), if_neg (by omega), if_pos (by omega), Nat.add_sub_cancel_left]
theorem ca_c {om : OM} {b t1 t2 t3 t4 t5 fm : Nat} {W K V : Nat → Nat} (h : om_st om = stF b t1 t2 t3 t4 t5 fm W K V) {i : Nat} (hi : i < 10) : ca om (100000 + i) = [b, t1, t2, t3, t4, t5].getD i 0 := by
  rw [ca_k, h]
  unfold stF
  rw [if_pos hi]
theorem ca_f {om : OM} {b t1 t2 t3 t4 t5 fm : Nat} {W K V : Nat → Nat} (h : om_st om = stF b t1 t2 t3 t4 t5 fm W K V) : ca om 100050 = fm := by
  rw [show 100050 = 100000 + 50 by omega, ca_k, h]
  unfold stF
  rw [if_neg (by omega), if_neg (by omega), if_neg (by omega), if_neg (by omega)]
theorem va_X_T {b L : Nat} {xs : Nat → Int32} {s : State} {P : Nat → Prop} (hX : va_X b L xs s s.heap) (hb : ¬ P b) : va_T .int b L (fun j => .int (xs j)) P s s.heap := by
  obtain ⟨scr, h1, h2, h3, h4, h5⟩ := hX
  exact ⟨scr, h1, h2, h3, Nat.le_of_eq h4.symm, by rw [h4], h5, hb⟩
set_option maxHeartbeats 1000000 in
theorem stat_at {A : Array Value} {s : State} {b L : Nat} {xs : Nat → Int32} (h : (Jvm.Cond.and given_1 narrow_1).before A s = true) (hts : ∀ w ∈ lw_tbl, w.before A s = true) (hX : va_X b L xs s s.heap) (hb : b < s.heap.size) : ∃ st : Nat → Nat, st 0 = b ∧ ∀ om : OM, om_z om = s.heap.size → om_st om = st → om_L om = L → om_xs om = xs → Stat om s s.heap := by
  have hA : ∀ a : Nat, a < s.heap.size → ¬ (fun q : Nat => s.heap.size ≤ q) a := fun a ha => Nat.not_le.mpr ha
  obtain ⟨t1, e1, T1, X1, n1⟩ := T_int h (Nat.le_of_ble_eq_true rfl) tA_first hA
  obtain ⟨t2, e2, T2, -, -⟩ := T_int h (Nat.le_of_ble_eq_true rfl) tA_least hA
  obtain ⟨t3, e3, T3, -, -⟩ := T_int h (Nat.le_of_ble_eq_true rfl) tA_most hA
  obtain ⟨t4, e4, T4, -, -⟩ := T_int h (Nat.le_of_ble_eq_true rfl) tA_map hA
  obtain ⟨W, hW⟩ := pick9 (P := fun i t => (wdT i).eval A s none [] s = some (.ref t)) (fun i hi => by
    obtain ⟨a, c, cell, k, q1, -⟩ := Cond.exactly_spec (args := A) (first := s) (o := none) (s := s) (idx := []) (nfw h (N_ex i hi))
    exact ⟨a, q1⟩)
  obtain ⟨K, hK⟩ := pick9 (P := fun i t => (wdS i).eval A s none [] s = some (.ref t)) (fun i hi => by
    obtain ⟨a, c, cell, k, q1, -⟩ := Cond.exactly_spec (args := A) (first := s) (o := none) (s := s) (idx := []) (nfw h (N_sx i hi))
    exact ⟨a, q1⟩)
  obtain ⟨V, hV⟩ := pick9 (P := fun i t => (wdV i).eval A s none [] s = some (.ref t) ∧ va_T .byte t (c_txt.getD i []).length (fun j => .int ((c_txt.getD i []).getD j 0)) (fun q : Nat => s.heap.size ≤ q) s s.heap) (fun i hi => va_Tof (f := fun j => .int ((c_txt.getD i []).getD j 0)) (N_tl i hi) (nfw h (N_sa i hi)) (va_eqt (nfw h (N_sl i hi))) (fun j hj => va_eqt (nfw h (N_se i hi j hj))) hA)
  obtain ⟨t5, e5, T5⟩ := va_Tof (f := fun j => .ref (W j)) (A := fun q : Nat => s.heap.size ≤ q) (N := 9) (Nat.le_of_ble_eq_true rfl) (nfw h N_wa) (va_eqt (nfw h N_wl)) (fun j hj => va_eqv (nfw h (N_we j hj)) (hW j hj)) hA
  obtain ⟨fm, hfm⟩ : ∃ fm : Nat, va_Z "jdk/internal/util/Preconditions" "SIOOBE_FORMATTER" "Ljava/util/function/BiFunction;" .null (fun q : Nat => s.heap.size ≤ q) s s.heap ∨ va_Z "jdk/internal/util/Preconditions" "SIOOBE_FORMATTER" "Ljava/util/function/BiFunction;" (.ref fm) (fun q : Nat => s.heap.size ≤ q) s s.heap := by
    rcases va_Zqof (A := fun q : Nat => s.heap.size ≤ q) (hts _ B_fm.1) (hts _ B_fm.2) (nfw h N_fm) hA with z | ⟨t, z⟩
    · exact ⟨0, Or.inl z⟩
    · exact ⟨t, Or.inr z⟩
  refine ⟨stF b t1 t2 t3 t4 t5 fm W K V, rfl, fun om hz hst hL hxs => ?_⟩
  have hAZ : AZ om = fun q : Nat => s.heap.size ≤ q := by
    show (fun q : Nat => om_z om ≤ q) = _
    rw [hz]
  have c0 : ca om 100000 = b := ca_c hst (i := 0) (by decide)
  have c1 : ca om 100001 = t1 := ca_c hst (i := 1) (by decide)
  have c2 : ca om 100002 = t2 := ca_c hst (i := 2) (by decide)
  have c3 : ca om 100003 = t3 := ca_c hst (i := 3) (by decide)
  have c4 : ca om 100004 = t4 := ca_c hst (i := 4) (by decide)
  have c5 : ca om 100005 = t5 := ca_c hst (i := 5) (by decide)
  have c50 : ca om 100050 = fm := ca_f hst
  unfold Stat
  rw [hAZ]
  refine ⟨?_, ?_, ?_, ?_, ?_, ?_, ?_, ?_, ?_⟩
  · refine List.forall_mem_cons.mpr ⟨?_, List.forall_mem_cons.mpr ⟨?_, List.forall_mem_cons.mpr ⟨?_, List.forall_mem_cons.mpr ⟨?_, List.forall_mem_cons.mpr ⟨?_, List.forall_mem_cons.mpr ⟨?_, fun _ z => absurd z List.not_mem_nil⟩⟩⟩⟩⟩⟩
    · show va_Z _ _ _ (.ref (ca om 100001)) _ _ _
      rw [c1]
      exact va_Zof (hts _ B_first.1) (hts _ B_first.2) e1 hA
    · show va_Z _ _ _ (.ref (ca om 100002)) _ _ _
      rw [c2]
      exact va_Zof (hts _ B_least.1) (hts _ B_least.2) e2 hA
    · show va_Z _ _ _ (.ref (ca om 100003)) _ _ _
      rw [c3]
      exact va_Zof (hts _ B_most.1) (hts _ B_most.2) e3 hA
    · show va_Z _ _ _ (.ref (ca om 100004)) _ _ _
      rw [c4]
      exact va_Zof (hts _ B_map.1) (hts _ B_map.2) e4 hA
    · show va_Z _ _ _ (.ref (ca om 100005)) _ _ _
      rw [c5]
      exact va_Zof (hts _ B_words.1) (hts _ B_words.2) e5 hA
    · exact va_Zof (hts _ B_cs.1) (hts _ B_cs.2) (va_eqi (nfw h N_cs)) hA
  · refine List.forall_mem_cons.mpr ⟨?_, List.forall_mem_append.mpr ⟨List.forall_mem_cons.mpr ⟨?_, List.forall_mem_cons.mpr ⟨?_, List.forall_mem_cons.mpr ⟨?_, List.forall_mem_cons.mpr ⟨?_, List.forall_mem_cons.mpr ⟨?_, fun _ z => absurd z List.not_mem_nil⟩⟩⟩⟩⟩, ?_⟩⟩
    · show va_T .int (ca om 100000) (om_L om) (fun j => .int (om_xs om j)) _ s s.heap
      rw [c0, hL, hxs]
      exact va_X_T hX (hA b hb)
    · show va_T .int (ca om 100001) 12 (fun j => .int (c_first.getD j 0)) _ s s.heap
      rw [c1]; exact T1
    · show va_T .int (ca om 100002) 12 (fun j => .int (c_least.getD j 0)) _ s s.heap
      rw [c2]; exact T2
    · show va_T .int (ca om 100003) 12 (fun j => .int (c_most.getD j 0)) _ s s.heap
      rw [c3]; exact T3
    · show va_T .int (ca om 100004) 9 (fun j => .int (nI (j + 1))) _ s s.heap
      rw [c4]; exact T4
    · show va_T (.object "EchoGauge$Word") (ca om 100005) 9 (fun j => .ref (ca om (100010 + j))) _ s s.heap
      rw [c5]
      exact va_T_congr T5 (fun j hj => by rw [ca_W hst hj])
    · intro q hq
      obtain ⟨i, hi, rfl⟩ := List.mem_map.mp hq
      have hi := List.mem_range.mp hi
      show va_T .byte (ca om (100030 + i)) (c_txt.getD i []).length (fun j => .int ((c_txt.getD i []).getD j 0)) _ s s.heap
      rw [ca_V hst hi]
      exact (hV i hi).2
  · refine List.forall_mem_append.mpr ⟨?_, ?_⟩
    · intro q hq
      obtain ⟨i, hi, rfl⟩ := List.mem_map.mp hq
      have hi := List.mem_range.mp hi
      show va_O "EchoGauge$Word" (ca om (100010 + i)) _ s s.heap
      rw [ca_W hst hi]
      exact va_Oof (nfw h (N_ex i hi)) (hW i hi) hA
    · intro q hq
      obtain ⟨i, hi, rfl⟩ := List.mem_map.mp hq
      have hi := List.mem_range.mp hi
      show va_O "java/lang/String" (ca om (100020 + i)) _ s s.heap
      rw [ca_K hst hi]
      exact va_Oof (nfw h (N_sx i hi)) (hK i hi) hA
  · refine List.forall_mem_append.mpr ⟨List.forall_mem_append.mpr ⟨List.forall_mem_append.mpr ⟨List.forall_mem_append.mpr ⟨?_, ?_⟩, ?_⟩, ?_⟩, ?_⟩
    · intro q hq
      obtain ⟨i, hi, rfl⟩ := List.mem_map.mp hq
      have hi := List.mem_range.mp hi
      show va_OF "EchoGauge$Word" "text" "Ljava/lang/String;" (.ref (ca om (100020 + i))) (ca om (100010 + i)) _ s s.heap
      rw [ca_W hst hi, ca_K hst hi]
      exact vk_OFof (hW i hi) (va_eqv (nfw h (N_tx i hi)) (hK i hi)) hA
    · intro q hq
      obtain ⟨i, hi, rfl⟩ := List.mem_map.mp hq
      have hi := List.mem_range.mp hi
      show va_OF "EchoGauge$Word" "numbers" "I" (.int (c_num.getD i 0)) (ca om (100010 + i)) _ s s.heap
      rw [ca_W hst hi]
      exact vk_OFof (hW i hi) (va_eqt (nfw h (N_nu i hi))) hA
    · intro q hq
      obtain ⟨i, hi, rfl⟩ := List.mem_map.mp hq
      have hi := List.mem_range.mp hi
      show va_OF "java/lang/Enum" "ordinal" "I" (.int (nI i)) (ca om (100010 + i)) _ s s.heap
      rw [ca_W hst hi]
      exact vk_OFof (hW i hi) (va_eqt (nfw h (N_or i hi))) hA
    · intro q hq
      obtain ⟨i, hi, rfl⟩ := List.mem_map.mp hq
      have hi := List.mem_range.mp hi
      show va_OF "java/lang/String" "value" "[B" (.ref (ca om (100030 + i))) (ca om (100020 + i)) _ s s.heap
      rw [ca_K hst hi, ca_V hst hi]
      exact vk_OFof (hK i hi) (hV i hi).1 hA
    · intro q hq
      obtain ⟨i, hi, rfl⟩ := List.mem_map.mp hq
      have hi := List.mem_range.mp hi
      show va_OF "java/lang/String" "coder" "B" (.int 0) (ca om (100020 + i)) _ s s.heap
      rw [ca_K hst hi]
      exact vk_OFof (hK i hi) (va_eqt (nfw h (N_sc i hi))) hA
  · rw [c50]; exact hfm
  · exact vx_Zqof (hts _ B_us.1) (hts _ B_us.2) (nfw h N_us) hA
  · exact vx_Zqof (hts _ B_ss.1) (hts _ B_ss.2) (nfw h N_ss) hA
  · rw [c1]; exact X1
  · rw [c1]; exact n1
