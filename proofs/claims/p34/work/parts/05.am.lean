/-! AN ABSTRACT MACHINE over the kit's walk: refs are indices; a judgement 'Runs' that says: from every machine state that stands for (pc, locals, stack, heap) the method comes to an end that Post allows. Its rows (next parts) are proved once, for every method. -/
abbrev MI : Type := MethodName × ByteArray × Nat × Option FieldType × List (Nat × Nat × Nat × Nat) × Nat × Nat
abbrev mi_nm (M : MI) : MethodName := M.1
abbrev mi_by (M : MI) : ByteArray := M.2.1
abbrev mi_ml (M : MI) : Nat := M.2.2.1
abbrev mi_rt (M : MI) : Option FieldType := M.2.2.2.1
abbrev mi_hh (M : MI) : List (Nat × Nat × Nat × Nat) := M.2.2.2.2.1
abbrev mi_fr (M : MI) : Nat := M.2.2.2.2.2.1
abbrev mi_lo (M : MI) : Nat := M.2.2.2.2.2.2
def mi_cw (M : MI) : Cond := match mi_hh M with
  | [] => .code (mi_nm M) (mi_by M) (mi_ml M) (mi_rt M)
  | hh => .codeWith (mi_nm M) (mi_by M) (mi_ml M) (mi_rt M) hh
/-- the good words of the tables -/
def GW : List Cond := lw_tbl.filter goodWord
theorem gw_of {w : Cond} (h : w ∈ lw_tbl) (g : goodWord w = true) : w ∈ GW := List.mem_filter.mpr ⟨h, g⟩
theorem gw_i {w : Cond} (i : Nat) (h : lw_tbl[i]? = some w) (g : goodWord w = true) : w ∈ GW := gw_of (List.mem_of_getElem? h) g
theorem gw_good : GoodIn GW GW := fun w h => ⟨h, good_of_word (List.mem_filter.mp h).2⟩
def WS (M : MI) : List Cond := mi_cw M :: GW
theorem ws_gw {M : MI} (h : mi_cw M ∈ GW) : ∀ w ∈ WS M, w ∈ GW := fun w hw => (List.mem_cons.mp hw).elim (fun e => e ▸ h) id
/-- the world's parameters: class numbers and slots, the first own cell, addresses of what is constant, array classes -/
abbrev OM : Type := va_G × Nat × (Nat → Nat) × (Nat → ClassId) × Nat × (Nat → Int32)
abbrev om_D (om : OM) : va_G := om.1
abbrev om_z (om : OM) : Nat := om.2.1
abbrev om_st (om : OM) : Nat → Nat := om.2.2.1
abbrev om_tc (om : OM) : Nat → ClassId := om.2.2.2.1
abbrev om_L (om : OM) : Nat := om.2.2.2.2.1
abbrev om_xs (om : OM) : Nat → Int32 := om.2.2.2.2.2
def om_ty (om : OM) : List (ClassId × FieldType) := [(om_tc om 0, .int), (om_tc om 1, .byte), (om_tc om 2, .long), (om_tc om 3, .object "EchoGauge$State")]
def ca (om : OM) (k : Nat) : Nat := if k < 100000 then om_z om + k else om_st om (k - 100000)
theorem ca_lt {om : OM} {k : Nat} (h : k < 100000) : ca om k = om_z om + k := if_pos h
def cv (om : OM) : Value → Value
  | .ref k => .ref (ca om k)
  | v => v
theorem cv_int (om : OM) (x : Int32) : cv om (.int x) = .int x := rfl
theorem cv_long (om : OM) (x : Int64) : cv om (.long x) = .long x := rfl
theorem cv_ref (om : OM) (k : Nat) : cv om (.ref k) = .ref (ca om k) := rfl
theorem cv_null (om : OM) : cv om .null = .null := rfl
theorem cv_cat (om : OM) (v : Value) : (cv om v).category = v.category := by cases v <;> rfl
def ce (om : OM) : va_E → va_E
  | .inl (t, n, .inr (.inr (.inr (.inr f)))) => .inl (om_tc om t, n, .inr (.inr (.inr (.inr (fun j => (f j).map (ca om))))))
  | .inl (t, x) => .inl (om_tc om t, x)
  | .inr (ci, fs) => .inr (ci, fs.map (cv om))
/-- the heap: cells by index, how many, whether nothing was made in between -/
abbrev Hp : Type := (Nat → va_E) × Nat × Bool
def hs (h : Hp) (k : Nat) (e : va_E) : Hp := (fun j => if j = k then e else h.1 j, h.2)
def hpush (h : Hp) (e : va_E) : Hp := (fun j => if j = h.2.1 then e else h.1 j, h.2.1 + 1, h.2.2)
theorem hs_same {h : Hp} {k : Nat} {e : va_E} : (hs h k e).1 k = e := if_pos rfl
theorem hs_ne {h : Hp} {k j : Nat} {e : va_E} (hj : j ≠ k) : (hs h k e).1 j = h.1 j := if_neg hj
theorem hs_2 {h : Hp} {k : Nat} {e : va_E} : (hs h k e).2 = h.2 := rfl
def dead : va_E := .inr (99, [])
def wl (om : OM) (h : Hp) : va_W := (List.range h.2.1).map (fun i => (om_z om + i, ce om (h.1 i)))
theorem wl_get {om : OM} {h : Hp} {i : Nat} (hi : i < h.2.1) : (wl om h)[i]? = some (om_z om + i, ce om (h.1 i)) := by
  unfold wl
  rw [List.getElem?_map, List.getElem?_range hi]
  rfl
theorem wl_len {om : OM} {h : Hp} : (wl om h).length = h.2.1 := by unfold wl; simp
theorem wl_inv {om : OM} {h : Hp} {i : Nat} {q : Nat × va_E} (hq : (wl om h)[i]? = some q) : i < h.2.1 ∧ q = (om_z om + i, ce om (h.1 i)) := by
  have hl : i < h.2.1 := by rw [← wl_len (om := om)]; exact (List.getElem?_eq_some_iff.mp hq).1
  exact ⟨hl, Option.some.inj (hq.symm.trans (wl_get hl))⟩
theorem wl_set {om : OM} {h : Hp} {k : Nat} {e : va_E} : (wl om h).set k (om_z om + k, ce om e) = wl om (hs h k e) := by
  apply List.ext_getElem?
  intro i
  by_cases hi : i < h.2.1
  · rw [wl_get (h := hs h k e) hi]
    by_cases hk : i = k
    · subst hk
      rw [List.getElem?_set_self (by rw [wl_len]; exact hi), hs_same]
    · rw [List.getElem?_set_ne (Ne.symm hk), wl_get hi, hs_ne hk]
  · rw [List.getElem?_eq_none (by rw [List.length_set, wl_len]; omega), List.getElem?_eq_none (by rw [wl_len]; show h.2.1 ≤ i; omega)]
theorem wl_push {om : OM} {h : Hp} {e : va_E} : wl om h ++ [(om_z om + h.2.1, ce om e)] = wl om (hpush h e) := by
  apply List.ext_getElem?
  intro i
  by_cases hi : i < h.2.1
  · rw [List.getElem?_append_left (by rw [wl_len]; exact hi), wl_get hi, wl_get (h := hpush h e) (show i < h.2.1 + 1 by omega)]
    show some (om_z om + i, ce om (h.1 i)) = some (om_z om + i, ce om (if i = h.2.1 then e else h.1 i))
    rw [if_neg (by omega)]
  · by_cases h2 : i = h.2.1
    · subst h2
      rw [List.getElem?_append_right (by rw [wl_len]; exact Nat.le_refl _), wl_len, Nat.sub_self, wl_get (h := hpush h e) (show h.2.1 < h.2.1 + 1 by omega)]
      show some (om_z om + h.2.1, ce om e) = some (om_z om + h.2.1, ce om (if h.2.1 = h.2.1 then e else h.1 h.2.1))
      rw [if_pos rfl]
    · rw [List.getElem?_eq_none (by rw [List.length_append, wl_len]; show h.2.1 + 1 ≤ i; omega), List.getElem?_eq_none (by rw [wl_len]; show h.2.1 + 1 ≤ i; omega)]
theorem wl_D {om : OM} {h : Hp} : va_D (fun q => om_z om ≤ q) (wl om h) := by
  refine ⟨fun i j p q hi hj hpq => ?_, fun k q hk => ?_⟩
  · obtain ⟨-, rfl⟩ := wl_inv hi
    obtain ⟨-, rfl⟩ := wl_inv hj
    have h1 : om_z om + i = om_z om + j := hpq
    omega
  · obtain ⟨-, rfl⟩ := wl_inv hk
    show om_z om ≤ om_z om + k
    omega
/-- where a state U with heap H stands for h -/
def SimT (om : OM) (h : Hp) (H : Heap) : Prop := va_P (om_D om) vwCl (wl om h) H ∧ (∀ k, h.2.1 ≤ k → h.1 k = dead) ∧ h.2.1 ≤ 100000
/-- what is constant: see below; kept when nothing under z changes -/
abbrev AZ (om : OM) : Nat → Prop := fun q => om_z om ≤ q
def Sim (om : OM) (h : Hp) (s : State) (H : Heap) (locs : List Loc) (cells : Nat) : Prop := SimT om h H ∧ va_S (AZ om) s.heap H locs ∧ (h.2.2 = true → s.heap.size + cells = om_z om + h.2.1)
/-- locals: a value or nothing known, by place -/
def ent (om : OM) : Nat → List (Option Value) → List (Nat × Value)
  | _, [] => []
  | i, none :: L => ent om (i + 1) L
  | i, some v :: L => (i, cv om v) :: ent om (i + 1) L
theorem ent_mem {om : OM} : ∀ (L : List (Option Value)) (i : Nat) (q : Nat × Value), q ∈ ent om i L ↔ ∃ (j : Nat) (v : Value), q = (i + j, cv om v) ∧ L[j]? = some (some v)
  | [], i, q => by simp [ent]
  | none :: L, i, q => by
    show q ∈ ent om (i + 1) L ↔ _
    rw [ent_mem L (i + 1) q]
    constructor
    · rintro ⟨j, v, h1, h2⟩
      exact ⟨j + 1, v, by rw [h1]; congr 1; omega, by rw [List.getElem?_cons_succ]; exact h2⟩
    · rintro ⟨j, v, h1, h2⟩
      cases j with
      | zero => rw [List.getElem?_cons_zero] at h2; cases h2
      | succ j =>
        rw [List.getElem?_cons_succ] at h2
        exact ⟨j, v, by rw [h1]; congr 1; omega, h2⟩
  | some w :: L, i, q => by
    show q ∈ (i, cv om w) :: ent om (i + 1) L ↔ _
    rw [List.mem_cons, ent_mem L (i + 1) q]
    constructor
    · rintro (h1 | ⟨j, v, h1, h2⟩)
      · exact ⟨0, w, h1, by rw [List.getElem?_cons_zero]⟩
      · exact ⟨j + 1, v, by rw [h1]; congr 1; omega, by rw [List.getElem?_cons_succ]; exact h2⟩
    · rintro ⟨j, v, h1, h2⟩
      cases j with
      | zero =>
        rw [List.getElem?_cons_zero] at h2
        cases h2
        exact Or.inl h1
      | succ j =>
        rw [List.getElem?_cons_succ] at h2
        exact Or.inr ⟨j, v, by rw [h1]; congr 1; omega, h2⟩
def LocR (om : OM) (M : MI) (L : List (Option Value)) (ls : Array Slot) : Prop := lv_has ls (mi_ml M) (ent om 0 L)
theorem loc_at {om : OM} {M : MI} {L : List (Option Value)} {ls : Array Slot} (h : LocR om M L ls) {i : Nat} {v : Value} (hi : L[i]? = some (some v)) : ls[i]? = some (.val (cv om v)) :=
  h.2.2 (i, cv om v) ((ent_mem L 0 _).mpr ⟨i, v, by rw [Nat.zero_add], hi⟩)
/-- a place given a value of one slot; of two slots; forgotten -/
def is2 (o : Option (Option Value)) : Bool := match o with
  | some (some v) => v.category == 2
  | _ => false
def st1 (L : List (Option Value)) (i : Nat) (v : Value) : List (Option Value) := match i with
  | 0 => L.set 0 (some v)
  | i + 1 => (if is2 L[i]? then L.set i none else L).set (i + 1) (some v)
def st2 (L : List (Option Value)) (i : Nat) (v : Value) : List (Option Value) := (st1 L i v).set (i + 1) none
theorem loc_weak {om : OM} {M : MI} {L L' : List (Option Value)} {ls : Array Slot} (h : LocR om M L ls) (hw : ∀ (i : Nat) (v : Value), L'[i]? = some (some v) → L[i]? = some (some v)) : LocR om M L' ls := by
  refine ⟨h.1, h.2.1, fun q hq => ?_⟩
  obtain ⟨j, v, rfl, h2⟩ := (ent_mem L' 0 q).mp hq
  rw [Nat.zero_add]
  exact loc_at h (hw j v h2)
theorem is2_some {o : Option (Option Value)} {v : Value} (h : o = some (some v)) (h2 : v.category = 2) : is2 o = true := by
  subst h
  show (v.category == 2) = true
  rw [h2]; rfl
theorem st1_get {L : List (Option Value)} {i j : Nat} {v w : Value} (h : (st1 L i v)[j]? = some (some w)) : (j = i ∧ w = v) ∨ (j ≠ i ∧ L[j]? = some (some w) ∧ ¬ (j + 1 = i ∧ w.category = 2)) := by
  by_cases hji : j = i
  · subst hji
    refine Or.inl ⟨rfl, ?_⟩
    have hlen : ∀ (L0 : List (Option Value)), (L0.set j (some v))[j]? = some (some w) → w = v := by
      intro L0 h0
      have hlt : j < (L0.set j (some v)).length := (List.getElem?_eq_some_iff.mp h0).1
      rw [List.length_set] at hlt
      rw [List.getElem?_set_self hlt] at h0
      exact (Option.some.inj (Option.some.inj h0)).symm
    cases j with
    | zero => exact hlen _ h
    | succ j => exact hlen _ h
  · refine Or.inr ⟨hji, ?_⟩
    cases i with
    | zero =>
      have h1 : (L.set 0 (some v))[j]? = some (some w) := h
      rw [List.getElem?_set_ne (Ne.symm hji)] at h1
      exact ⟨h1, fun z => by omega⟩
    | succ i =>
      have h1 : ((if is2 L[i]? then L.set i none else L).set (i + 1) (some v))[j]? = some (some w) := h
      rw [List.getElem?_set_ne (Ne.symm hji)] at h1
      by_cases h2 : is2 L[i]? = true
      · rw [if_pos h2] at h1
        by_cases hj : j = i
        · subst hj
          have hlt : j < (L.set j none).length := (List.getElem?_eq_some_iff.mp h1).1
          rw [List.length_set] at hlt
          rw [List.getElem?_set_self hlt] at h1
          cases h1
        · rw [List.getElem?_set_ne (Ne.symm hj)] at h1
          exact ⟨h1, fun z => hj (by omega)⟩
      · rw [if_neg h2] at h1
        refine ⟨h1, fun z => h2 ?_⟩
        have hj : j = i := by omega
        subst hj
        exact is2_some h1 z.2
theorem st2_get {L : List (Option Value)} {i j : Nat} {v w : Value} (h : (st2 L i v)[j]? = some (some w)) : (j = i ∧ w = v) ∨ (j ≠ i ∧ j ≠ i + 1 ∧ L[j]? = some (some w) ∧ ¬ (j + 1 = i ∧ w.category = 2)) := by
  have h0 : ((st1 L i v).set (i + 1) none)[j]? = some (some w) := h
  by_cases hj : j = i + 1
  · subst hj
    have hlt : i + 1 < ((st1 L i v).set (i + 1) none).length := (List.getElem?_eq_some_iff.mp h0).1
    rw [List.length_set] at hlt
    rw [List.getElem?_set_self hlt] at h0
    cases h0
  · rw [List.getElem?_set_ne (Ne.symm hj)] at h0
    rcases st1_get h0 with h1 | ⟨h1, h2, h3⟩
    · exact Or.inl h1
    · exact Or.inr ⟨h1, hj, h2, h3⟩
theorem loc_st1 {om : OM} {M : MI} {L : List (Option Value)} {ls' : Array Slot} {i : Nat} {v : Value} (h : lv_has ls' (mi_ml M) ((i, cv om v) :: (ent om 0 L).filter (fun q => !(q.1 == i) && !(q.1 + 1 == i && q.2.category == 2)))) : LocR om M (st1 L i v) ls' := by
  refine ⟨h.1, h.2.1, fun q hq => ?_⟩
  obtain ⟨j, w, rfl, h2⟩ := (ent_mem _ 0 q).mp hq
  rw [Nat.zero_add]
  rcases st1_get h2 with ⟨rfl, rfl⟩ | ⟨h3, h4, h5⟩
  · exact h.2.2 (j, cv om w) List.mem_cons_self
  · refine h.2.2 (j, cv om w) (List.mem_cons_of_mem _ (List.mem_filter.mpr ⟨(ent_mem L 0 _).mpr ⟨j, w, by rw [Nat.zero_add], h4⟩, ?_⟩))
    have hc : (cv om w).category = w.category := cv_cat om w
    show (!(j == i) && !(j + 1 == i && (cv om w).category == 2)) = true
    rw [hc]
    simp only [Bool.and_eq_true, Bool.not_eq_true', beq_eq_false_iff_ne, ne_eq, Bool.and_eq_false_iff]
    refine ⟨h3, ?_⟩
    by_cases z : j + 1 = i
    · exact Or.inr (fun y => h5 ⟨z, y⟩)
    · exact Or.inl z
theorem loc_st2 {om : OM} {M : MI} {L : List (Option Value)} {ls' : Array Slot} {i : Nat} {v : Value} (h : lv_has ls' (mi_ml M) ((i, cv om v) :: (ent om 0 L).filter (fun q => !(q.1 == i) && (!(q.1 == i + 1) && !(q.1 + 1 == i && q.2.category == 2))))) : LocR om M (st2 L i v) ls' := by
  refine ⟨h.1, h.2.1, fun q hq => ?_⟩
  obtain ⟨j, w, rfl, h2⟩ := (ent_mem _ 0 q).mp hq
  rw [Nat.zero_add]
  rcases st2_get h2 with ⟨rfl, rfl⟩ | ⟨h3, h6, h4, h5⟩
  · exact h.2.2 (j, cv om w) List.mem_cons_self
  · refine h.2.2 (j, cv om w) (List.mem_cons_of_mem _ (List.mem_filter.mpr ⟨(ent_mem L 0 _).mpr ⟨j, w, by rw [Nat.zero_add], h4⟩, ?_⟩))
    have hc : (cv om w).category = w.category := cv_cat om w
    show (!(j == i) && (!(j == i + 1) && !(j + 1 == i && (cv om w).category == 2))) = true
    rw [hc]
    simp only [Bool.and_eq_true, Bool.not_eq_true', beq_eq_false_iff_ne, ne_eq, Bool.and_eq_false_iff]
    refine ⟨h3, h6, ?_⟩
    by_cases z : j + 1 = i
    · exact Or.inr (fun y => h5 ⟨z, y⟩)
    · exact Or.inl z

/-! what is constant: static fields, arrays, objects, fields; places from 100000 on: 0 the script, 1 FIRST, 2 LEAST, 3 MOST -/
def c_first : List Int32 := [0, 0, 20, 2, 0, 0, 5, 4, 10, 200, 1800, 20]
def c_least : List Int32 := [0, 0, 1, 0, 0, 0, 1, 1, 1, 0, 0, 0]
def c_most : List Int32 := [100, 20, 100, 20, 1, 2, 9, 20, 99, 10000, 10000, 500]


def sz_l : List (String × String × String × Value) := [("EchoGauge$Settings", "FIRST", "[I", .ref 100001), ("EchoGauge$Settings", "LEAST", "[I", .ref 100002), ("EchoGauge$Settings", "MOST", "[I", .ref 100003)]
def sa_w : List (FieldType × Nat × Nat × (Nat → Value)) := [(.int, 100001, 12, fun j => .int (c_first.getD j 0)), (.int, 100002, 12, fun j => .int (c_least.getD j 0)), (.int, 100003, 12, fun j => .int (c_most.getD j 0))]
def sa_l (om : OM) : List (FieldType × Nat × Nat × (Nat → Value)) := (.int, 100000, om_L om, fun j => .int (om_xs om j)) :: sa_w
def so_l : List (String × Nat) := []
def sf_l : List (String × String × String × Value × Nat) := []
def Stat (om : OM) (U : State) (H : Heap) : Prop :=
  (∀ q ∈ sz_l, va_Z q.1 q.2.1 q.2.2.1 (cv om q.2.2.2) (AZ om) U H) ∧
  (∀ q ∈ sa_l om, va_T q.1 (ca om q.2.1) q.2.2.1 (fun j => cv om (q.2.2.2 j)) (AZ om) U H) ∧
  (∀ q ∈ so_l, va_O q.1 (ca om q.2) (AZ om) U H) ∧
  (∀ q ∈ sf_l, va_OF q.1 q.2.1 q.2.2.1 (cv om q.2.2.2.1) (ca om q.2.2.2.2) (AZ om) U H) ∧
  True ∧
  vx_Zq Bundle.tN "UNASSIGNED_STACK" Bundle.steD (AZ om) U H ∧ vx_Zq Bundle.tN "SUPPRESSED_SENTINEL" Bundle.listD (AZ om) U H ∧
  va_X (ca om 100001) 12 (fun j => c_first.getD j 0) U H ∧ ¬ AZ om (ca om 100001)
theorem Stat.kept {om : OM} {U : State} {H H1 : Heap} (h : Stat om U H) (hq : ∀ a : Nat, a < H.size → ¬ AZ om a → H1[a]? = H[a]?) : Stat om U H1 := by
  obtain ⟨h1, h2, h3, h4, h5, h6, h7, h8, h9⟩ := h
  exact ⟨fun q z => (h1 q z).kept hq, fun q z => (h2 q z).kept hq, fun q z => (h3 q z).kept hq, fun q z => (h4 q z).kept hq, trivial, h6.kept hq, h7.kept hq, h8.kept (hq _ (h8.elim (fun scr z => (Array.getElem?_eq_some_iff.mp z.1).1)) h9), h9⟩
theorem Stat.moved {om : OM} {u U : State} {H : Heap} (hvm : u.vm.Alike U.vm) (h : Stat om u H) : Stat om U H := by
  obtain ⟨h1, h2, h3, h4, h5, h6, h7, h8, h9⟩ := h
  exact ⟨fun q z => va_Z.moved hvm (h1 q z), fun q z => va_T.moved hvm (h2 q z), fun q z => va_O.moved hvm (h3 q z), fun q z => va_OF.moved hvm (h4 q z), trivial, vx_Zq.moved hvm h6, vx_Zq.moved hvm h7, h8.moved hvm, h9⟩
/-! words that the tables decide but that don't keep by themselves; texts; classes that aren't above one another -/
def okN : Cond → Bool
  | .methodLinkNest .. => true
  | .castable .. => true
  | .declares _ => true
  | .arrayOver (.object _) => true
  | _ => false
theorem nw_warm {w : Cond} (hw : okN w = true) {s U : State} (hW : s.WarmedH U.vm) (h : va_Nw w s) : va_Nw w U := by
  cases w with
  | methodLinkNest => exact va_Nw.warmM hW h
  | castable => exact va_Nw.warmC hW h
  | declares => exact va_Nw.warmD hW h
  | arrayOver t =>
    cases t with
    | object C => exact va_AO.moved hW.alike h
    | _ => cases hw
  | _ => cases hw
def NW : List Cond := lw_tbl.filter okN
theorem nw_i {w : Cond} (i : Nat) (h : lw_tbl[i]? = some w) (g : okN w = true) : w ∈ NW := List.mem_filter.mpr ⟨List.mem_of_getElem? h, g⟩
def str_l : List (String × Nat × String) := [("EchoGauge", 204, "echo is negative, or what is out of range"), ("EchoGauge", 215, "back is negative"), ("EchoGauge", 166, "distance is out of range"), ("EchoGauge", 223, "what is out of range"), ("EchoGauge", 329, "the stack is empty"), ("EchoGauge", 73, "level is out of range"), ("EchoGauge", 81, "flow is out of range"), ("EchoGauge", 89, "thickness is out of range"), ("EchoGauge", 98, "distance or strength is out of range"), ("EchoGauge", 106, "there are 6 things"), ("EchoGauge", 121, "there is no such thing"), ("EchoGauge", 131, "a value of the stirrer is out of range"), ("EchoGauge", 149, "what or value is out of range"), ("EchoGauge", 184, "shots is out of range"), ("EchoGauge", 45, "depth is out of range"), ("EchoGauge", 158, "value is negative")]
def nc_l : List (String × String) := []
def KW (U : State) : Prop := (∀ w ∈ NW, va_Nw w U) ∧ (∀ q ∈ str_l, ∃ a, vk_R q.1 q.2.1 q.2.2 a U) ∧ ∀ q ∈ nc_l, va_Nc q.1 q.2 U
theorem KW.warm {s U : State} (hW : s.WarmedH U.vm) (h : KW s) : KW U :=
  ⟨fun w hw => nw_warm (List.mem_filter.mp hw).2 hW (h.1 w hw), fun q hq => (h.2.1 q hq).elim (fun a ha => ⟨a, vk_R.warm hW ha⟩), fun q hq => va_Nc.moved hW.alike (h.2.2 q hq)⟩
/-- what a walk of method M stands on -/
def CtxOK (om : OM) (l : Launch) (M : MI) (p : Program) (R : Room) (s : State) (m : MethodId) (args : Array Value) (meth : Method) (c : Code) : Prop :=
  p.tables.exec = Jvm.exec ∧ c.code = mi_by M ∧ c.maxLocals = mi_ml M ∧ s.vm.findClass (mi_nm M).cls = some m.cls ∧ (∀ w ∈ GW, w.before args s = true) ∧ meth.locks = false ∧ meth.sig.returnType = mi_rt M ∧ meth.name = (mi_nm M).name ∧ c.exceptionTable.toList = tableOf (mi_hh M) ∧ mi_fr M ≤ R.frames ∧ mi_lo M ≤ R.locals ∧ va_K (om_D om) vwCl (om_ty om) s ∧ Stat om s s.heap ∧ om_z om ≤ s.heap.size ∧ l.stackTraces = false ∧ KW s
abbrev Out : Type := (Option Value) ⊕ String
/-- where a method's code returns, with o -/
def RetAt (M : MI) (pc : Nat) (o : Option Value) : Prop := match o with
  | none => decode (mi_by M) pc = .ok (.return_, 1) ∧ mi_rt M = none
  | some (.int v) => decode (mi_by M) pc = .ok (.ireturn, 1) ∧ ∃ ty, mi_rt M = some ty ∧ narrow ty (.int v) = .int v
  | some (.long _) => decode (mi_by M) pc = .ok (.lreturn, 1) ∧ mi_rt M = some .long
  | some (.double _) => decode (mi_by M) pc = .ok (.dreturn, 1) ∧ mi_rt M = some .double
  | some (.ref _) => decode (mi_by M) pc = .ok (.areturn, 1) ∧ ∃ C, mi_rt M = some (.object C)
  | some .null => decode (mi_by M) pc = .ok (.areturn, 1) ∧ ∃ C, mi_rt M = some (.object C)
  | _ => False
def Runs (om : OM) (l : Launch) (M : MI) (B : Nat × Nat) (pc : Nat) (L : List (Option Value)) (S : List Value) (h : Hp) (Post : Out → Hp → Prop) : Prop :=
  ∀ (p : Program) (e : Env) (R : Room) (s : State) (m : MethodId) (args : Array Value) (below : List Frame) (meth : Method) (c : Code) (H : Heap) (locs : List Loc) (cells slots : Nat) (Q : State → Prop) (ls : Array Slot),
    CtxOK om l M p R s m args meth c → Sim om h s H locs cells → LocR om M L ls → cells + B.1 ≤ R.cells → slots + B.2 ≤ R.slots →
    (∀ (o : Option Value) (h1 : Hp) (H1 : Heap) (locs1 : List Loc) (cells1 slots1 pc1 : Nat) (ls1 : Array Slot), Post (.inl o) h1 → SimT om h1 H1 → va_S (AZ om) s.heap H1 locs1 → cells1 ≤ R.cells → slots1 ≤ R.slots → RetAt M pc1 o → W p l e R s m args below meth c H1 locs1 cells1 slots1 Q (F0 m pc1 ls1 (o.toList.map (cv om)))) →
    ((∃ (Qc : Array Value → State → Outcome → State → Prop) (XC : String → State → State → Prop) (free : Addr → Prop), Q = vx_MQ below Qc XC args s R.cells R.slots free ∧ (∀ q, om_z om ≤ q → free q) ∧ ∀ (E : String) (h1 : Hp) (t : State), Post (.inr E) h1 → s.vm.Alike t.vm → SimT om h1 t.heap → va_F (AZ om) s t → XC E s t) ∨ ∀ (E : String) (h1 : Hp), ¬ Post (.inr E) h1) →
    W p l e R s m args below meth c H locs cells slots Q (F0 m pc ls (S.map (cv om)))
