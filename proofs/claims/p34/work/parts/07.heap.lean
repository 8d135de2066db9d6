/-! heap rows of the abstract machine -/
theorem w_size {p : Program} {l : Launch} {e : Env} {R : Room} {s : State} {m : MethodId} {args : Array Value} {below : List Frame} {meth : Method} {c : Code} {H : Heap} {locs : List Loc} {cells slots : Nat} {Q : State → Prop} {g : JFrame} (k : H.size ≤ s.heap.size + cells → W p l e R s m args below meth c H locs cells slots Q g) : W p l e R s m args below meth c H locs cells slots Q g := by
  intro T hT X
  exact k (hT ▸ X.heapSize) T hT X
theorem sim_lt {om : OM} {h : Hp} {H : Heap} (hS : SimT om h H) {k : Nat} {e : va_E} (hk : h.1 k = e) (hd : e ≠ dead) : k < h.2.1 := by
  by_cases hl : k < h.2.1
  · exact hl
  · exact absurd (hk.symm.trans (hS.2.1 k (Nat.not_lt.mp hl))) hd
theorem nd_inl {x : ClassId × vp_A} : (.inl x : va_E) ≠ dead := fun z => by cases z
theorem nd_inr {ci : Nat} {fs : List Value} (hc : ci < 99) : (.inr (ci, fs) : va_E) ≠ dead := by
  intro z
  have h1 : (ci, fs) = ((99 : Nat), ([] : List Value)) := Sum.inr.inj z
  have h2 : ci = 99 := congrArg Prod.fst h1
  omega
/-- the kit's place of a cell -/
theorem sim_at {om : OM} {h : Hp} {H : Heap} (hS : SimT om h H) {k : Nat} {e : va_E} (hk : h.1 k = e) (hd : e ≠ dead) : (wl om h)[k]? = some (ca om k, ce om e) ∧ ca om k = om_z om + k ∧ k < h.2.1 := by
  have hl := sim_lt hS hk hd
  have h9 := hS.2.2
  have hca : ca om k = om_z om + k := ca_lt (by omega)
  exact ⟨by rw [wl_get hl, hca, hk], hca, hl⟩
theorem sim_set {om : OM} {h : Hp} {H1 : Heap} {k : Nat} {e : va_E} (hP : va_P (om_D om) vwCl ((wl om h).set k (om_z om + k, ce om e)) H1) (hl : k < h.2.1) (hw : ∀ k, h.2.1 ≤ k → h.1 k = dead) (hn : h.2.1 ≤ 100000) : SimT om (hs h k e) H1 := by
  rw [wl_set] at hP
  refine ⟨hP, fun j hj => ?_, hn⟩
  have hj' : h.2.1 ≤ j := hj
  rw [hs_ne (by omega)]
  exact hw j hj'
/-- a class of the worlds -/
def CLF (ci : Nat) (C : String) (T : u_T) (N : Nat) (ty0 : Nat → FieldType) : Prop := vwCl[ci]? = some (C, T, N) ∧ (∀ w ∈ u_ws C T N, w ∈ GW) ∧ (∀ k, k < N → parseFieldDescriptor (T k).2.2.1 = some (ty0 k)) ∧ (∀ a, a < N → ∀ b, b < N → a ≠ b → (T a).2.1 ≠ (T b).2.1)
/-- a field, by an entry of a class' pool -/
def FLD (own : String) (idx ci k : Nat) (fin : Bool) (ty : FieldType) : Prop := ∃ (C : String) (T : u_T) (N : Nat) (ty0 : Nat → FieldType), CLF ci C T N ty0 ∧ k < N ∧ Cond.fieldLink own idx (T k).1 (T k).2.1 (T k).2.2.1 ∈ GW ∧ (T k).2.2.2 = fin ∧ ty0 k = ty ∧ (T k).1 = C
theorem vw_lt {ci : Nat} {r : vw_C} (h : vwCl[ci]? = some r) : ci < 99 := by
  have h1 : ci < vwCl.length := (List.getElem?_eq_some_iff.mp h).1
  have h2 : vwCl.length ≤ 10 := by decide
  omega
section HR
variable {om : OM} {l : Launch} {M : MI} {B : Nat × Nat} {pc : Nat} {L : List (Option Value)} {S : List Value} {h : Hp} {Post : Out → Hp → Prop}
theorem r_getfield {own : String} {idx ci f : Nat} {fin : Bool} {ty : FieldType} {a : Nat} {fs : List Value} {v : Value} (d : decode (mi_by M) pc = .ok (.getfield idx, 3)) (ho : (mi_nm M).cls = own) (hF : FLD own idx ci f fin ty) (ha : h.1 a = .inr (ci, fs)) (hv : fs[f]? = some v) (k : Runs om l M B (pc + 3) L (v :: S) h Post) : Runs om l M B pc L (.ref a :: S) h Post := by
  intro p e R s m args below meth c H locs cells slots Q ls C hS hL hc hs KR KX
  subst ho
  obtain ⟨Cn, T, N, ty0, ⟨hcl, hin, -, -⟩, hf, hlk, -, -, -⟩ := hF
  obtain ⟨hat, -, -⟩ := sim_at hS.1 ha (nd_inr (vw_lt hcl))
  exact va_get (D := om_D om) (v := cv om v) C.1 C.2.1 C.2.2.2.2.1 hin C.2.2.2.1 C.2.2.2.2.2.2.2.2.2.2.2.1 hS.1.1 a hat hcl f hf (C.2.2.2.2.1 _ hlk) (fun _ h9 => h9) (by rw [List.getElem?_map, hv]; rfl) d (k p e R s m args below meth c H locs cells slots Q ls C hS hL hc hs KR KX)
theorem r_putfield {own : String} {idx ci f : Nat} {ty : FieldType} {a : Nat} {fs : List Value} {v : Value} (d : decode (mi_by M) pc = .ok (.putfield idx, 3)) (ho : (mi_nm M).cls = own) (hF : FLD own idx ci f false ty) (ha : h.1 a = .inr (ci, fs)) (hn : ∀ w0 : OM, narrow ty (cv w0 v) = cv w0 v) (hfit : ∀ w0 : OM, fits ty (cv w0 v) = true) (hl : f < fs.length) (k : Runs om l M B (pc + 3) L S (hs h a (.inr (ci, fs.set f v))) Post) : Runs om l M B pc L (v :: .ref a :: S) h Post := by
  intro p e R s m args below meth c H locs cells slots Q ls C hS hL hc hs KR KX
  subst ho
  obtain ⟨Cn, T, N, ty0, ⟨hcl, hin, hty, hnm⟩, hf, hlk, hfin, hft, -⟩ := hF
  obtain ⟨hat, hca, hlt⟩ := sim_at hS.1 ha (nd_inr (vw_lt hcl))
  refine va_put (D := om_D om) (v := cv om v) C.1 C.2.1 C.2.2.2.2.1 hin ty0 hty hnm C.2.2.2.1 C.2.2.2.2.2.2.2.2.2.2.2.1 hS.1.1 wl_D hS.2.1 a hat hcl f hf (C.2.2.2.2.1 _ hlk) (fun _ h9 => h9) hfin (by rw [hty f hf, hft]) (hn om) (hfit om) (by rw [List.length_map]; exact hl) d (fun H1 locs1 hP1 _ hS1 => ?_)
  refine k p e R s m args below meth c H1 locs1 cells slots Q ls C ⟨sim_set (e := .inr (ci, fs.set f v)) ?_ hlt hS.1.2.1 hS.1.2.2, hS1, hS.2.2⟩ hL hc hs KR KX
  rw [hca] at hP1
  show va_P (om_D om) vwCl ((wl om h).set a (om_z om + a, .inr (ci, (fs.set f v).map (cv om)))) H1
  rw [List.map_set]
  exact hP1
theorem r_putfinal {own : String} {idx ci f : Nat} {ty : FieldType} {a : Nat} {fs : List Value} {v : Value} (d : decode (mi_by M) pc = .ok (.putfield idx, 3)) (ho : (mi_nm M).cls = own) (hi : (mi_nm M).name = "<init>") (hoc : ∀ (C : String) (T : u_T) (N : Nat), vwCl[ci]? = some (C, T, N) → C = own) (hF : FLD own idx ci f true ty) (ha : h.1 a = .inr (ci, fs)) (hn : ∀ w0 : OM, narrow ty (cv w0 v) = cv w0 v) (hfit : ∀ w0 : OM, fits ty (cv w0 v) = true) (hl : f < fs.length) (k : Runs om l M B (pc + 3) L S (hs h a (.inr (ci, fs.set f v))) Post) : Runs om l M B pc L (v :: .ref a :: S) h Post := by
  intro p e R s m args below meth c H locs cells slots Q ls C hS hL hc hs KR KX
  subst ho
  obtain ⟨Cn, T, N, ty0, ⟨hcl, hin, hty, hnm⟩, hf, hlk, hfin, hft, hdc⟩ := hF
  obtain ⟨hat, hca, hlt⟩ := sim_at hS.1 ha (nd_inr (vw_lt hcl))
  refine va_putF (D := om_D om) (v := cv om v) C.1 C.2.1 C.2.2.2.2.1 hin ty0 hty hnm C.2.2.2.1 C.2.2.2.2.2.2.2.2.2.2.2.1 hS.1.1 wl_D hS.2.1 a hat hcl f hf (C.2.2.2.2.1 _ hlk) (fun _ h9 => h9) hfin (C.2.2.2.2.2.2.2.1.trans hi) (hdc.trans (hoc _ _ _ hcl)) (by rw [hty f hf, hft]) (hn om) (hfit om) (by rw [List.length_map]; exact hl) d (fun H1 locs1 hP1 _ hS1 => ?_)
  refine k p e R s m args below meth c H1 locs1 cells slots Q ls C ⟨sim_set (e := .inr (ci, fs.set f v)) ?_ hlt hS.1.2.1 hS.1.2.2, hS1, hS.2.2⟩ hL hc hs KR KX
  rw [hca] at hP1
  show va_P (om_D om) vwCl ((wl om h).set a (om_z om + a, .inr (ci, (fs.set f v).map (cv om)))) H1
  rw [List.map_set]
  exact hP1
/-- arrays: kind 0 int, 1 byte, 2 long, 3 of states -/
theorem r_iaload {a n : Nat} {f : Nat → Int32} {i : Int32} (d : decode (mi_by M) pc = .ok (.iaload, 1)) (ha : h.1 a = .inl (0, n, .inl f)) (hin : vp_in i n) (k : Runs om l M B (pc + 1) L (.int (f i.toNatClampNeg) :: S) h Post) : Runs om l M B pc L (.int i :: .ref a :: S) h Post := by
  intro p e R s m args below meth c H locs cells slots Q ls C hS hL hc hs KR KX
  obtain ⟨hat, -, -⟩ := sim_at hS.1 ha nd_inl
  exact va_iald (D := om_D om) C.1 C.2.1 C.2.2.2.2.2.2.2.2.2.2.2.1 hS.1.1 a 0 hat rfl hin d (k p e R s m args below meth c H locs cells slots Q ls C hS hL hc hs KR KX)
theorem r_baload {a n : Nat} {f : Nat → Int32} {i : Int32} (d : decode (mi_by M) pc = .ok (.baload, 1)) (ha : h.1 a = .inl (1, n, .inl f)) (hin : vp_in i n) (k : Runs om l M B (pc + 1) L (.int (f i.toNatClampNeg) :: S) h Post) : Runs om l M B pc L (.int i :: .ref a :: S) h Post := by
  intro p e R s m args below meth c H locs cells slots Q ls C hS hL hc hs KR KX
  obtain ⟨hat, -, -⟩ := sim_at hS.1 ha nd_inl
  exact va_bald (D := om_D om) C.1 C.2.1 C.2.2.2.2.2.2.2.2.2.2.2.1 hS.1.1 a 1 hat rfl hin d (k p e R s m args below meth c H locs cells slots Q ls C hS hL hc hs KR KX)
theorem r_laload {a n : Nat} {f : Nat → Int64} {i : Int32} (d : decode (mi_by M) pc = .ok (.laload, 1)) (ha : h.1 a = .inl (2, n, .inr (.inl f))) (hin : vp_in i n) (k : Runs om l M B (pc + 1) L (.long (f i.toNatClampNeg) :: S) h Post) : Runs om l M B pc L (.int i :: .ref a :: S) h Post := by
  intro p e R s m args below meth c H locs cells slots Q ls C hS hL hc hs KR KX
  obtain ⟨hat, -, -⟩ := sim_at hS.1 ha nd_inl
  exact va_lald (D := om_D om) C.1 C.2.1 C.2.2.2.2.2.2.2.2.2.2.2.1 hS.1.1 a 2 hat rfl hin d (k p e R s m args below meth c H locs cells slots Q ls C hS hL hc hs KR KX)
theorem cv_rf {om : OM} (o : Option Nat) : cv om (va_rf o) = va_rf (o.map (ca om)) := by cases o <;> rfl
theorem r_aaload {a n : Nat} {f : Nat → Option Nat} {i : Int32} (d : decode (mi_by M) pc = .ok (.aaload, 1)) (ha : h.1 a = .inl (3, n, .inr (.inr (.inr (.inr f))))) (hin : vp_in i n) (k : Runs om l M B (pc + 1) L (va_rf (f i.toNatClampNeg) :: S) h Post) : Runs om l M B pc L (.int i :: .ref a :: S) h Post := by
  intro p e R s m args below meth c H locs cells slots Q ls C hS hL hc hs KR KX
  obtain ⟨hat, -, -⟩ := sim_at hS.1 ha nd_inl
  refine va_aldq (D := om_D om) C.1 C.2.1 C.2.2.2.2.2.2.2.2.2.2.2.1 hS.1.1 a 3 hat rfl hin d ?_
  rw [← cv_rf]
  exact k p e R s m args below meth c H locs cells slots Q ls C hS hL hc hs KR KX
theorem r_iastore {a n : Nat} {f : Nat → Int32} {i x : Int32} (d : decode (mi_by M) pc = .ok (.iastore, 1)) (ha : h.1 a = .inl (0, n, .inl f)) (hin : vp_in i n) (k : Runs om l M B (pc + 1) L S (hs h a (.inl (0, n, .inl (upd f i.toNatClampNeg x)))) Post) : Runs om l M B pc L (.int x :: .int i :: .ref a :: S) h Post := by
  intro p e R s m args below meth c H locs cells slots Q ls C hS hL hc hs KR KX
  obtain ⟨hat, hca, hlt⟩ := sim_at hS.1 ha nd_inl
  refine va_iast (D := om_D om) C.1 C.2.1 C.2.2.2.2.2.2.2.2.2.2.2.1 hS.1.1 wl_D hS.2.1 a 0 hat rfl hin d (fun H1 locs1 hP1 _ hS1 => ?_)
  rw [hca] at hP1
  exact k p e R s m args below meth c H1 locs1 cells slots Q ls C ⟨sim_set (e := .inl (0, n, .inl (upd f i.toNatClampNeg x))) hP1 hlt hS.1.2.1 hS.1.2.2, hS1, hS.2.2⟩ hL hc hs KR KX
theorem r_bastore {a n : Nat} {f : Nat → Int32} {i x : Int32} (d : decode (mi_by M) pc = .ok (.bastore, 1)) (ha : h.1 a = .inl (1, n, .inl f)) (hin : vp_in i n) (k : Runs om l M B (pc + 1) L S (hs h a (.inl (1, n, .inl (upd f i.toNatClampNeg (vp_nar .byte x))))) Post) : Runs om l M B pc L (.int x :: .int i :: .ref a :: S) h Post := by
  intro p e R s m args below meth c H locs cells slots Q ls C hS hL hc hs KR KX
  obtain ⟨hat, hca, hlt⟩ := sim_at hS.1 ha nd_inl
  refine va_bast (D := om_D om) C.1 C.2.1 C.2.2.2.2.2.2.2.2.2.2.2.1 hS.1.1 wl_D hS.2.1 a 1 hat rfl hin d (fun H1 locs1 hP1 _ hS1 => ?_)
  rw [hca] at hP1
  exact k p e R s m args below meth c H1 locs1 cells slots Q ls C ⟨sim_set (e := .inl (1, n, .inl (upd f i.toNatClampNeg (vp_nar .byte x)))) hP1 hlt hS.1.2.1 hS.1.2.2, hS1, hS.2.2⟩ hL hc hs KR KX
theorem r_lastore {a n : Nat} {f : Nat → Int64} {i : Int32} {x : Int64} (d : decode (mi_by M) pc = .ok (.lastore, 1)) (ha : h.1 a = .inl (2, n, .inr (.inl f))) (hin : vp_in i n) (k : Runs om l M B (pc + 1) L S (hs h a (.inl (2, n, .inr (.inl (vp_updL f i.toNatClampNeg x))))) Post) : Runs om l M B pc L (.long x :: .int i :: .ref a :: S) h Post := by
  intro p e R s m args below meth c H locs cells slots Q ls C hS hL hc hs KR KX
  obtain ⟨hat, hca, hlt⟩ := sim_at hS.1 ha nd_inl
  refine va_last (D := om_D om) C.1 C.2.1 C.2.2.2.2.2.2.2.2.2.2.2.1 hS.1.1 wl_D hS.2.1 a 2 hat rfl hin d (fun H1 locs1 hP1 _ hS1 => ?_)
  rw [hca] at hP1
  exact k p e R s m args below meth c H1 locs1 cells slots Q ls C ⟨sim_set (e := .inl (2, n, .inr (.inl (vp_updL f i.toNatClampNeg x)))) hP1 hlt hS.1.2.1 hS.1.2.2, hS1, hS.2.2⟩ hL hc hs KR KX
theorem r_aastore {a n v : Nat} {vs : List Value} {f : Nat → Option Nat} {i : Int32} (d : decode (mi_by M) pc = .ok (.aastore, 1)) (ha : h.1 a = .inl (3, n, .inr (.inr (.inr (.inr f))))) (hv : h.1 v = .inr (6, vs)) (hin : vp_in i n) (k : Runs om l M B (pc + 1) L S (hs h a (.inl (3, n, .inr (.inr (.inr (.inr (va_up f i.toNatClampNeg (some v)))))))) Post) : Runs om l M B pc L (.ref v :: .int i :: .ref a :: S) h Post := by
  intro p e R s m args below meth c H locs cells slots Q ls C hS hL hc hs KR KX
  obtain ⟨hat, hca, hlt⟩ := sim_at hS.1 ha nd_inl
  obtain ⟨hvt, -, -⟩ := sim_at hS.1 hv (nd_inr (by decide))
  refine va_astq (D := om_D om) (r := (RX7, TX7, 7)) C.1 C.2.1 C.2.2.2.2.2.2.2.2.2.2.2.1 hS.1.1 wl_D hS.2.1 a 3 v 6 hat rfl hvt rfl hin d (fun H1 locs1 hP1 _ hS1 => ?_)
  rw [hca] at hP1
  refine k p e R s m args below meth c H1 locs1 cells slots Q ls C ⟨sim_set (e := .inl (3, n, .inr (.inr (.inr (.inr (va_up f i.toNatClampNeg (some v))))))) ?_ hlt hS.1.2.1 hS.1.2.2, hS1, hS.2.2⟩ hL hc hs KR KX
  have e1 : (fun j => (va_up f i.toNatClampNeg (some v) j).map (ca om)) = va_up (fun j => (f j).map (ca om)) i.toNatClampNeg (some (ca om v)) := by
    funext j
    unfold va_up
    by_cases hj : j = i.toNatClampNeg
    · rw [if_pos hj, if_pos hj]; rfl
    · rw [if_neg hj, if_neg hj]
  show va_P (om_D om) vwCl ((wl om h).set a (om_z om + a, .inl (om_tc om 3, n, .inr (.inr (.inr (.inr (fun j => (va_up f i.toNatClampNeg (some v) j).map (ca om)))))))) H1
  rw [e1]
  exact hP1
theorem r_alen {a t n : Nat} {x : (Nat → Int32) ⊕ (Nat → Int64) ⊕ (Nat → UInt32) ⊕ (Nat → UInt64) ⊕ (Nat → Option Nat)} {v : Int32} (d : decode (mi_by M) pc = .ok (.arraylength, 1)) (ha : h.1 a = .inl (t, n, x)) (ht : t < 4) (hv : Int32.ofNat n = v) (k : Runs om l M B (pc + 1) L (.int v :: S) h Post) : Runs om l M B pc L (.ref a :: S) h Post := by
  intro p e R s m args below meth c H locs cells slots Q ls C hS hL hc hs KR KX
  obtain ⟨hat, -, -⟩ := sim_at hS.1 ha nd_inl
  have hce : ∃ x2, ce om (.inl (t, n, x)) = .inl (om_tc om t, n, x2) := by
    rcases x with f | f | f | f | f <;> exact ⟨_, rfl⟩
  obtain ⟨x2, hx2⟩ := hce
  rw [hx2] at hat
  have htt : ∃ ty, (om_ty om)[t]? = some (om_tc om t, ty) := by
    rcases (show t = 0 ∨ t = 1 ∨ t = 2 ∨ t = 3 by omega) with rfl | rfl | rfl | rfl <;> exact ⟨_, rfl⟩
  obtain ⟨ty, htt⟩ := htt
  exact va_alen (D := om_D om) C.1 C.2.1 C.2.2.2.2.2.2.2.2.2.2.2.1 hS.1.1 a t hat htt hv d (k p e R s m args below meth c H locs cells slots Q ls C hS hL hc hs KR KX)
end HR
