/-! what is saved on both sides -/
theorem AG_eq {C A A' : Nat → Int32} {W : Nat → Int64} (h : AG C W A) (hw : WF A) (e : ∀ j, j < 647 → A' j = A j) : AG C W A' := by
  obtain ⟨a, b, c⟩ := h
  obtain ⟨l1, l2, l3, l4, l5⟩ := cls_le hw
  refine ⟨fun j hj => ?_, fun i hi => ?_, ?_⟩
  · have hj' : Lv A j := lv_eq (A' := A') (e _ (by omega)) (e _ (by omega)) (e _ (by omega)) (e _ (by omega)) (e _ (by omega)) hj
    have lt : j < 647 := by unfold Lv at hj'; omega
    rw [e j lt]; exact a j hj'
  · rw [e _ (by omega)]; exact b i hi
  · unfold MC
    rw [mkd_cong (B := A) 501 (fun i hi => e _ (by omega))]
    exact c
theorem WX_eq {A A' : Nat → Int32} (h : WX A) (hw : WF A) (e : ∀ j, j < 647 → A' j = A j) : WX A' := by
  obtain ⟨l1, l2, l3, l4, l5⟩ := cls_le hw
  obtain ⟨q13, q18, q19, qT, qa, qb, qm, qB⟩ := h
  refine ⟨by rw [e 13 (by omega)]; exact q13, by rw [e 18 (by omega)]; exact q18, by rw [e 19 (by omega)]; exact q19, fun D a1 a2 => ?_, fun i hi => ?_, fun i hi => ?_, fun x hx => ?_, fun i hi => ?_⟩
  · rw [e 0 (by omega)] at a1
    obtain ⟨b1, b2⟩ := qT D a1 a2
    refine ⟨by rw [e 26 (by omega)]; exact b1, fun i hi => ?_⟩
    rw [e 31 (by omega)] at hi
    rw [e _ (by omega)]; exact b2 i hi
  · rw [e 102 (by omega)] at hi
    rw [e _ (by omega)]; exact qa i hi
  · rw [e 118 (by omega)] at hi
    rw [e _ (by omega)]; exact qb i hi
  · rw [e 41 (by omega)] at hx
    rw [e _ (by omega)]; exact qm x hx
  · rw [e _ (by omega)]; exact qB i hi
theorem OKA_eq {A A' : Nat → Int32} (o : OKA A) (e : ∀ j, j < 647 → A' j = A j) : OKA A' :=
  ⟨WF_eq o.1 (fun j hj => e j (by omega)), WX_eq o.2.1 o.1 e, P3_same o.2.2 (e _ (by omega)) (e _ (by omega))⟩
/-- the i-th newest of what is saved, on both sides -/
def SVR (S : Nat → Nat → Int32) (V : Nat → Nat → Int64) (ns cnt : Int32) (x4 : Int32) (v : Nat → Int32) : Prop := ∃ p c : Nat, p < 4 ∧ c ≤ 4 ∧ ns = nI p ∧ cnt = nI c ∧ x4 = nI c ∧ ∀ i, i < c → AG (S ((p + 4 - i) % 4)) (V ((p + 4 - i) % 4)) (fun j => v (647 * (c - 1 - i) + j)) ∧ OKA (fun j => v (647 * (c - 1 - i) + j))
theorem nI_injL {a b : Nat} (ha : a < 2 ^ 31) (hb : b < 2 ^ 31) (h : nI a = nI b) : a = b :=
  Nat.le_antisymm ((nI_le_iff ha hb).mp (h ▸ Int32.le_refl _)) ((nI_le_iff hb ha).mp (h ▸ Int32.le_refl _))
theorem saveI_4 {I : Nat → Int32} {c : Nat} (h : I 4 = nI c) (hc : c ≤ 4) : R_saveI I 4 = nI (min (c + 1) 4) := by
  unfold R_saveI
  by_cases e : c = 4
  · subst e
    rw [if_pos (show I 4 = 4 from h), upd_s, upd_s, h]
    decide
  · rw [if_neg (fun z => e (by exact nI_injL (a := c) (b := 4) (by omega) (by omega) (h.symm.trans z))), upd_s, h, Nat.min_eq_left (by omega)]
    exact (nI_succ c).symm
theorem SVR_save {S : Nat → Nat → Int32} {V : Nat → Nat → Int64} {C A v : Nat → Int32} {W : Nat → Int64} {p c : Nat} (hp : p < 4) (hc : c ≤ 4) (hs : ∀ i, i < c → AG (S ((p + 4 - i) % 4)) (V ((p + 4 - i) % 4)) (fun j => v (647 * (c - 1 - i) + j)) ∧ OKA (fun j => v (647 * (c - 1 - i) + j))) (h : AG C W A) (o : OKA A) :
    SVR (updS S ((p + 1) % 4) C) (updS V ((p + 1) % 4) W) (nI ((p + 1) % 4)) (nI (min (c + 1) 4)) (nI (min (c + 1) 4)) (R_savev c A v) := by
  refine ⟨(p + 1) % 4, min (c + 1) 4, by omega, by omega, rfl, rfl, rfl, fun i hi => ?_⟩
  by_cases h0 : i = 0
  · subst h0
    have e1 : ((p + 1) % 4 + 4 - 0) % 4 = (p + 1) % 4 := by omega
    have e2 : ∀ j, j < 647 → R_savev c A v (647 * (min (c + 1) 4 - 1 - 0) + j) = A j := fun j hj => by
      unfold R_savev
      by_cases e : c = 4
      · subst e
        rw [if_pos rfl]
        show (if _ ∧ _ then A _ else _) = _
        rw [if_pos (by omega)]
        exact congrArg A (by omega)
      · rw [if_neg e]
        show (if _ ∧ _ then A _ else _) = _
        rw [if_pos (by omega)]
        exact congrArg A (by omega)
    rw [e1]
    unfold updS
    rw [if_pos rfl, if_pos rfl]
    exact ⟨AG_eq h o.1 e2, OKA_eq o e2⟩
  · have e1 : ((p + 1) % 4 + 4 - i) % 4 = (p + 4 - (i - 1)) % 4 := by omega
    have e3 : ¬ (p + 4 - (i - 1)) % 4 = (p + 1) % 4 := by omega
    obtain ⟨s1, s2⟩ := hs (i - 1) (by omega)
    have e2 : ∀ j, j < 647 → R_savev c A v (647 * (min (c + 1) 4 - 1 - i) + j) = v (647 * (c - 1 - (i - 1)) + j) := fun j hj => by
      unfold R_savev
      by_cases e : c = 4
      · subst e
        rw [if_pos rfl]
        show (if _ ∧ _ then A _ else shf v 1941 _) = _
        rw [if_neg (by omega)]
        show (if _ then _ else _) = _
        rw [if_pos (by omega)]
        exact congrArg v (by omega)
      · rw [if_neg e]
        show (if _ ∧ _ then A _ else v _) = _
        rw [if_neg (by omega)]
        exact congrArg v (by omega)
    rw [e1]
    unfold updS
    rw [if_neg e3, if_neg e3]
    exact ⟨AG_eq s1 s2.1 e2, OKA_eq s2 e2⟩
theorem SVR_undo {S : Nat → Nat → Int32} {V : Nat → Nat → Int64} {A v : Nat → Int32} {p c : Nat} (hp : p < 4) (hc : c < 4) (hs : ∀ i, i < c + 1 → AG (S ((p + 4 - i) % 4)) (V ((p + 4 - i) % 4)) (fun j => v (647 * (c + 1 - 1 - i) + j)) ∧ OKA (fun j => v (647 * (c + 1 - 1 - i) + j))) :
    SVR S V (nI ((p + 3) % 4)) (nI c) (nI c) v ∧ AG (S p) (V p) (cpT (fun j => v (647 * c + j)) A 647) ∧ OKA (cpT (fun j => v (647 * c + j)) A 647) := by
  obtain ⟨s1, s2⟩ := hs 0 (by omega)
  have e1 : (p + 4 - 0) % 4 = p := by omega
  rw [e1] at s1
  have e2 : ∀ j, j < 647 → cpT (fun j => v (647 * c + j)) A 647 j = v (647 * (c + 1 - 1 - 0) + j) := fun j hj => if_pos hj
  refine ⟨⟨(p + 3) % 4, c, by omega, by omega, rfl, rfl, rfl, fun i hi => ?_⟩, AG_eq s1 s2.1 e2, OKA_eq s2 e2⟩
  obtain ⟨t1, t2⟩ := hs (i + 1) (by omega)
  have e3 : ((p + 3) % 4 + 4 - i) % 4 = (p + 4 - (i + 1)) % 4 := by omega
  have e4 : c - 1 - i = c + 1 - 1 - (i + 1) := by omega
  rw [e3, e4]
  exact ⟨t1, t2⟩
