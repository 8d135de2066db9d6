/-! every deed keeps class and reference agreed -/
theorem lv_eq {A A' : Nat → Int32} (h31 : A' 31 = A 31) (h41 : A' 41 = A 41) (h102 : A' 102 = A 102) (h118 : A' 118 = A 118) (h4 : A' 4 = A 4) {j : Nat} (h : Lv A' j) : Lv A j := by
  unfold Lv at h ⊢
  rw [h31, h41, h102, h118, h4] at h
  exact h
theorem AG_put {C A : Nat → Int32} {W : Nat → Int64} {k : Nat} {x : Int32} (h : AG C W A) (hk : k ≤ 30) (h4 : k ≠ 4) : AG (upd C k x) W (upd A k x) := by
  obtain ⟨a, b, c⟩ := h
  refine ⟨fun j hj => ?_, fun i hi => ?_, ?_⟩
  · have hj' : Lv A j := lv_eq (A' := upd A k x) (upd_n (by omega)) (upd_n (by omega)) (upd_n (by omega)) (upd_n (by omega)) (upd_n (by omega)) hj
    by_cases e : j = k
    · subst e; rw [upd_s, upd_s]
    · rw [upd_n e, upd_n e]; exact a j hj'
  · rw [upd_n (by omega)]; exact b i hi
  · unfold MC
    rw [upd_n (by omega), mkd_cong (B := A) 501 (fun i hi => upd_n (by omega))]
    exact c
theorem WX_same {A A' : Nat → Int32} (h : WX A) (hw : WF A) (hs : ∀ j, (j = 0 ∨ j = 13 ∨ j = 18 ∨ j = 19 ∨ j = 26 ∨ (31 ≤ j ∧ j < 134) ∨ 146 ≤ j) → A' j = A j) : WX A' := by
  obtain ⟨l1, l2, l3, l4, l5⟩ := cls_le hw
  obtain ⟨q13, q18, q19, qT, qa, qb, qm, qB⟩ := h
  refine ⟨by rw [hs 13 (by omega)]; exact q13, by rw [hs 18 (by omega)]; exact q18, by rw [hs 19 (by omega)]; exact q19, fun D a1 a2 => ?_, fun i hi => ?_, fun i hi => ?_, fun e he => ?_, fun i hi => ?_⟩
  · rw [hs 0 (by omega)] at a1
    obtain ⟨b1, b2⟩ := qT D a1 a2
    refine ⟨by rw [hs 26 (by omega)]; exact b1, fun i hi => ?_⟩
    rw [hs 31 (by omega)] at hi
    rw [hs _ (by omega)]; exact b2 i hi
  · rw [hs 102 (by omega)] at hi
    rw [hs _ (by omega)]; exact qa i hi
  · rw [hs 118 (by omega)] at hi
    rw [hs _ (by omega)]; exact qb i hi
  · rw [hs 41 (by omega)] at he
    rw [hs _ (by omega)]; exact qm e he
  · rw [hs _ (by omega)]; exact qB i hi
def P3 (A : Nat → Int32) : Prop := ∃ K L : Nat, A 31 = nI K ∧ A 18 = nI L ∧ K ≤ L ∧ L ≤ 9
theorem P3_same {A A' : Nat → Int32} (h : P3 A) (h31 : A' 31 = A 31) (h18 : A' 18 = A 18) : P3 A' := by
  unfold P3
  rw [h31, h18]
  exact h
theorem P3_shot {A : Nat → Int32} (hw : WF A) (h : P3 A) : P3 (R_shot A).1 := by
  obtain ⟨K, L, h31, h18, hKL, hL⟩ := h
  have hF := WF_fires hw
  obtain ⟨k41, e41, hk41⟩ := hF.K41
  have f31 : R_fires A 31 = nI K := (fires_st hw (by omega)).trans h31
  have f18 : R_fires A 18 = nI L := (fires_st hw (by omega)).trans h18
  have l41 : R_looks (R_fires A) 41 = nI k41 := (looks_st e41 hk41 (by omega)).trans e41
  have r41 : R_remembers (R_looks (R_fires A)) 41 = nI k41 := (rem_st l41 hk41 (by omega)).trans l41
  have s31 : (R_sh4 A).1 31 = nI K := by rw [sh4_eq, picks_st r41 hk41 (by omega), rem_st l41 hk41 (by omega), looks_st e41 hk41 (by omega)]; exact f31
  have s18 : (R_sh4 A).1 18 = nI L := by rw [sh4_eq, picks_st r41 hk41 (by omega), rem_st l41 hk41 (by omega), looks_st e41 hk41 (by omega)]; exact f18
  have c31 : R_cnt (R_sh4 A).1 (R_sh4 A).2 31 = nI K := (rcnt_n (by omega)).trans s31
  have c18 : R_cnt (R_sh4 A).1 (R_sh4 A).2 18 = nI L := (rcnt_n (by omega)).trans s18
  refine ⟨min (K + 1) L, L, ?_, ?_, by omega, hL⟩
  · rw [shot_1, alarms_st (by omega), tells_st (by omega)]
    exact keeps31 c31 c18 (by omega) hL
  · rw [shot_st hw (by omega)]; exact h18
/-- all that the row keeps to -/
def OKA (A : Nat → Int32) : Prop := WF A ∧ WX A ∧ P3 A
theorem OKA_shot {C A : Nat → Int32} {W : Nat → Int64} (h : AG C W A) (o : OKA A) : AG (K_shot W C) W (R_shot A).1 ∧ OKA (R_shot A).1 := by
  obtain ⟨a, b⟩ := AG_shot h o.1 o.2.1
  exact ⟨a, WF_shot o.1, b, P3_shot o.1 o.2.2⟩
theorem OKA_put {A : Nat → Int32} {k : Nat} {x : Int32} (o : OKA A) (hk : k = 2 ∨ k = 3 ∨ (7 < k ∧ k < 13) ∨ (13 < k ∧ k < 18) ∨ (19 < k ∧ k < 26) ∨ (26 < k ∧ k < 31)) : OKA (upd A k x) :=
  ⟨WF_hi o.1 (by omega), WX_same o.2.1 o.1 (fun j hj => upd_n (by omega)), P3_same o.2.2 (upd_n (by omega)) (upd_n (by omega))⟩
theorem OKA_level {A : Nat → Int32} {x : Int32} (o : OKA A) (hx : R_in x 0 (A 0) = 1) : OKA (upd A 1 x) :=
  ⟨WF_level o.1 hx, WX_same o.2.1 o.1 (fun j hj => upd_n (by omega)), P3_same o.2.2 (upd_n (by omega)) (upd_n (by omega))⟩
theorem AG_stirs {C A : Nat → Int32} {W : Nat → Int64} {p u w sp be : Int32} (h : AG C W A) : AG (R_stirs C p u w sp be) W (R_stirs A p u w sp be) := by
  unfold R_stirs
  exact AG_put (AG_put (AG_put (AG_put (AG_put h (by omega) (by omega)) (by omega) (by omega)) (by omega) (by omega)) (by omega) (by omega)) (by omega) (by omega)
theorem stirs_n {A : Nat → Int32} {p u w sp be : Int32} {j : Nat} (h : j ≠ 5 ∧ j ≠ 6 ∧ j ≠ 7 ∧ j ≠ 9 ∧ j ≠ 10) : R_stirs A p u w sp be j = A j := by
  unfold R_stirs
  rw [upd_n (by omega), upd_n (by omega), upd_n (by omega), upd_n (by omega), upd_n (by omega)]
theorem OKA_stirs {A : Nat → Int32} {p u w sp be : Int32} (o : OKA A) (hc : ¬ R_cStir p u w sp be = 0) : OKA (R_stirs A p u w sp be) :=
  ⟨WF_stirs o.1 hc, WX_same o.2.1 o.1 (fun j hj => stirs_n (by omega)), P3_same o.2.2 (stirs_n (by omega)) (stirs_n (by omega))⟩
theorem adds_4 {A : Nat → Int32} {k : Nat} {d s : Int32} : R_adds A k d s 4 = A 4 + 1 := by
  unfold R_adds
  rw [upd_s, upd_n (by omega), upd_n (by omega)]
theorem adds_a {A : Nat → Int32} {k : Nat} {d s : Int32} : R_adds A k d s (134 + 2 * k) = d := by
  unfold R_adds
  rw [upd_n (by omega), upd_n (by omega), upd_s]
theorem adds_b {A : Nat → Int32} {k : Nat} {d s : Int32} : R_adds A k d s (134 + 2 * k + 1) = s := by
  unfold R_adds
  rw [upd_n (by omega), upd_s]
theorem adds_n {A : Nat → Int32} {k : Nat} {d s : Int32} {j : Nat} (h : j ≠ 4 ∧ j ≠ 134 + 2 * k ∧ j ≠ 134 + 2 * k + 1) : R_adds A k d s j = A j := by
  unfold R_adds
  rw [upd_n (by omega), upd_n (by omega), upd_n (by omega)]
theorem AG_adds {C A : Nat → Int32} {W : Nat → Int64} {k : Nat} {d s : Int32} (h : AG C W A) (h4 : A 4 = nI k) (hk : k < 6) : AG (R_adds C k d s) W (R_adds A k d s) := by
  obtain ⟨a, b, c⟩ := h
  refine ⟨fun j hj => ?_, fun i hi => ?_, ?_⟩
  · by_cases e1 : j = 4
    · subst e1; rw [adds_4, adds_4, a.lo (by omega)]
    · by_cases e2 : j = 134 + 2 * k
      · subst e2; rw [adds_a, adds_a]
      · by_cases e3 : j = 134 + 2 * k + 1
        · subst e3; rw [adds_b, adds_b]
        · rw [adds_n ⟨e1, e2, e3⟩, adds_n ⟨e1, e2, e3⟩]
          refine a j ?_
          unfold Lv at hj ⊢
          rw [adds_n (by omega), adds_n (by omega), adds_n (by omega), adds_n (by omega), adds_4, h4, show nI k + 1 = nI (k + 1) from (nI_succ k).symm, cl_nI (x := nI (k + 1)) rfl (by omega)] at hj
          rw [h4, cl_nI (x := nI k) rfl (by omega)]
          omega
  · rw [adds_n (by omega)]; exact b i hi
  · unfold MC
    rw [adds_n (by omega), mkd_cong (B := A) 501 (fun i hi => adds_n (by omega))]
    exact c
theorem OKA_adds {A : Nat → Int32} {k : Nat} {d s : Int32} (o : OKA A) (h4 : A 4 = nI k) (hk : k < 6) (hc : ¬ R_cThing d s = 0) : OKA (R_adds A k d s) :=
  ⟨WF_adds o.1 h4 hk hc, WX_same o.2.1 o.1 (fun j hj => adds_n (by omega)), P3_same o.2.2 (adds_n (by omega)) (adds_n (by omega))⟩
theorem rm_v {A : Nat → Int32} {k k0 j : Nat} : R_rm A (k0 + 1) k j = if 134 + 2 * k ≤ j ∧ j < 134 + 2 * k0 then upd A 4 (A 4 - 1) (j + 2) else upd A 4 (A 4 - 1) j := rfl
theorem AG_rm {C A : Nat → Int32} {W : Nat → Int64} {k k0 : Nat} (h : AG C W A) (h4 : A 4 = nI (k0 + 1)) (hk : k < k0 + 1) (hK : k0 + 1 ≤ 6) : AG (upd (K_dr C k k0) 4 (K_dr C k k0 4 - 1)) W (R_rm A (k0 + 1) k) := by
  obtain ⟨a, b, c⟩ := h
  have rn : ∀ j, j ≠ 4 → j < 134 ∨ 134 + 2 * k0 ≤ j → R_rm A (k0 + 1) k j = A j := fun j h1 h2 => by rw [rm_v, if_neg (by omega), upd_n h1]
  have dn : ∀ j, j < 134 ∨ 134 + 2 * k0 ≤ j → K_dr C k k0 j = C j := fun j h2 => if_neg (by omega)
  have r4 : R_rm A (k0 + 1) k 4 = nI k0 := by
    rw [rm_v, if_neg (by omega), upd_s, h4]
    have := nI_succ k0
    rw [this]; grind
  refine ⟨fun j hj => ?_, fun i hi => ?_, ?_⟩
  · by_cases e1 : j = 4
    · subst e1; rw [upd_s, dn 4 (by omega), rm_v, if_neg (by omega), upd_s, a.lo (by omega)]
    · rw [upd_n e1]
      unfold Lv at hj
      rw [rn 31 (by omega) (by omega), rn 41 (by omega) (by omega), rn 102 (by omega) (by omega), rn 118 (by omega) (by omega), r4, cl_nI (x := nI k0) rfl (by omega)] at hj
      have lv : ∀ i, i ≠ 4 → (i = j ∨ (134 ≤ i ∧ i < 134 + 2 * (k0 + 1))) → C i = A i := fun i _ hi => a i (by
        unfold Lv
        rw [h4, cl_nI (x := nI (k0 + 1)) rfl (by omega)]
        omega)
      rw [rm_v]
      show (if 134 + 2 * k ≤ j ∧ j < 134 + 2 * k0 then C (j + 2) else C j) = _
      by_cases e2 : 134 + 2 * k ≤ j ∧ j < 134 + 2 * k0
      · rw [if_pos e2, if_pos e2, upd_n (by omega)]
        exact lv _ (by omega) (by omega)
      · rw [if_neg e2, if_neg e2, upd_n e1]
        exact lv _ e1 (Or.inl rfl)
  · rw [rn _ (by omega) (by omega)]; exact b i hi
  · unfold MC
    rw [upd_n (by omega), dn _ (by omega), mkd_cong (B := A) 501 (fun i hi => rn _ (by omega) (by omega))]
    exact c
theorem OKA_rm {A : Nat → Int32} {k k0 : Nat} (o : OKA A) (h4 : A 4 = nI (k0 + 1)) (hk : k < k0 + 1) (hK : k0 + 1 ≤ 6) : OKA (R_rm A (k0 + 1) k) := by
  have rn : ∀ j, j ≠ 4 → j < 134 ∨ 134 + 2 * k0 ≤ j → R_rm A (k0 + 1) k j = A j := fun j h1 h2 => by rw [rm_v, if_neg (by omega), upd_n h1]
  exact ⟨WF_rm o.1 h4 hK hk, WX_same o.2.1 o.1 (fun j hj => rn j (by omega) (by omega)), P3_same o.2.2 (rn _ (by omega) (by omega)) (rn _ (by omega) (by omega))⟩
