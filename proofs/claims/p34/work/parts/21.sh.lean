/-! a shot of the reference -/
theorem fires_1 {A : Nat → Int32} (h : WF A) : R_fires A 1 = R_lev A := by
  obtain ⟨K4, h4, hK4⟩ := h.K4
  obtain ⟨K5, h5, hK5⟩ := h.K5
  have h4m : R_move A 4 = nI K4 := (move_n (by decide) (by decide)).trans h4
  have h5m : R_move A 5 = nI K5 := (move_n (by decide) (by decide)).trans h5
  obtain ⟨e, he, hle, hout⟩ := EI_echoes (A := R_move A) (by rw [cl_nI h4m (by omega)]; exact hK4) (by rw [cl_nI h5m (by omega)]; exact hK5)
  have hK : cl (R_echoes (R_move A) 41) ≤ 15 := by rw [cl_nI he (by omega)]; exact hle
  obtain ⟨hC, hC2⟩ := CI_ch (A := R_echoes (R_move A)) _ hK
  unfold R_fires
  rw [show R_orders (R_chance (R_echoes (R_move A))) 1 = R_chance (R_echoes (R_move A)) 1 from ord_out _ (by omega)]
  unfold R_chance
  rw [upd_n (by omega), hC 1 (by omega), hout 1 (by omega)]
  unfold R_move
  rw [upd_n (by omega), upd_s]
theorem WF_of {A A' : Nat → Int32} (h : WF A) (hs : ∀ j, (j = 0 ∨ (4 ≤ j ∧ j ≤ 7) ∨ j = 18 ∨ j = 19 ∨ (134 ≤ j ∧ j < 146)) → A' j = A j) (l1 : 0 ≤ A' 1) (K31 : ∃ k, A' 31 = nI k ∧ k ≤ 9) (K41 : ∃ k, A' 41 = nI k ∧ k ≤ 15) (Ka : ∃ k, A' 102 = nI k ∧ k ≤ 15) (Kb : ∃ k, A' 118 = nI k ∧ k ≤ 15) : WF A' := WF.mk
  (D := by rw [hs 0 (by omega)]; exact h.D)
  (l1 := l1)
  (K4 := by rw [hs 4 (by omega)]; exact h.K4)
  (K5 := by rw [hs 5 (by omega)]; exact h.K5)
  (u6 := by rw [hs 6 (by omega)]; exact h.u6)
  (u7 := by rw [hs 7 (by omega)]; exact h.u7)
  (L18 := by rw [hs 18 (by omega)]; exact h.L18)
  (s19 := by rw [hs 19 (by omega)]; exact h.s19)
  (K31 := K31)
  (K41 := K41)
  (Ka := Ka)
  (Kb := Kb)
  (th := fun k hk => by rw [hs _ (by omega)]; exact h.th k hk)
theorem WF_fires {A : Nat → Int32} (h : WF A) : WF (R_fires A) := by
  refine WF_of h (fun j hj => fires_st h (by omega)) ?_ ?_ (fires_41 h) ?_ ?_
  · obtain ⟨v, hv, -, w, hw, hw1⟩ := lev_ok h
    rw [fires_1 h]
    unfold R_lev
    split
    · split
      · assumption
      · obtain ⟨D, hD, hD1⟩ := h.D
        rw [hD]; exact nI_pos' (by omega)
    · exact Int32.le_refl _
  · rw [fires_st h (by omega)]; exact h.K31
  · rw [fires_st h (by omega)]; exact h.Ka
  · rw [fires_st h (by omega)]; exact h.Kb
theorem looks_st {A : Nat → Int32} {K : Nat} (hK : A 41 = nI K) (hK15 : K ≤ 15) {j : Nat} (hj : j ≠ 29 ∧ (j < 45 ∨ 102 ≤ j)) : R_looks A j = A j := by
  rw [R_looks, cl_nI hK (by omega)]
  exact LI_looks K hK15 j (by omega) hj.1
theorem rem_st {A : Nat → Int32} {K : Nat} (hK : A 41 = nI K) (hK15 : K ≤ 15) {j : Nat} (hj : j < 102 ∨ 134 ≤ j) : R_remembers A j = A j := by
  rw [R_remembers, cl_nI hK (by omega), (MI2_r (A := A) K hK15).2 j (by omega)]
  unfold R_rm1
  rw [if_neg (by omega), if_neg (by omega)]
theorem rem_a {A : Nat → Int32} {K : Nat} (hK : A 41 = nI K) (hK15 : K ≤ 15) : ∃ k, R_remembers A 102 = nI k ∧ k ≤ 15 := by
  rw [R_remembers, cl_nI hK (by omega)]
  obtain ⟨⟨c, hc, hc1⟩, -⟩ := MI2_r (A := A) K hK15
  exact ⟨c, hc, by omega⟩
theorem rem_b {A : Nat → Int32} {K : Nat} (hK : A 41 = nI K) (hK15 : K ≤ 15) : R_remembers A 118 = A 102 := by
  rw [R_remembers, cl_nI hK (by omega), (MI2_r (A := A) K hK15).2 118 (by omega)]
  unfold R_rm1
  rw [if_pos (by omega)]
theorem picks_st {A : Nat → Int32} {K : Nat} (hK : A 41 = nI K) (hK15 : K ≤ 15) {j : Nat} (hj : j < 45 ∨ 102 ≤ j) : (R_picks A).1 j = A j := by
  rw [R_picks, cl_nI hK (by omega)]
  split
  · rfl
  · rename_i h9
    obtain ⟨e, he1, he⟩ := (PI_best (A := A) K).resolve_left h9
    rw [cl_nI he (by omega)]
    exact upd_n (by omega)
theorem cnt_st {A : Nat → Int32} {p : Int32} {j : Nat} (hj : j ≠ 24 ∧ j ≠ 25) : R_cnt A p j = A j := by
  unfold R_cnt
  rw [upd_n hj.2, upd_n hj.1]
theorem keeps_st {A : Nat → Int32} {p : Int32} {j : Nat} (hj : j < 31 ∨ 41 ≤ j) : R_keeps A p j = A j := by
  unfold R_keeps shk
  rw [upd_n (by omega), upd_n (by omega), if_neg (by omega)]
theorem keeps_31 {A : Nat → Int32} {p : Int32} (h18 : ∃ k, A 18 = nI k ∧ k ≤ 9) (h31 : ∃ k, A 31 = nI k ∧ k ≤ 9) : ∃ k, R_keeps A p 31 = nI k ∧ k ≤ 9 := by
  obtain ⟨a, ha, ha9⟩ := h18
  obtain ⟨b, hb, hb9⟩ := h31
  have e18 : upd (shk A 0) 32 p 18 = nI a := by unfold shk; rw [upd_n (by omega), if_neg (by omega)]; exact ha
  have e31 : upd (shk A 0) 32 p 31 = nI b := by unfold shk; rw [upd_n (by omega), if_neg (by omega)]; exact hb
  unfold R_keeps
  rw [upd_s, e18, e31]
  split
  · exact ⟨a, rfl, ha9⟩
  · rename_i h9
    have h8 : ¬ a ≤ b := fun z => h9 ((nI_leI (by omega) (by omega)).mpr z)
    exact ⟨b + 1, (nI_succ b).symm, by omega⟩
theorem tells_st {A : Nat → Int32} {j : Nat} (hj : j < 26 ∨ (27 < j ∧ j < 32) ∨ 41 ≤ j) : R_tells A j = A j := by
  unfold R_tells
  split
  · split
    · unfold R_wipe R_miss
      rw [if_neg (by omega), upd_n (by omega), upd_n (by omega)]
    · unfold R_miss
      rw [upd_n (by omega)]
  · rw [upd_n (by omega), upd_n (by omega)]
theorem al_st {A : Nat → Int32} {j : Nat} (hj : j ≠ 28) : R_al A j = A j := by
  have h1 : R_alt A j = A j := by
    unfold R_alt
    split
    · split
      · rfl
      · exact upd_n hj
    · rfl
  unfold R_al
  split
  · exact upd_n hj
  · split
    · split
      · split
        · split
          · exact upd_n hj
          · exact h1
        · exact h1
      · exact upd_n hj
    · exact upd_n hj
theorem alarms_st {A : Nat → Int32} {j : Nat} (hj : j ≠ 28 ∧ j ≠ 30) : R_alarms A j = A j := by
  unfold R_alarms
  rw [upd_n hj.2, al_st hj.1]
/-- the steps of a shot, and what each of them needs -/
def SH (A F Lk Rm P C T : Nat → Int32) (p : Int32) : Prop := (F = R_fires A) ∧ (Lk = R_looks F) ∧ (Rm = R_remembers Lk) ∧ (P = (R_picks Rm).1) ∧ (p = (R_picks Rm).2) ∧ (C = R_keeps (R_cnt P p) p) ∧ (T = R_tells C) ∧ (∃ K, K ≤ 15 ∧ F 41 = nI K ∧ Lk 41 = nI K ∧ Rm 41 = nI K ∧ P 41 = nI K ∧ C 41 = nI K ∧ T 41 = nI K) ∧ (∃ k, C 31 = nI k ∧ k ≤ 9) ∧ (¬ C 19 = 0) ∧ (WF (R_alarms T))
theorem SH.f {A F Lk Rm P C T : Nat → Int32} {p : Int32} (h : SH A F Lk Rm P C T p) : F = R_fires A := h.1
theorem SH.lk {A F Lk Rm P C T : Nat → Int32} {p : Int32} (h : SH A F Lk Rm P C T p) : Lk = R_looks F := h.2.1
theorem SH.rm {A F Lk Rm P C T : Nat → Int32} {p : Int32} (h : SH A F Lk Rm P C T p) : Rm = R_remembers Lk := h.2.2.1
theorem SH.pp {A F Lk Rm P C T : Nat → Int32} {p : Int32} (h : SH A F Lk Rm P C T p) : P = (R_picks Rm).1 := h.2.2.2.1
theorem SH.p2 {A F Lk Rm P C T : Nat → Int32} {p : Int32} (h : SH A F Lk Rm P C T p) : p = (R_picks Rm).2 := h.2.2.2.2.1
theorem SH.c {A F Lk Rm P C T : Nat → Int32} {p : Int32} (h : SH A F Lk Rm P C T p) : C = R_keeps (R_cnt P p) p := h.2.2.2.2.2.1
theorem SH.t {A F Lk Rm P C T : Nat → Int32} {p : Int32} (h : SH A F Lk Rm P C T p) : T = R_tells C := h.2.2.2.2.2.2.1
theorem SH.K {A F Lk Rm P C T : Nat → Int32} {p : Int32} (h : SH A F Lk Rm P C T p) : ∃ K, K ≤ 15 ∧ F 41 = nI K ∧ Lk 41 = nI K ∧ Rm 41 = nI K ∧ P 41 = nI K ∧ C 41 = nI K ∧ T 41 = nI K := h.2.2.2.2.2.2.2.1
theorem SH.wf {A F Lk Rm P C T : Nat → Int32} {p : Int32} (h : SH A F Lk Rm P C T p) : WF (R_alarms T) := h.2.2.2.2.2.2.2.2.2.2
theorem SH_ok {A : Nat → Int32} (h : WF A) : ∃ F Lk Rm P C T p, SH A F Lk Rm P C T p := by
  have hF := WF_fires h
  obtain ⟨K, hK, hK15⟩ := hF.K41
  have hL : R_looks (R_fires A) 41 = nI K := (looks_st hK hK15 (by omega)).trans hK
  have hR : R_remembers (R_looks (R_fires A)) 41 = nI K := (rem_st hL hK15 (by omega)).trans hL
  have hP : (R_picks (R_remembers (R_looks (R_fires A)))).1 41 = nI K := (picks_st hR hK15 (by omega)).trans hR
  have st : ∀ (p : Int32) (j : Nat), (j < 24 ∨ (40 < j ∧ j < 45) ∨ 134 ≤ j) → R_keeps (R_cnt (R_picks (R_remembers (R_looks (R_fires A)))).1 p) p j = R_fires A j := fun p j hj => by
    rw [keeps_st (by omega), cnt_st (by omega), picks_st hR hK15 (by omega), rem_st hL hK15 (by omega), looks_st hK hK15 (by omega)]
  have st2 : ∀ (p : Int32) (j : Nat), (j < 24 ∨ (40 < j ∧ j < 45) ∨ 134 ≤ j) → R_alarms (R_tells (R_keeps (R_cnt (R_picks (R_remembers (R_looks (R_fires A)))).1 p) p)) j = R_fires A j := fun p j hj => by
    rw [alarms_st (by omega), tells_st (by omega), st p j hj]
  have c31 : ∀ p : Int32, ∃ k, R_keeps (R_cnt (R_picks (R_remembers (R_looks (R_fires A)))).1 p) p 31 = nI k ∧ k ≤ 9 := fun p => keeps_31 (by
    rw [cnt_st (by omega), picks_st hR hK15 (by omega), rem_st hL hK15 (by omega), looks_st hK hK15 (by omega)]; exact hF.L18) (by
    rw [cnt_st (by omega), picks_st hR hK15 (by omega), rem_st hL hK15 (by omega), looks_st hK hK15 (by omega)]; exact hF.K31)
  refine ⟨_, _, _, _, _, _, (R_picks (R_remembers (R_looks (R_fires A)))).2, rfl, rfl, rfl, rfl, rfl, rfl, rfl, ⟨K, hK15, hK, hL, hR, hP, (st _ 41 (by omega)).trans hK, ?_⟩, c31 _, ?_, ?_⟩
  · rw [tells_st (by omega), st _ _ (by omega)]; exact hK
  · rw [st _ _ (by omega)]; exact hF.s19
  · refine WF_of hF (fun j hj => st2 _ j (by omega)) (by rw [st2 _ _ (by omega)]; exact hF.l1) ?_ ⟨K, (st2 _ _ (by omega)).trans hK, hK15⟩ ?_ ?_
    · rw [alarms_st (by omega), tells_st (by omega)]; exact c31 _
    · rw [alarms_st (by omega), tells_st (by omega), keeps_st (by omega), cnt_st (by omega), picks_st hR hK15 (by omega)]
      exact rem_a hL hK15
    · rw [alarms_st (by omega), tells_st (by omega), keeps_st (by omega), cnt_st (by omega), picks_st hR hK15 (by omega), rem_b hL hK15, looks_st hK hK15 (by omega)]
      exact hF.Ka
theorem shot_1 {A : Nat → Int32} : (R_shot A).1 = R_alarms (R_tells (R_keeps (R_cnt (R_sh4 A).1 (R_sh4 A).2) (R_sh4 A).2)) := by rw [R_shot]
theorem sh4_eq {A : Nat → Int32} : R_sh4 A = R_picks (R_remembers (R_looks (R_fires A))) := by rw [R_sh4]
theorem WF_shot {A : Nat → Int32} (h : WF A) : WF (R_shot A).1 := by
  obtain ⟨F, Lk, Rm, P, C, T, p, s⟩ := SH_ok h
  have := s.wf
  rw [s.t, s.c, s.pp, s.p2, s.rm, s.lk, s.f] at this
  rw [shot_1, sh4_eq]
  exact this
