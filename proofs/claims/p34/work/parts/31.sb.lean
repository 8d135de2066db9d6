/-! every deed keeps the row as it must be -/
theorem WF_begins {A : Nat → Int32} {d : Int32} (h : R_in d 500 10000 = 1) : WF (R_begins A d) := WF.mk
  (D := by
    obtain ⟨k, hk, -, hk1⟩ := in_ex (a := 500) (b := 10000) h rfl rfl (by omega) (by omega)
    exact ⟨k, hk, hk1⟩)
  (l1 := (by decide : (0 : Int32) ≤ 500))
  (K4 := ⟨0, rfl, by omega⟩)
  (K5 := ⟨0, rfl, by omega⟩)
  (u6 := (by decide : (0 : Int32) ≤ 300))
  (u7 := (by decide : (0 : Int32) ≤ 600))
  (L18 := ⟨5, rfl, by omega⟩)
  (s19 := (by decide : ¬ (4 : Int32) = 0))
  (K31 := ⟨0, rfl, by omega⟩)
  (K41 := ⟨0, rfl, by omega⟩)
  (Ka := ⟨0, rfl, by omega⟩)
  (Kb := ⟨0, rfl, by omega⟩)
  (th := fun k hk => by
    have h6 : k = 0 ∨ k = 1 ∨ k = 2 ∨ k = 3 ∨ k = 4 ∨ k = 5 := by omega
    rcases h6 with rfl | rfl | rfl | rfl | rfl | rfl
    all_goals exact (by decide : (0 : Int32) ≤ 0))
theorem WF_hi {A : Nat → Int32} {k : Nat} {x : Int32} (h : WF A) (hk : k = 2 ∨ k = 3 ∨ (7 < k ∧ k < 18) ∨ (19 < k ∧ k < 31) ∨ 146 ≤ k) : WF (upd A k x) := by
  refine WF_of h (fun j hj => upd_n (by omega)) ?_ ?_ ?_ ?_ ?_
  · rw [upd_n (by omega)]; exact h.l1
  · rw [upd_n (by omega)]; exact h.K31
  · rw [upd_n (by omega)]; exact h.K41
  · rw [upd_n (by omega)]; exact h.Ka
  · rw [upd_n (by omega)]; exact h.Kb
theorem in_nn {x hi : Int32} (h : R_in x 0 hi = 1) : 0 ≤ x := nlt_le (in_1 h).1
theorem WF_level {A : Nat → Int32} {x : Int32} (h : WF A) (hx : R_in x 0 (A 0) = 1) : WF (upd A 1 x) := by
  refine WF_of h (fun j hj => upd_n (by omega)) ?_ ?_ ?_ ?_ ?_
  · rw [upd_s]; exact in_nn hx
  · rw [upd_n (by omega)]; exact h.K31
  · rw [upd_n (by omega)]; exact h.K41
  · rw [upd_n (by omega)]; exact h.Ka
  · rw [upd_n (by omega)]; exact h.Kb
theorem WF_adds {A : Nat → Int32} {k : Nat} {d s : Int32} (h : WF A) (h4 : A 4 = nI k) (hk : k < 6) (hc : ¬ R_cThing d s = 0) : WF (R_adds A k d s) := by
  have hd : 0 ≤ d := in_nn ((in01 d 0 10000).resolve_left fun z => hc (by rw [R_cThing, if_pos z]))
  have st : ∀ j, j ≠ 4 → j ≠ 134 + 2 * k → j ≠ 134 + 2 * k + 1 → R_adds A k d s j = A j := fun j a b c => by
    unfold R_adds
    rw [upd_n a, upd_n c, upd_n b]
  have e4 : R_adds A k d s 4 = nI (k + 1) := by
    unfold R_adds
    rw [upd_s, upd_n (by omega), upd_n (by omega), h4]
    exact nI_1 k
  exact WF.mk
    (D := by rw [st 0 (by omega) (by omega) (by omega)]; exact h.D)
    (l1 := by rw [st 1 (by omega) (by omega) (by omega)]; exact h.l1)
    (K4 := ⟨k + 1, e4, by omega⟩)
    (K5 := by rw [st 5 (by omega) (by omega) (by omega)]; exact h.K5)
    (u6 := by rw [st 6 (by omega) (by omega) (by omega)]; exact h.u6)
    (u7 := by rw [st 7 (by omega) (by omega) (by omega)]; exact h.u7)
    (L18 := by rw [st 18 (by omega) (by omega) (by omega)]; exact h.L18)
    (s19 := by rw [st 19 (by omega) (by omega) (by omega)]; exact h.s19)
    (K31 := by rw [st 31 (by omega) (by omega) (by omega)]; exact h.K31)
    (K41 := by rw [st 41 (by omega) (by omega) (by omega)]; exact h.K41)
    (Ka := by rw [st 102 (by omega) (by omega) (by omega)]; exact h.Ka)
    (Kb := by rw [st 118 (by omega) (by omega) (by omega)]; exact h.Kb)
    (th := fun j hj => by
      by_cases e : j = k
      · subst e
        unfold R_adds
        rw [upd_n (by omega), upd_n (by omega), upd_s]
        exact hd
      · rw [st _ (by omega) (by omega) (by omega)]; exact h.th j hj)
theorem WF_rm {A : Nat → Int32} {k x : Nat} (h : WF A) (h4 : A 4 = nI k) (hk : k ≤ 6) (hx : x < k) : WF (R_rm A k x) := by
  have st : ∀ j, j ≠ 4 → (j < 134 ∨ 146 ≤ j) → R_rm A k x j = A j := fun j a b => by
    unfold R_rm R_shl
    rw [if_neg (by omega), upd_n a]
  have e4 : R_rm A k x 4 = nI (k - 1) := by
    unfold R_rm R_shl
    rw [if_neg (by omega), upd_s, h4]
    exact nsub rfl rfl (by omega)
  exact WF.mk
    (D := by rw [st 0 (by omega) (by omega)]; exact h.D)
    (l1 := by rw [st 1 (by omega) (by omega)]; exact h.l1)
    (K4 := ⟨k - 1, e4, by omega⟩)
    (K5 := by rw [st 5 (by omega) (by omega)]; exact h.K5)
    (u6 := by rw [st 6 (by omega) (by omega)]; exact h.u6)
    (u7 := by rw [st 7 (by omega) (by omega)]; exact h.u7)
    (L18 := by rw [st 18 (by omega) (by omega)]; exact h.L18)
    (s19 := by rw [st 19 (by omega) (by omega)]; exact h.s19)
    (K31 := by rw [st 31 (by omega) (by omega)]; exact h.K31)
    (K41 := by rw [st 41 (by omega) (by omega)]; exact h.K41)
    (Ka := by rw [st 102 (by omega) (by omega)]; exact h.Ka)
    (Kb := by rw [st 118 (by omega) (by omega)]; exact h.Kb)
    (th := fun j hj => by
      unfold R_rm R_shl
      split
      · rw [upd_n (by omega), show 134 + 2 * j + 2 = 134 + 2 * (j + 1) by omega]
        exact h.th (j + 1) (by omega)
      · rw [upd_n (by omega)]; exact h.th j hj)
theorem cstir_1 {b u w sp be : Int32} (h : ¬ R_cStir b u w sp be = 0) : R_in b 0 6 = 1 ∧ R_in u 0 10000 = 1 ∧ R_in w 0 10000 = 1 ∧ ¬ w ≤ u ∧ R_in sp 0 359 = 1 ∧ R_in be 0 90 = 1 := by
  unfold R_cStir at h
  by_cases h1 : R_in b 0 6 = 0
  · rw [if_pos h1] at h; exact absurd rfl h
  rw [if_neg h1] at h
  by_cases h2 : R_in u 0 10000 = 0
  · rw [if_pos h2] at h; exact absurd rfl h
  rw [if_neg h2] at h
  by_cases h3 : R_in w 0 10000 = 0
  · rw [if_pos h3] at h; exact absurd rfl h
  rw [if_neg h3] at h
  by_cases h4 : w ≤ u
  · rw [if_pos h4] at h; exact absurd rfl h
  rw [if_neg h4] at h
  by_cases h5 : R_in sp 0 359 = 0
  · rw [if_pos h5] at h; exact absurd rfl h
  rw [if_neg h5] at h
  by_cases h6 : R_in be 0 90 = 0
  · rw [if_pos h6] at h; exact absurd rfl h
  exact ⟨(in01 _ _ _).resolve_left h1, (in01 _ _ _).resolve_left h2, (in01 _ _ _).resolve_left h3, h4, (in01 _ _ _).resolve_left h5, (in01 _ _ _).resolve_left h6⟩
theorem WF_stirs {A : Nat → Int32} {b u w sp be : Int32} (h : WF A) (hc : ¬ R_cStir b u w sp be = 0) : WF (R_stirs A b u w sp be) := by
  obtain ⟨h1, h2, h3, h4, h5, h6⟩ := cstir_1 hc
  have st : ∀ j, (j < 5 ∨ j = 8 ∨ 10 < j) → R_stirs A b u w sp be j = A j := fun j a => by
    unfold R_stirs
    rw [upd_n (by omega), upd_n (by omega), upd_n (by omega), upd_n (by omega), upd_n (by omega)]
  exact WF.mk
    (D := by rw [st 0 (by omega)]; exact h.D)
    (l1 := by rw [st 1 (by omega)]; exact h.l1)
    (K4 := by rw [st 4 (by omega)]; exact h.K4)
    (K5 := by
      obtain ⟨k, hk, -, hk1⟩ := in_ex (a := 0) (b := 6) h1 rfl rfl (by omega) (by omega)
      exact ⟨k, hk, hk1⟩)
    (u6 := in_nn h2)
    (u7 := in_nn h3)
    (L18 := by rw [st 18 (by omega)]; exact h.L18)
    (s19 := by rw [st 19 (by omega)]; exact h.s19)
    (K31 := by rw [st 31 (by omega)]; exact h.K31)
    (K41 := by rw [st 41 (by omega)]; exact h.K41)
    (Ka := by rw [st 102 (by omega)]; exact h.Ka)
    (Kb := by rw [st 118 (by omega)]; exact h.Kb)
    (th := fun k hk => by rw [st _ (by omega)]; exact h.th k hk)
theorem WF_sets {A : Nat → Int32} {k : Nat} {x d : Int32} (h : WF A) (hx : x = nI k) (hk : k ≤ 11) (hc : ¬ R_cSet A x d = 0) : WF (R_sets A k d) := by
  have hv : R_in d (R_least x) (R_most k) = 1 := by
    refine (in01 _ _ _).resolve_left fun z => hc ?_
    unfold R_cSet
    rw [cl_nI hx (by omega), if_pos z]
    split <;> rfl
  have st : ∀ j, j ≠ 31 → j ≠ 12 + k → R_sets A k d j = A j := fun j a b => by
    unfold R_sets
    rw [upd_n a, upd_n b]
  have e18 : ∃ v, R_sets A k d 18 = nI v ∧ v ≤ 9 := by
    by_cases h6 : k = 6
    · subst h6
      subst hx
      obtain ⟨v, hv1, -, hv2⟩ := in_ex (a := 1) (b := 9) hv rfl rfl (by omega) (by omega)
      exact ⟨v, hv1, hv2⟩
    · rw [st 18 (by omega) (by omega)]; exact h.L18
  have e18' : ∃ v, upd A (12 + k) d 18 = nI v ∧ v ≤ 9 := by
    have e : R_sets A k d 18 = upd A (12 + k) d 18 := by unfold R_sets; rw [upd_n (by omega)]
    rw [e] at e18
    exact e18
  have e19 : ¬ R_sets A k d 19 = 0 := by
    by_cases h7 : k = 7
    · subst h7
      subst hx
      intro z
      obtain ⟨v, hv1, hv3, hv2⟩ := in_ex (a := 1) (b := 20) hv rfl rfl (by omega) (by omega)
      have z' : d = 0 := z
      rw [hv1] at z'
      exact nI_ne0 (by omega) (by omega) z'
    · rw [st 19 (by omega) (by omega)]; exact h.s19
  have e31 : ∃ v, R_sets A k d 31 = nI v ∧ v ≤ 9 := by
    unfold R_sets
    rw [upd_s]
    unfold R_cut
    split
    · rw [upd_n (by omega)]; exact h.K31
    · exact e18'
  exact WF.mk
    (D := by rw [st 0 (by omega) (by omega)]; exact h.D)
    (l1 := by rw [st 1 (by omega) (by omega)]; exact h.l1)
    (K4 := by rw [st 4 (by omega) (by omega)]; exact h.K4)
    (K5 := by rw [st 5 (by omega) (by omega)]; exact h.K5)
    (u6 := by rw [st 6 (by omega) (by omega)]; exact h.u6)
    (u7 := by rw [st 7 (by omega) (by omega)]; exact h.u7)
    (L18 := e18)
    (s19 := e19)
    (K31 := e31)
    (K41 := by rw [st 41 (by omega) (by omega)]; exact h.K41)
    (Ka := by rw [st 102 (by omega) (by omega)]; exact h.Ka)
    (Kb := by rw [st 118 (by omega) (by omega)]; exact h.Kb)
    (th := fun k' hk' => by rw [st _ (by omega) (by omega)]; exact h.th k' hk')
theorem WF_unm {A : Nat → Int32} (h : WF A) (k : Nat) : WF (R_unm A k) := by
  have st : ∀ j, j < 146 → R_unm A k j = A j := fun j hj => if_neg (by omega)
  refine WF_of h (fun j hj => st j (by omega)) ?_ ?_ ?_ ?_ ?_
  · rw [st _ (by omega)]; exact h.l1
  · rw [st _ (by omega)]; exact h.K31
  · rw [st _ (by omega)]; exact h.K41
  · rw [st _ (by omega)]; exact h.Ka
  · rw [st _ (by omega)]; exact h.Kb
