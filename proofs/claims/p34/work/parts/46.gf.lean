/-! class and reference agree: a shot -/
def M4 (m : Int32) : Prop := m = 0 ∨ m = 1 ∨ m = 3 ∨ m = 5
def WX (A : Nat → Int32) : Prop := (∃ j, A 13 = nI j ∧ j ≤ 20) ∧ (∃ L, A 18 = nI L ∧ 1 ≤ L ∧ L ≤ 9) ∧ (∃ f, A 19 = nI f ∧ 1 ≤ f ∧ f ≤ 20) ∧ (∀ D, A 0 = nI D → D ≤ 10000 → TB D (A 26) ∧ ∀ i, i < cl (A 31) → TB D (A (32 + i))) ∧ (∀ i, i < cl (A 102) → ∃ t, t ≤ 10000 ∧ A (102 + 1 + i) = nI t) ∧ (∀ i, i < cl (A 118) → ∃ t, t ≤ 10000 ∧ A (118 + 1 + i) = nI t) ∧ (∀ e, e < cl (A 41) → M4 (A (42 + 4 * e + 3))) ∧ ∀ i, i ≤ 500 → A (146 + i) = 0 ∨ A (146 + i) = 1
def MW (W : Nat → Int64) (A : Nat → Int32) : Prop := ∀ i, i ≤ 500 → K_bin W i = A (146 + i)
theorem MK_1 {m : Int32} (h : MK m) : K_mk m 1 = 0 ↔ m = 0 := by
  rcases h with rfl | rfl | rfl <;> decide
theorem MK_M4 {m : Int32} (h : MK m) : M4 m := by
  rcases h with h | h | h
  · exact Or.inl h
  · exact Or.inr (Or.inl h)
  · exact Or.inr (Or.inr (Or.inl h))
theorem pk_n {C : Nat → Int32} {x : Int32} {j : Nat} (h : j < 42 ∨ 102 ≤ j ∨ (j - 42) % 4 ≠ 3) (hx : x = -1 ∨ ∃ e, e < 15 ∧ x = nI e) : K_pk C x j = C j := by
  unfold K_pk
  by_cases h1 : x = -1
  · rw [if_pos h1]
  · obtain ⟨e, he, ex⟩ := hx.resolve_left h1
    rw [if_neg h1, cl_nI ex (by omega), upd_n (by omega)]
theorem old_n {C : Nat → Int32} {j : Nat} (h : j < 118 ∨ 134 ≤ j) : K_old C j = C j := if_neg (by omega)
theorem old_i {C : Nat → Int32} {j : Nat} (h : 102 ≤ j ∧ j < 118) : K_old C (j + 16) = C j := by
  unfold K_old
  rw [if_pos (by omega), Nat.add_sub_cancel]
theorem shot_mid {C A X1 Y1 : Nat → Int32} {n K K4 Ka L f D : Nat} {x : Int32} (hA : Ag C A) (hn : n ≤ 15) (hD : A 0 = nI D) (hD1 : D ≤ 10000) (h4 : A 4 = nI K4) (hK4 : K4 ≤ 6) (h31 : A 31 = nI K) (hK9 : K ≤ 9) (ha : A 102 = nI Ka) (hKa : Ka ≤ 15) (h18 : A 18 = nI L) (hL1 : 1 ≤ L) (hL9 : L ≤ 9) (h19 : A 19 = nI f) (hf1 : 1 ≤ f) (hf20 : f ≤ 20) (hj13 : ∃ j, A 13 = nI j ∧ j ≤ 20) (hT26 : TB D (A 26)) (hTp : ∀ i, i < cl (A 31) → TB D (A (32 + i))) (hra : ∀ i, i < cl (A 102) → ∃ t, t ≤ 10000 ∧ A (102 + 1 + i) = nI t) (hms : ∀ i, i ≤ 500 → A (146 + i) = 0 ∨ A (146 + i) = 1)
    (X1lo : ∀ j, j ≤ 31 → X1 j = Y1 j) (X1sl : ∀ j, 42 ≤ j → j < 42 + 4 * n → X1 j = Y1 j) (X1hi : ∀ j, (32 ≤ j ∧ j ≤ 40) ∨ 102 ≤ j → X1 j = C j) (Y1hi : ∀ j, (32 ≤ j ∧ j ≤ 40) ∨ 102 ≤ j → Y1 j = A j) (Y1st : ∀ j, j ≠ 1 ∧ j ≠ 8 ∧ j ≠ 11 ∧ j ≠ 29 ∧ j < 41 → Y1 j = A j) (X1_41 : X1 41 = nI n) (Y1_41 : Y1 41 = nI n) (Y1d : ∀ e, e < n → ¬ Y1 (42 + 4 * e + 3) = 0 → ∃ t, t ≤ D ∧ Y1 (42 + 4 * e + 1) = nI t) (Y1m : ∀ e, e < n → MK (Y1 (42 + 4 * e + 3))) (hxd : K_best X1 (X1 17) (X1 26) n = x) :
    Ag (K_enter (K_sh6 X1 x) (K_pd (K_sh6 X1 x) x) (K_sh6 X1 x 0) (min (cl (K_sh6 X1 x 31) + 1) (cl (K_sh6 X1 x 18)))) (R_hist (R_picks (R_remembers Y1)).1 (R_picks (R_remembers Y1)).2) ∧ WX (R_hist (R_picks (R_remembers Y1)).1 (R_picks (R_remembers Y1)).2) ∧ ∀ j, 134 ≤ j → K_enter (K_sh6 X1 x) (K_pd (K_sh6 X1 x) x) (K_sh6 X1 x 0) (min (cl (K_sh6 X1 x 31) + 1) (cl (K_sh6 X1 x 18))) j = C j ∧ R_hist (R_picks (R_remembers Y1)).1 (R_picks (R_remembers Y1)).2 j = A j := by
  have cla : cl (A 102) = Ka := cl_nI ha (by omega)
  have cl31 : cl (A 31) = K := cl_nI h31 (by omega)
  have cl4 : cl (A 4) = K4 := cl_nI h4 (by omega)
  have ag102 : C 102 = A 102 := hA 102 (by unfold Lv; omega)
  have agL : ∀ i, i < Ka → C (103 + i) = A (103 + i) := fun i hi => hA _ (by unfold Lv; omega)
  have agP : ∀ i, i < K → C (32 + i) = A (32 + i) := fun i hi => hA _ (by unfold Lv; omega)
  -- remembered
  have Y2n : ∀ j, j < 102 ∨ 134 ≤ j → R_remembers Y1 j = Y1 j := fun j hj => rem_st Y1_41 hn hj
  have b := best_ag (X := X1) (Y := R_remembers Y1) (mode := X1 17) (told := X1 26) hn (fun j a1 a2 => by rw [Y2n j (by omega)]; exact X1sl j a1 a2) (by rw [Y2n 17 (by omega)]; exact (X1lo 17 (by omega)).symm) (by rw [Y2n 26 (by omega)]; exact (X1lo 26 (by omega)).symm) (by
    rw [X1lo 26 (by omega), Y1st 26 (by omega)]
    rcases hT26 with h | ⟨t, ht, e⟩
    · exact Or.inl h
    · exact Or.inr ⟨t, by omega, e⟩) (fun e he => by rw [Y2n _ (by omega)]; exact Y1m e he) (fun e he h => by
    rw [Y2n _ (by omega)] at h ⊢
    obtain ⟨t, ht, et⟩ := Y1d e he h
    exact ⟨t, by omega, et⟩) n (Nat.le_refl _)
  have eR41 : cl (R_remembers Y1 41) = n := by rw [Y2n 41 (by omega), cl_nI Y1_41 (by omega)]
  unfold BR at b
  rw [hxd] at b
  have hxx : x = -1 ∨ ∃ e, e < 15 ∧ x = nI e := by
    rcases b with ⟨b1, -⟩ | ⟨e, b0, b1, -⟩
    · exact Or.inl b1
    · exact Or.inr ⟨e, by omega, b1⟩
  have hmm : ∀ e, e < n → (K_mk (K_pk X1 x (42 + 4 * e + 3)) 1 = 0 ↔ Y1 (42 + 4 * e + 3) = 0) := fun e he => by
    rcases b with ⟨b1, -⟩ | ⟨e0, b0, b1, -, b3⟩
    · unfold K_pk
      rw [if_pos b1, X1sl _ (by omega) (by omega)]
      exact MK_1 (Y1m e he)
    · have nb : ¬ x = -1 := by rw [b1]; exact neg1_ne (by omega)
      unfold K_pk
      rw [if_neg nb, cl_nI b1 (by omega)]
      rw [Y2n _ (by omega)] at b3
      by_cases h1 : e = e0
      · subst h1
        rw [upd_s, X1sl _ (by omega) (by omega), b3]
        decide
      · rw [upd_n (by omega), X1sl _ (by omega) (by omega)]
        exact MK_1 (Y1m e he)
  have hpn : ∀ j, (j < 42 ∨ 102 ≤ j ∨ (j - 42) % 4 ≠ 3) → K_pk X1 x j = X1 j := fun j h => pk_n h hxx
  have t := take_ag (X := K_pk X1 x) (Y := Y1) hn hmm (fun e he => by rw [hpn _ (by omega)]; exact X1sl _ (by omega) (by omega)) n (Nat.le_refl _)
  have eT : K_sh6 X1 x = itN K_tkb n (upd (K_old (K_pk X1 x)) 102 0) := by
    unfold K_sh6 K_take
    rw [old_n (by omega), hpn 41 (by omega), cl_nI X1_41 (by omega)]
  have eV : R_remembers Y1 = itN R_rmb n (R_rm1 Y1 16) := by unfold R_remembers; rw [cl_nI Y1_41 (by omega)]
  have kU := (KTI_r (C := K_old (K_pk X1 x)) n hn).2
  rw [← eT, ← eV] at t
  rw [← eT] at kU
  obtain ⟨c, hc, u102, v102, tr1, tr2⟩ := t
  have Ulo : ∀ j, j < 102 ∨ 134 ≤ j → K_sh6 X1 x j = K_pk X1 x j := fun j hj => by rw [kU j (by omega), old_n (by omega)]
  have U118 : ∀ i, i < 16 → K_sh6 X1 x (118 + i) = C (102 + i) := fun i hi => by
    rw [kU _ (by omega), show 118 + i = 102 + i + 16 by omega, old_i (by omega), hpn _ (by omega), X1hi _ (by omega)]
  have V118 : ∀ i, i < 16 → R_remembers Y1 (118 + i) = A (102 + i) := fun i hi => by
    rw [eV, (MI2_r (A := Y1) n hn).2 _ (by omega)]
    unfold R_rm1
    rw [if_pos (by omega), show 118 + i - 16 = 102 + i by omega, Y1hi _ (by omega)]
  generalize K_sh6 X1 x = U at u102 tr1 Ulo U118 ⊢
  clear eT kU
  -- picked
  have fin : ∀ (Y3 : Nat → Int32) (p : Int32), (∀ j, (j < 42 ∨ 102 ≤ j ∨ (j - 42) % 4 ≠ 3) → Y3 j = R_remembers Y1 j) → (∀ e, e < n → U (42 + 4 * e + 3) = Y3 (42 + 4 * e + 3)) → (∀ e, e < n → M4 (Y3 (42 + 4 * e + 3))) → K_pd U x = p → TB D p → Ag (K_enter U (K_pd U x) (U 0) (min (cl (U 31) + 1) (cl (U 18)))) (R_hist Y3 p) ∧ WX (R_hist Y3 p) ∧ ∀ j, 134 ≤ j → K_enter U (K_pd U x) (U 0) (min (cl (U 31) + 1) (cl (U 18))) j = C j ∧ R_hist Y3 p j = A j := by
    intro Y3 p y3n y3m y3M ep hp
    have Y3lo : ∀ j, j < 42 → Y3 j = Y1 j := fun j hj => by rw [y3n j (by omega), Y2n j (by omega)]
    have lo : ∀ j, j ≤ 31 → U j = Y3 j := fun j hj => by rw [Ulo j (by omega), hpn j (by omega), Y3lo j (by omega)]; exact X1lo j hj
    have st : ∀ j, j ≠ 1 ∧ j ≠ 8 ∧ j ≠ 11 ∧ j ≠ 29 ∧ j < 41 → Y3 j = A j := fun j hj => (Y3lo j (by omega)).trans (Y1st j hj)
    have e31 : Y3 31 = nI K := (st 31 (by omega)).trans h31
    have e18 : Y3 18 = nI L := (st 18 (by omega)).trans h18
    have e19 : Y3 19 = nI f := (st 19 (by omega)).trans h19
    have e0 : Y3 0 = nI D := (st 0 (by omega)).trans hD
    have hHQ : HQ K U Y3 := ⟨lo, fun i hi => by rw [Ulo _ (by omega), hpn _ (by omega), X1hi _ (by omega), st _ (by omega)]; exact agP i hi⟩
    have hb3 : ∀ i, i < K → TB D (Y3 (32 + i)) := fun i hi => by rw [st _ (by omega)]; exact hTp i (by omega)
    obtain ⟨hq, r31, r26, rp⟩ := enter_ag (p := p) hHQ e31 hK9 e18 hL9 e19 hf1 hf20 e0 hD1 hp hb3 (by rw [st 26 (by omega)]; exact hT26)
    have hn9 : ∀ j, j < 24 ∨ 41 ≤ j → R_hist Y3 p j = Y3 j := fun j hj => by
      unfold R_hist
      rw [alarms_st (by omega), tells_st (by omega), keeps_st (by omega), cnt_st (by omega)]
    rw [ep, lo 31 (by omega), lo 18 (by omega), e31, e18, cl_nI rfl (by omega), cl_nI rfl (by omega), lo 0 (by omega)]
    have en : ∀ j, j < 24 ∨ 41 ≤ j → K_enter U p (Y3 0) (min (K + 1) L) j = U j := fun j hj => enter_n (by omega) hj
    have v4 : R_hist Y3 p 4 = nI K4 := by rw [hn9 4 (by omega), st 4 (by omega)]; exact h4
    have v41 : R_hist Y3 p 41 = nI n := by rw [hn9 41 (by omega), Y3lo 41 (by omega)]; exact Y1_41
    have v102' : R_hist Y3 p 102 = nI c := by rw [hn9 102 (by omega), y3n 102 (by omega)]; exact v102
    have v118 : R_hist Y3 p 118 = nI Ka := by rw [hn9 118 (by omega), y3n 118 (by omega), show (118 : Nat) = 118 + 0 from rfl, V118 0 (by omega)]; exact ha
    have hi3 : ∀ j, 134 ≤ j → K_enter U p (Y3 0) (min (K + 1) L) j = C j ∧ R_hist Y3 p j = A j := fun j hj => by
      refine ⟨?_, ?_⟩
      · rw [en j (by omega), Ulo j (by omega), hpn j (by omega), X1hi j (by omega)]
      · rw [hn9 j (by omega), y3n j (by omega), Y2n j (by omega), Y1hi j (by omega)]
    refine ⟨fun j hj => ?_, ⟨?_, ?_, ?_, ?_, ?_, ?_, ?_, ?_⟩, hi3⟩
    · unfold Lv at hj
      rw [r31, v41, v102', v118, v4, cl_nI rfl (by omega), cl_nI rfl (by omega), cl_nI rfl (by omega), cl_nI rfl (by omega), cl_nI rfl (by omega)] at hj
      rcases hj with hj | hj | hj | hj | hj | hj | hj | hj | hj
      · exact hq.1 j hj
      · have := hq.2 (j - 32) (by omega)
        rwa [show 32 + (j - 32) = j by omega] at this
      · subst hj
        rw [en 41 (by omega), Ulo 41 (by omega), hpn 41 (by omega), v41]; exact X1_41
      · rw [en j (by omega), hn9 j (by omega)]
        by_cases h1 : (j - 42) % 4 = 3
        · have e : 42 + 4 * ((j - 42) / 4) + 3 = j := by omega
          have z1 := y3m ((j - 42) / 4) (by omega)
          rwa [e] at z1
        · rw [Ulo j (by omega), hpn j (by omega), y3n j (by omega), Y2n j (by omega)]
          exact X1sl j (by omega) (by omega)
      · subst hj
        rw [en 102 (by omega), v102']; exact u102
      · rw [en j (by omega), hn9 j (by omega), y3n j (by omega)]
        have := tr1 (j - 103) (by omega)
        rwa [show 103 + (j - 103) = j by omega] at this
      · subst hj
        rw [en 118 (by omega), v118, show (118 : Nat) = 118 + 0 from rfl, U118 0 (by omega)]
        exact ag102.trans ha
      · rw [en j (by omega), hn9 j (by omega), y3n j (by omega)]
        have z1 := U118 (j - 118) (by omega)
        have z2 := V118 (j - 118) (by omega)
        have z3 := agL (j - 119) (by omega)
        rw [show 118 + (j - 118) = j by omega] at z1 z2
        rw [show 103 + (j - 119) = 102 + (j - 118) by omega] at z3
        rw [z1, z2, z3]
      · rw [(hi3 j (by omega)).1, (hi3 j (by omega)).2]
        exact hA j (by unfold Lv; omega)
    · obtain ⟨j, q1, q2⟩ := hj13
      exact ⟨j, by rw [hn9 13 (by omega), st 13 (by omega)]; exact q1, q2⟩
    · exact ⟨L, by rw [hn9 18 (by omega)]; exact e18, hL1, hL9⟩
    · exact ⟨f, by rw [hn9 19 (by omega)]; exact e19, hf1, hf20⟩
    · intro D' q1 q2
      rw [hn9 0 (by omega), e0] at q1
      have e : D = D' := (nI_eq (by omega) (by omega)).mp q1
      subst e
      refine ⟨r26, fun i hi => rp i ?_⟩
      rw [r31, cl_nI rfl (by omega)] at hi
      exact hi
    · intro i hi
      rw [v102', cl_nI rfl (by omega)] at hi
      obtain ⟨e, he, q1, q2⟩ := tr2 i hi
      obtain ⟨t, ht, et⟩ := Y1d e he q1
      exact ⟨t, by omega, by rw [hn9 _ (by omega), y3n _ (by omega)]; exact q2.trans et⟩
    · intro i hi
      rw [v118, cl_nI rfl (by omega)] at hi
      obtain ⟨t, ht, et⟩ := hra i (by omega)
      refine ⟨t, ht, ?_⟩
      rw [hn9 _ (by omega), y3n _ (by omega), show 118 + 1 + i = 118 + (1 + i) by omega, V118 _ (by omega), show 102 + (1 + i) = 102 + 1 + i by omega]
      exact et
    · intro e he
      rw [v41, cl_nI rfl (by omega)] at he
      rw [hn9 _ (by omega)]
      exact y3M e he
    · intro i hi
      rw [(hi3 _ (by omega)).2]
      exact hms i hi
  rcases b with ⟨b1, b2⟩ | ⟨e0, b0, b1, b2, b3⟩
  · have e9 : R_picks (R_remembers Y1) = (R_remembers Y1, -1) := by
      unfold R_picks
      rw [eR41, if_pos b2]
    rw [e9]
    refine fin (R_remembers Y1) (-1) (fun _ _ => rfl) (fun e he => ?_) (fun e he => ?_) ?_ (Or.inl rfl)
    · rw [Ulo _ (by omega), Y2n _ (by omega)]
      unfold K_pk
      rw [if_pos b1]
      exact X1sl _ (by omega) (by omega)
    · rw [Y2n _ (by omega)]; exact MK_M4 (Y1m e he)
    · unfold K_pd
      rw [if_pos b1]
  · have nb : ¬ x = -1 := by rw [b1]; exact neg1_ne (by omega)
    have nr : ¬ R_best (R_remembers Y1) n = -1 := by rw [b2]; exact neg1_ne (by omega)
    have e9 : R_picks (R_remembers Y1) = (upd (R_remembers Y1) (42 + 4 * e0 + 3) 5, R_remembers Y1 (42 + 4 * e0 + 1)) := by
      unfold R_picks
      rw [eR41, if_neg nr, cl_nI b2 (by omega), upd_n (by omega)]
    rw [e9]
    rw [Y2n _ (by omega)] at b3
    refine fin (upd (R_remembers Y1) (42 + 4 * e0 + 3) 5) (R_remembers Y1 (42 + 4 * e0 + 1)) (fun j hj => upd_n (by omega)) (fun e he => ?_) (fun e he => ?_) ?_ ?_
    · rw [Ulo _ (by omega)]
      unfold K_pk
      rw [if_neg nb, cl_nI b1 (by omega)]
      by_cases h1 : e = e0
      · subst h1
        rw [upd_s, upd_s, X1sl _ (by omega) (by omega), b3]
        decide
      · rw [upd_n (by omega), upd_n (by omega), Y2n _ (by omega)]
        exact X1sl _ (by omega) (by omega)
    · by_cases h1 : e = e0
      · subst h1; rw [upd_s]; exact Or.inr (Or.inr (Or.inr rfl))
      · rw [upd_n (by omega), Y2n _ (by omega)]; exact MK_M4 (Y1m e he)
    · unfold K_pd
      rw [if_neg nb, cl_nI b1 (by omega), Ulo _ (by omega), hpn _ (by omega), Y2n _ (by omega)]
      exact X1sl _ (by omega) (by omega)
    · rw [Y2n _ (by omega)]
      obtain ⟨t, ht, et⟩ := Y1d e0 b0 (by rw [b3]; decide)
      exact Or.inr ⟨t, ht, et⟩
theorem kshot_eq {W : Nat → Int64} {C X1 : Nat → Int32} {x : Int32} (hX : K_look W (K_fires C) = X1) (hx : K_best X1 (X1 17) (X1 26) (cl (X1 41)) = x) : K_shot W C = K_enter (K_sh6 X1 x) (K_pd (K_sh6 X1 x) x) (K_sh6 X1 x 0) (min (cl (K_sh6 X1 x 31) + 1) (cl (K_sh6 X1 x 18))) := by
  have e : K_sh5 W C = (X1, x) := by rw [K_sh5, hX, hx]
  rw [K_shot, e]
theorem shot_hist {A Y1 : Nat → Int32} (h : R_looks (R_fires A) = Y1) : (R_shot A).1 = R_hist (R_picks (R_remembers Y1)).1 (R_picks (R_remembers Y1)).2 := by
  rw [shot_1, sh4_eq, h, R_hist]
theorem shot_ag {C A : Nat → Int32} {W : Nat → Int64} (hA : Ag C A) (hw : WF A) (hx : WX A) (hM : MW W A) : Ag (K_shot W C) (R_shot A).1 ∧ WX (R_shot A).1 ∧ ∀ j, 134 ≤ j → K_shot W C j = C j ∧ (R_shot A).1 j = A j := by
  obtain ⟨n, hn, x41, y41, flo, fsl, fmz⟩ := fires_ag hA hw
  obtain ⟨D, hD, hD1⟩ := hw.D
  obtain ⟨K4, h4, hK4⟩ := hw.K4
  obtain ⟨K5, h5, hK5⟩ := hw.K5
  obtain ⟨K, h31, hK9⟩ := hw.K31
  obtain ⟨Ka, ha, hKa⟩ := hw.Ka
  obtain ⟨Kb, hb, hKb⟩ := hw.Kb
  obtain ⟨hj13, ⟨L, h18, hL1, hL9⟩, ⟨f, h19, hf1, hf20⟩, hT, hra, hrb, -, hms⟩ := hx
  obtain ⟨hT26, hTp⟩ := hT D hD hD1
  have hDI := fires_DI hw
  unfold DI at hDI
  rw [cl_nI y41 (by omega)] at hDI
  have c4 : cl (C 4) ≤ 6 := by rw [hA.lo (by omega), cl_nI h4 (by omega)]; exact hK4
  have c5 : cl (C 5) ≤ 6 := by rw [hA.lo (by omega), cl_nI h5 (by omega)]; exact hK5
  have xo : ∀ j, (32 ≤ j ∧ j ≤ 40) ∨ 102 ≤ j → K_fires C j = C j := fun j hj => kfires_n c4 c5 (by omega)
  have yo : ∀ j, j ≠ 1 → j ≠ 8 → j ≠ 11 → (j < 41 ∨ 102 ≤ j) → R_fires A j = A j := fun j a1 a2 a3 a4 => fires_st hw ⟨a1, a2, a3, a4⟩
  have cla : cl (A 102) = Ka := cl_nI ha (by omega)
  have clb : cl (A 118) = Kb := cl_nI hb (by omega)
  have cl31 : cl (A 31) = K := cl_nI h31 (by omega)
  have cl4 : cl (A 4) = K4 := cl_nI h4 (by omega)
  have ag102 : C 102 = A 102 := hA 102 (by unfold Lv; omega)
  have ag118 : C 118 = A 118 := hA 118 (by unfold Lv; omega)
  have agL : ∀ i, i < Ka → C (103 + i) = A (103 + i) := fun i hi => hA _ (by unfold Lv; omega)
  have agE : ∀ i, i < Kb → C (119 + i) = A (119 + i) := fun i hi => hA _ (by unfold Lv; omega)
  have agP : ∀ i, i < K → C (32 + i) = A (32 + i) := fun i hi => hA _ (by unfold Lv; omega)
  have y102 : R_fires A 102 = A 102 := yo 102 (by omega) (by omega) (by omega) (by omega)
  have y118 : R_fires A 118 = A 118 := yo 118 (by omega) (by omega) (by omega) (by omega)
  have hLk : ∀ j, Lk (R_fires A) n j → K_fires C j = R_fires A j := fun j hj => by
    obtain ⟨j29, hj⟩ := hj
    rw [y102, y118, cla, clb] at hj
    rcases hj with hj | hj | hj | hj | hj | hj
    · exact flo j hj
    · exact fsl j hj.1 hj.2.1
    · subst hj; rw [xo _ (by omega), yo _ (by omega) (by omega) (by omega) (by omega)]; exact ag102
    · rw [xo _ (by omega), yo _ (by omega) (by omega) (by omega) (by omega)]
      have := agL (j - 103) (by omega)
      rwa [show 103 + (j - 103) = j by omega] at this
    · subst hj; rw [xo _ (by omega), yo _ (by omega) (by omega) (by omega) (by omega)]; exact ag118
    · rw [xo _ (by omega), yo _ (by omega) (by omega) (by omega) (by omega)]
      have := agE (j - 119) (by omega)
      rwa [show 119 + (j - 119) = j by omega] at this
  have mzX : MZ n (K_fires C) := fun e he => by rw [fsl _ (by omega) (by omega)]; exact fmz e he
  obtain ⟨lk1, lk2, lk29, lkx, lky⟩ := look_ag (W := W) hn x41 y41 hLk (flo 29 (by omega)) mzX fmz ((yo 0 (by omega) (by omega) (by omega) (by omega)).trans hD) hD1 hDI (fun i hi => by rw [yo _ (by omega) (by omega) (by omega) (by omega)]; exact hM i hi) (y102.trans ha) hKa (y118.trans hb) hKb (fun i hi => by rw [yo _ (by omega) (by omega) (by omega) (by omega)]; exact hra i (by omega)) (fun i hi => by rw [yo _ (by omega) (by omega) (by omega) (by omega)]; exact hrb i (by omega))
  have hcd : ∀ e, e < n → ¬ mkv (R_fires A) e = 0 → ∃ t, t ≤ D ∧ R_fires A (42 + 4 * e + 1) = nI t := fun e he h => cdv_d ((yo 0 (by omega) (by omega) (by omega) (by omega)).trans hD) hD1 (hDI e he) fun z => h (by unfold mkv; rw [if_pos z])
  have hmk : ∀ e, MK (mkv (R_fires A) e) := fun e => mkv_MK _ e
  -- names for what looks leaves
  have X1lo : ∀ j, j ≤ 31 → K_look W (K_fires C) j = R_looks (R_fires A) j := fun j hj => by
    by_cases h1 : j = 29
    · subst h1; exact lk29
    · rw [lkx j h1 (by omega), lky j h1 (by omega)]; exact flo j hj
  have X1sl : ∀ j, 42 ≤ j → j < 42 + 4 * n → K_look W (K_fires C) j = R_looks (R_fires A) j := fun j a1 a2 => by
    by_cases h1 : (j - 42) % 4 = 3
    · have e : 42 + 4 * ((j - 42) / 4) + 3 = j := by omega
      have z1 := lk1 ((j - 42) / 4) (by omega)
      have z2 := lk2 ((j - 42) / 4) (by omega)
      rw [e] at z1 z2
      rw [z1, z2]
    · rw [lkx j (by omega) (by omega), lky j (by omega) (by omega)]; exact fsl j a1 a2
  have X1hi : ∀ j, (32 ≤ j ∧ j ≤ 40) ∨ 102 ≤ j → K_look W (K_fires C) j = C j := fun j hj => by rw [lkx j (by omega) (by omega)]; exact xo j hj
  have Y1hi : ∀ j, (32 ≤ j ∧ j ≤ 40) ∨ 102 ≤ j → R_looks (R_fires A) j = A j := fun j hj => by rw [lky j (by omega) (by omega)]; exact yo j (by omega) (by omega) (by omega) (by omega)
  have Y1st : ∀ j, j ≠ 1 ∧ j ≠ 8 ∧ j ≠ 11 ∧ j ≠ 29 ∧ j < 41 → R_looks (R_fires A) j = A j := fun j hj => by rw [lky j (by omega) (by omega)]; exact yo j (by omega) (by omega) (by omega) (by omega)
  have X1_41 : K_look W (K_fires C) 41 = nI n := (lkx 41 (by omega) (by omega)).trans x41
  have Y1_41 : R_looks (R_fires A) 41 = nI n := (lky 41 (by omega) (by omega)).trans y41
  have Y1d : ∀ e, e < n → ¬ R_looks (R_fires A) (42 + 4 * e + 3) = 0 → ∃ t, t ≤ D ∧ R_looks (R_fires A) (42 + 4 * e + 1) = nI t := fun e he h => by
    rw [lk2 e he] at h
    rw [lky _ (by omega) (by omega)]
    exact hcd e he h
  have Y1m : ∀ e, e < n → MK (R_looks (R_fires A) (42 + 4 * e + 3)) := fun e he => by rw [lk2 e he]; exact hmk e
  rw [kshot_eq (W := W) (C := C) rfl rfl, shot_hist (A := A) rfl, cl_nI X1_41 (by omega)]
  exact shot_mid hA hn hD hD1 h4 hK4 h31 hK9 ha hKa h18 hL1 hL9 h19 hf1 hf20 hj13 hT26 hTp hra hms X1lo X1sl X1hi Y1hi Y1st X1_41 Y1_41 Y1d Y1m rfl
