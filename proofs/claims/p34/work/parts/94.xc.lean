/-! behind a shot: candidates, the picked one, the alarm -/
theorem best_1 {A : Nat → Int32} (k : Nat) : R_best A k = -1 ∨ ∃ e, e < k ∧ R_best A k = nI (42 + 4 * e) ∧ A (42 + 4 * e + 3) = 1 := by
  induction k with
  | zero => exact Or.inl rfl
  | succ k ih =>
    have e1 : R_best A (k + 1) = R_pkb A k (R_best A k) := by unfold R_best; rw [itN_s]
    rw [e1]
    generalize R_best A k = b at ih
    have h1 : b = -1 ∨ ∃ e, e < k + 1 ∧ b = nI (42 + 4 * e) ∧ A (42 + 4 * e + 3) = 1 := ih.elim Or.inl fun ⟨e, h2, h3, h4⟩ => Or.inr ⟨e, by omega, h3, h4⟩
    unfold R_pkb
    by_cases hm : A (42 + 4 * k + 3) = 1
    · have h2 : nI (42 + 4 * k) = -1 ∨ ∃ e, e < k + 1 ∧ nI (42 + 4 * k) = nI (42 + 4 * e) ∧ A (42 + 4 * e + 3) = 1 := Or.inr ⟨k, by omega, rfl, hm⟩
      rw [if_pos hm]
      split
      · exact h2
      · split
        · exact h1
        · exact h2
    · rw [if_neg hm]
      exact h1
theorem picks_x {A : Nat → Int32} {K : Nat} (hK : A 41 = nI K) (hK15 : K ≤ 15) : ((R_picks A).1 = A ∧ (R_picks A).2 = -1) ∨ ∃ e, e < K ∧ A (42 + 4 * e + 3) = 1 ∧ (R_picks A).1 = upd A (42 + 4 * e + 3) 5 ∧ (R_picks A).2 = A (42 + 4 * e + 1) := by
  unfold R_picks
  rw [cl_nI hK (by omega)]
  by_cases h : R_best A K = -1
  · rw [if_pos h]; exact Or.inl ⟨rfl, rfl⟩
  · rw [if_neg h]
    obtain ⟨e, he, h1, h2⟩ := (best_1 K).resolve_left h
    rw [cl_nI h1 (by omega)]
    refine Or.inr ⟨e, he, h2, rfl, ?_⟩
    show upd A (42 + 4 * e + 3) 5 (42 + 4 * e + 1) = _
    rw [upd_n (by omega)]
theorem tells_32 {A : Nat → Int32} : R_tells A 32 = A 32 ∨ R_tells A 32 = -1 := by
  unfold R_tells
  split
  · split
    · exact Or.inr (wipe_in (by omega))
    · exact Or.inl (miss_n (by omega))
  · exact Or.inl (by rw [upd_n (by omega), upd_n (by omega)])
theorem mkv_0 {Y : Nat → Int32} {e : Nat} : mkv Y e = 0 ↔ cdv Y e = 0 := by
  unfold mkv
  by_cases h : cdv Y e = 0
  · rw [if_pos h]; exact ⟨fun _ => h, fun _ => rfl⟩
  · rw [if_neg h]
    refine ⟨fun z => ?_, fun z => absurd z h⟩
    unfold R_mark at z
    split at z
    · exact absurd z (by decide)
    · exact absurd z (by decide)
theorem mkv_5 {Y : Nat → Int32} {e : Nat} : ¬ mkv Y e = 5 := by
  intro z
  rcases mkv_MK Y e with h | h | h <;> rw [h] at z <;> exact absurd z (by decide)
def SF (A : Nat → Int32) : Prop := (∀ e, e < cl (A 41) → ((A (42 + 4 * e + 3) = 0 ↔ R_cand A (42 + 4 * e) = 0) ∧ (A (42 + 4 * e + 3) = 5 → A 32 = A (42 + 4 * e + 1) ∨ A 32 = -1)) ∧ 0 ≤ A (42 + 4 * e + 1)) ∧ (¬ A 28 = 0 → ¬ A 26 = -1)
theorem cand_cong {X Y : Nat → Int32} {e : Nat} (h : ∀ j, (j = 0 ∨ j = 14 ∨ j = 15 ∨ j = 42 + 4 * e + 1 ∨ j = 42 + 4 * e + 2 ∨ 146 ≤ j) → X j = Y j) : R_cand X (42 + 4 * e) = R_cand Y (42 + 4 * e) := by
  unfold R_cand R_need
  rw [h 0 (by omega), h (42 + 4 * e + 1) (by omega), h (42 + 4 * e + 2) (by omega), h 14 (by omega), h 15 (by omega), h (146 + cl (Y (42 + 4 * e + 1)) / 20) (by omega)]
theorem isp_ex (p : Int32) : ∃ q : Nat, q ≤ 1 ∧ R_isp p = nI q := by
  unfold R_isp
  split
  · exact ⟨0, by omega, rfl⟩
  · exact ⟨1, by omega, rfl⟩
theorem shot_x {m : Nat} {C A : Nat → Int32} {W : Nat → Int64} (g : AG C W A) (hw : WF A) (h : XA m A) : XA (m + 1) (R_shot A).1 ∧ SF (R_shot A).1 ∧ (R_shot A).1 24 = A 24 + 1 ∧ ∃ q : Nat, q ≤ 1 ∧ (R_shot A).1 25 = A 25 + nI q := by
  obtain ⟨F, L, Rm, P, Cc, T, p, s⟩ := SH_ok hw
  have eZ : (R_shot A).1 = R_alarms T := by rw [shot_1, sh4_eq, s.t, s.c, s.pp, s.p2, s.rm, s.lk, s.f]
  rw [eZ]
  obtain ⟨K, hK15, kF, kL, kR, kP, kC, kT⟩ := s.K
  have XF : XA m F := by rw [s.f]; exact XA_fires g hw h
  obtain ⟨n, hn, -, h41, -, -, hz0⟩ := fires_ag g.1 hw
  have hz : MZ K F := by
    rw [← s.f] at h41 hz0
    have e : n = K := nI_injL (by omega) (by omega) (h41.symm.trans kF)
    rw [← e]; exact hz0
  have fA : ∀ j, j ≠ 1 ∧ j ≠ 8 ∧ j ≠ 11 ∧ (j < 41 ∨ 102 ≤ j) → F j = A j := fun j hj => by rw [s.f]; exact fires_st hw hj
  -- the steps, cell by cell
  have zP : ∀ j, (j < 24 ∨ 41 ≤ j) → R_alarms T j = P j := fun j hj => by
    rw [alarms_st (by omega), s.t, tells_st (by omega), s.c, keeps_st (by omega), cnt_st (by omega)]
  have lF : ∀ j, j ≠ 29 → (j < 45 ∨ 102 ≤ j ∨ (j - 42) % 4 ≠ 3) → L j = F j := fun j h1 h2 => by
    rw [s.lk, R_looks, cl_nI kF (by omega)]
    exact LI_looks K hK15 j (by omega) h1
  have lM : ∀ e, e < K → L (42 + 4 * e + 3) = mkv F e := fun e he => by
    rw [s.lk, R_looks, cl_nI kF (by omega)]
    exact (rlook hK15 hz K (Nat.le_refl _)).1 e he
  have rL : ∀ j, (j < 102 ∨ 134 ≤ j) → Rm j = L j := fun j hj => by
    rw [s.rm]; exact rem_st kL hK15 hj
  have px := picks_x kR hK15
  rw [← s.pp, ← s.p2] at px
  have pR : ∀ j, (j < 45 ∨ 102 ≤ j ∨ (j - 42) % 4 ≠ 3) → P j = Rm j := fun j hj => by
    rcases px with ⟨e1, -⟩ | ⟨e, he, -, e1, -⟩
    · rw [e1]
    · rw [e1, upd_n (by omega)]
  have zF : ∀ j, (j < 24 ∨ (41 ≤ j ∧ j < 102 ∧ (j < 45 ∨ (j - 42) % 4 ≠ 3)) ∨ 134 ≤ j) → R_alarms T j = F j := fun j hj => by
    rw [zP j (by omega), pR j (by omega), rL j (by omega), lF j (by omega) (by omega)]
  have z41 : R_alarms T 41 = nI K := (zF 41 (by omega)).trans kF
  have zM : ∀ e, e < K → (R_alarms T (42 + 4 * e + 3) = mkv F e) ∨ (R_alarms T (42 + 4 * e + 3) = 5 ∧ mkv F e = 1 ∧ p = R_alarms T (42 + 4 * e + 1) ∧ ∀ e', e' < K → R_alarms T (42 + 4 * e' + 3) = 5 → e' = e) := fun e he => by
    have q : ∀ e', e' < K → Rm (42 + 4 * e' + 3) = mkv F e' := fun e' he' => (rL _ (by omega)).trans (lM e' he')
    rcases px with ⟨e1, -⟩ | ⟨e0, he0, m1, e1, e2⟩
    · left
      rw [zP _ (by omega), e1, q e he]
    · by_cases h0 : e = e0
      · subst h0
        right
        refine ⟨by rw [zP _ (by omega), e1, upd_s], (q e he).symm.trans m1, ?_, fun e' he' z => ?_⟩
        · rw [zP _ (by omega), pR _ (by omega)]; exact e2
        · refine Classical.byContradiction fun y => ?_
          rw [zP _ (by omega), e1, upd_n (by omega), q e' he'] at z
          exact mkv_5 z
      · left
        rw [zP _ (by omega), e1, upd_n (by omega), q e he]
  have z24 : R_alarms T 24 = A 24 + 1 := by
    rw [alarms_st (by omega), s.t, tells_st (by omega), s.c, keeps_st (by omega)]
    unfold R_cnt
    rw [upd_n (by omega), upd_s, pR 24 (by omega), rL 24 (by omega), lF 24 (by omega) (by omega), fA 24 (by omega)]
  have z25 : R_alarms T 25 = A 25 + R_isp p := by
    rw [alarms_st (by omega), s.t, tells_st (by omega), s.c, keeps_st (by omega)]
    unfold R_cnt
    rw [upd_s, upd_n (by omega), pR 25 (by omega), rL 25 (by omega), lF 25 (by omega) (by omega), fA 25 (by omega)]
  obtain ⟨q, hq, eq⟩ := isp_ex p
  rw [eq] at z25
  refine ⟨⟨?_, ?_, ?_, ?_⟩, ⟨fun e he => ?_, ?_⟩, z24, q, hq, z25⟩
  · obtain ⟨a, b, h1, h2, h3, h4⟩ := h.1
    refine ⟨a + 1, b + q, ?_, ?_, by omega, by omega⟩
    · rw [z24, h1]; exact (nI_succ a).symm
    · rw [z25, h2, nI_add]
  · exact XN_same XF.2.1 fun j hj => zF j (by omega)
  · rw [cl_nI z41 (by omega)]
    have o := XF.2.2.1
    rw [cl_nI kF (by omega)] at o
    exact SOp_eq o (fun e he => zF _ (by omega)) (fun e he => zF _ (by omega))
  · rw [cl_nI z41 (by omega)]
    intro e e' he he' y y'
    rcases zM e' he' with u | ⟨-, -, -, u⟩
    · rw [u] at y'; exact absurd y' mkv_5
    · exact u e he y
  · rw [cl_nI z41 (by omega)] at he
    refine ⟨?_, by
      rw [zF (42 + 4 * e + 1) (by omega)]
      have q0 := fires_DI hw
      rw [← s.f] at q0
      exact q0 e (by rw [cl_nI kF (by omega)]; exact he)⟩
    have ec : R_cand (R_alarms T) (42 + 4 * e) = cdv F e := cand_cong fun j hj => zF j (by omega)
    rw [ec]
    rcases zM e he with u | ⟨u, u1, u2, -⟩
    · rw [u]
      exact ⟨mkv_0, fun z => absurd z mkv_5⟩
    · rw [u]
      refine ⟨⟨fun z => absurd z (by decide), fun z => ?_⟩, fun _ => ?_⟩
      · rw [mkv_0.mpr z] at u1; exact absurd u1 (by decide)
      · have k0 : R_alarms T 32 = T 32 := alarms_st (by omega)
        rw [k0, ← u2]
        rcases tells_32 (A := Cc) with y | y
        · left
          rw [s.t, y, s.c]; exact keeps0
        · right
          rw [s.t]; exact y
  · intro y y2
    refine y ?_
    have k1 : R_alarms T 26 = T 26 := alarms_st (by omega)
    rw [k1] at y2
    unfold R_alarms R_al
    rw [if_pos y2, upd_n (by omega), upd_s]
theorem shoots_x {m : Nat} {C A : Nat → Int32} {W : Nat → Int64} (g : AG C W A) (o : OKA A) (h : XA m A) (k : Nat) : XA (m + k) (R_shoots A k).1 ∧ (1 ≤ k → SF (R_shoots A k).1) ∧ (R_shoots A k).1 24 = A 24 + nI k ∧ ∃ q : Nat, q ≤ k ∧ (R_shoots A k).1 25 = A 25 + nI q := by
  induction k with
  | zero =>
    refine ⟨h, fun z => absurd z (by omega), ?_, 0, Nat.le_refl _, ?_⟩
    · show A 24 = A 24 + 0
      rw [Int32.add_zero]
    · show A 25 = A 25 + 0
      rw [Int32.add_zero]
  | succ k ih =>
    obtain ⟨i1, i2, i3, q, hq, i4⟩ := ih
    have e2 : (R_shoots A (k + 1)).1 = (R_shot (R_shoots A k).1).1 := by rw [shoots_s, R_shb]
    rw [e2]
    obtain ⟨j1, j2, j3, q', hq', j4⟩ := shot_x (OKA_shoots g o k).1 (WF_shoots o.1 k) i1
    refine ⟨j1, fun _ => j2, ?_, q + q', by omega, ?_⟩
    · rw [j3, i3, nI_succ, Int32.add_assoc]
    · rw [j4, i4, ← nI_add, Int32.add_assoc]
