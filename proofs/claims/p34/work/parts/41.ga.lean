/-! class and reference agree: what is alive; the echoes sent; their order -/
def Lv (A : Nat → Int32) (j : Nat) : Prop := j ≤ 31 ∨ (32 ≤ j ∧ j < 32 + cl (A 31)) ∨ j = 41 ∨ (42 ≤ j ∧ j < 42 + 4 * cl (A 41)) ∨ j = 102 ∨ (103 ≤ j ∧ j < 103 + cl (A 102)) ∨ j = 118 ∨ (119 ≤ j ∧ j < 119 + cl (A 118)) ∨ (134 ≤ j ∧ j < 134 + 2 * cl (A 4))
def Ag (C A : Nat → Int32) : Prop := ∀ j, Lv A j → C j = A j
theorem Ag.lo {C A : Nat → Int32} (h : Ag C A) {j : Nat} (hj : j ≤ 31) : C j = A j := h j (Or.inl hj)
theorem lev_eq {A : Nat → Int32} (h : 0 ≤ A 0) : K_lev A = R_lev A := by
  unfold K_lev R_lev R_greater
  by_cases h1 : 0 ≤ A 1 + A 2
  · rw [if_pos h1, if_pos h1]
    by_cases h2 : A 1 + A 2 ≤ A 0
    · rw [if_pos h2]
      by_cases h3 : A 1 + A 2 < A 0
      · rw [if_pos h3]
      · rw [if_neg h3]; exact Int32.le_antisymm (Int32.not_lt.mp h3) h2
    · rw [if_neg h2, if_neg (fun z => h2 (Int32.le_of_lt z))]
  · rw [if_neg h1, if_neg h1]
    by_cases h3 : 0 < A 0
    · rw [if_pos h3]
    · rw [if_neg h3]; exact (Int32.le_antisymm h (Int32.not_lt.mp h3)).symm
theorem kmove_eq {A : Nat → Int32} (h : 0 ≤ A 0) : K_move A = R_move A := by unfold K_move R_move; rw [lev_eq h]
theorem rmove_cong {C A : Nat → Int32} (h : ∀ j, j ≤ 31 → C j = A j) {j : Nat} (hj : C j = A j) : R_move C j = R_move A j := by
  have e1 : R_lev C = R_lev A := by unfold R_lev; rw [h 0 (by omega), h 1 (by omega), h 2 (by omega)]
  by_cases h8 : j = 8
  · subst h8
    unfold R_move
    rw [upd_s, upd_s, e1, upd_n (by decide), upd_n (by decide), upd_n (by decide), upd_n (by decide), h 8 (by omega), h 9 (by omega)]
  · by_cases h1 : j = 1
    · subst h1
      have r : ∀ X : Nat → Int32, R_move X 1 = R_lev X := fun X => by unfold R_move; rw [upd_n (by decide), upd_s]
      rw [r, r, e1]
    · rw [move_n h1 h8, move_n h1 h8]; exact hj
/-- echoes sent -/
def EQ (P : Nat → Prop) (X Y : Nat → Int32) : Prop := (∀ j, P j → X j = Y j) ∧ X 41 = Y 41 ∧ ∀ j, 42 ≤ j → j < 42 + 4 * cl (Y 41) → X j = Y j
theorem mk4_eq {X Y : Nat → Int32} {e j : Nat} {k d s : Int32} (h1 : 42 + 4 * e ≤ j) (h2 : j < 42 + 4 * e + 4) : R_mk4 X e k d s j = R_mk4 Y e k d s j := by
  unfold R_mk4
  by_cases a3 : j = 42 + 4 * e + 3
  · rw [a3, upd_s, upd_s]
  · rw [upd_n a3, upd_n a3]
    by_cases a2 : j = 42 + 4 * e + 2
    · rw [a2, upd_s, upd_s]
    · rw [upd_n a2, upd_n a2]
      by_cases a1 : j = 42 + 4 * e + 1
      · rw [a1, upd_s, upd_s]
      · rw [upd_n a1, upd_n a1, show j = 42 + 4 * e by omega, upd_s, upd_s]
theorem EQ_mk {P : Nat → Prop} {X Y : Nat → Int32} {e : Nat} {k d s : Int32} (hP : ∀ j, P j → j < 41 ∨ 102 ≤ j) (h : EQ P X Y) (he : Y 41 = nI e) (he1 : e ≤ 14) : EQ P (R_mk X k d s) (R_mk Y k d s) := by
  obtain ⟨h1, h2, h3⟩ := h
  rw [mk_at (h2.trans he) (by omega), mk_at he (by omega)]
  rw [cl_nI he (by omega)] at h3
  refine ⟨fun j hj => ?_, ?_, fun j hj hj2 => ?_⟩
  · have := hP j hj
    unfold R_makes
    rw [upd_n (by omega), upd_n (by omega), mk4_out (by omega), mk4_out (by omega)]
    exact h1 j hj
  · rw [makes_41 (h2.trans he), makes_41 he]
  · rw [makes_41 he, cl_nI rfl (by omega)] at hj2
    unfold R_makes
    rw [upd_n (by omega), upd_n (by omega)]
    by_cases h4 : j < 42 + 4 * e
    · rw [mk4_out (by omega), mk4_out (by omega)]; exact h3 j hj h4
    · exact mk4_eq (by omega) (by omega)
theorem EQ_e1 {P : Nat → Prop} {A B X Y : Nat → Int32} {d : Int32} {K : Nat} (hP : ∀ j, P j → j < 41 ∨ 102 ≤ j) (hY : EI 0 B Y) (h : EQ P X Y) (hth : ∀ k, k < K → P (134 + 2 * k) ∧ P (134 + 2 * k + 1)) (hK : K ≤ 6) (k : Nat) : k ≤ K → EQ P (itN (R_e1b d) k X) (itN (R_e1b d) k Y) := by
  induction k with
  | zero => exact fun _ => h
  | succ k ih =>
    intro hk
    have i := ih (by omega)
    obtain ⟨e, he, hle, -⟩ := EI_e1 (d := d) hY k (by omega)
    rw [itN_s, itN_s, R_e1b, R_e1b, i.1 _ (hth k (by omega)).1, i.1 _ (hth k (by omega)).2]
    split
    · exact i
    · exact EQ_mk hP i he (by omega)
theorem angle_cong {X Y : Nat → Int32} {b : Int32} (h8 : X 8 = Y 8) (h5 : X 5 = Y 5) : R_angle X b = R_angle Y b := by unfold R_angle; rw [h8, h5]
theorem EQ_e2 {P : Nat → Prop} {B X Y : Nat → Int32} {d hd : Int32} (hP : ∀ j, P j → j < 41 ∨ 102 ≤ j) (hP2 : ∀ j, j ≤ 31 → P j) (hY : EI 6 B Y) (h : EQ P X Y) (k : Nat) : k ≤ 6 → EQ P (itN (R_e2b d) k (X, hd)).1 (itN (R_e2b d) k (Y, hd)).1 ∧ (itN (R_e2b d) k (X, hd)).2 = (itN (R_e2b d) k (Y, hd)).2 := by
  induction k with
  | zero => exact fun _ => ⟨h, rfl⟩
  | succ k ih =>
    intro hk
    obtain ⟨i, i2⟩ := ih (by omega)
    obtain ⟨e, he, hle, -⟩ := EI_e2 (d := d) (hd := hd) hY k (by omega)
    have q : ∀ j, j ≤ 31 → (itN (R_e2b d) k (X, hd)).1 j = (itN (R_e2b d) k (Y, hd)).1 j := fun j hj => i.1 j (hP2 j hj)
    have e1 : R_isIn (itN (R_e2b d) k (X, hd)).1 k = R_isIn (itN (R_e2b d) k (Y, hd)).1 k := by
      unfold R_isIn
      rw [angle_cong (q 8 (by omega)) (q 5 (by omega)), q 10 (by omega)]
    have e2 : R_bd (itN (R_e2b d) k (X, hd)).1 k = R_bd (itN (R_e2b d) k (Y, hd)).1 k := by
      unfold R_bd
      rw [q 6 (by omega), q 7 (by omega)]
    rw [itN_s, itN_s, R_e2b, R_e2b, e1, e2]
    split
    · exact ⟨i, i2⟩
    · split
      · exact ⟨i, i2⟩
      · exact ⟨EQ_mk hP i he (by omega), rfl⟩
theorem EQ_echoes {P : Nat → Prop} {C A : Nat → Int32} (hP : ∀ j, P j → j < 41 ∨ 102 ≤ j) (hP2 : ∀ j, j ≤ 31 → P j) (h : ∀ j, P j → C j = A j) (h4 : cl (A 4) ≤ 6) (h5 : cl (A 5) ≤ 6) (hth : ∀ k, k < cl (A 4) → P (134 + 2 * k) ∧ P (134 + 2 * k + 1)) : EQ P (R_echoes C) (R_echoes A) := by
  have q : ∀ j, j ≤ 31 → C j = A j := fun j hj => h j (hP2 j hj)
  have hE0 : EI 0 A (upd A 41 0) := ⟨0, upd_s, by omega, fun j hj => upd_n (by omega)⟩
  have h0 : EQ P (upd C 41 0) (upd A 41 0) := by
    refine ⟨fun j hj => ?_, by rw [upd_s, upd_s], fun j hj hj2 => ?_⟩
    · have := hP j hj
      rw [upd_n (by omega), upd_n (by omega)]; exact h j hj
    · rw [upd_s] at hj2
      exact absurd hj2 (by show ¬ j < 42 + 4 * 0; omega)
  have h1 := EQ_e1 (A := A) (d := A 0 - A 1) hP hE0 h0 hth h4 _ (Nat.le_refl _)
  obtain ⟨h2, h2b⟩ := EQ_e2 (d := A 0 - A 1) (hd := 0) hP hP2 ((EI_e1 (d := A 0 - A 1) hE0 _ h4).weak h4) h1 _ h5
  have hE12 := EI_e12 h4 h5
  unfold R_echoes
  rw [show (R_e12 C) = itN (R_e2b (A 0 - A 1)) (cl (A 5)) (itN (R_e1b (A 0 - A 1)) (cl (A 4)) (upd C 41 0), 0) by unfold R_e12; rw [q 0 (by omega), q 1 (by omega), q 5 (by omega), q 4 (by omega)], q 0 (by omega), q 1 (by omega), h2b]
  change EQ P (itN (R_e2b (A 0 - A 1)) (cl (A 5)) (itN (R_e1b (A 0 - A 1)) (cl (A 4)) (upd C 41 0), 0)).1 (R_e12 A).1 at h2
  change EQ P (R_e4 _ (R_e12 A).2 (R_e3 _ (itN (R_e2b (A 0 - A 1)) (cl (A 5)) (itN (R_e1b (A 0 - A 1)) (cl (A 4)) (upd C 41 0), 0)).1)) (R_e4 _ (R_e12 A).2 (R_e3 _ (R_e12 A).1))
  generalize (itN (R_e2b (A 0 - A 1)) (cl (A 5)) (itN (R_e1b (A 0 - A 1)) (cl (A 4)) (upd C 41 0), 0)).1 = X at h2 ⊢
  have h3 : EQ P (R_e3 (A 0 - A 1) X) (R_e3 (A 0 - A 1) (R_e12 A).1) := by
    obtain ⟨e, he, hle, -⟩ := hE12
    unfold R_e3
    rw [h2.1 3 (hP2 3 (by omega))]
    split
    · exact h2
    · exact EQ_mk hP h2 he (by omega)
  obtain ⟨e, he, hle, -⟩ := EI_e3 (d := A 0 - A 1) hE12
  generalize R_e3 (A 0 - A 1) X = X2 at h3 ⊢
  generalize R_e3 (A 0 - A 1) (R_e12 A).1 = Y2 at h3 he ⊢
  unfold R_e4
  rw [h3.1 3 (hP2 3 (by omega))]
  split
  · refine EQ_mk (e := e + 1) hP (EQ_mk hP h3 he (by omega)) ?_ (by omega)
    rw [mk_at he (by omega)]; exact makes_41 he
  · exact h3
/-- order -/
def SQ (c : Nat) (X Y : Nat → Int32) : Prop := ∀ j, 42 ≤ j → j < 42 + 4 * c → X j = Y j
theorem SQ_sw {c i : Nat} {X Y : Nat → Int32} (h : SQ c X Y) (hi : i + 1 < c) : SQ c (R_sw X (42 + 4 * (i + 1)) 4) (R_sw Y (42 + 4 * (i + 1)) 4) := by
  intro j h1 h2
  unfold R_sw
  split
  · exact h _ (by omega) (by omega)
  · split
    · exact h _ (by omega) (by omega)
    · exact h _ h1 h2
theorem ahead_cong {c i : Nat} {X Y : Nat → Int32} (h : SQ c X Y) (hi : i + 1 < c) : R_ahead X (42 + 4 * (i + 1)) = R_ahead Y (42 + 4 * (i + 1)) := by
  unfold R_ahead
  rw [h (42 + 4 * (i + 1) + 1) (by omega) (by omega), h (42 + 4 * (i + 1) - 3) (by omega) (by omega), h (42 + 4 * (i + 1) + 2) (by omega) (by omega), h (42 + 4 * (i + 1) - 2) (by omega) (by omega), h (42 + 4 * (i + 1) - 4) (by omega) (by omega), h (42 + 4 * (i + 1)) (by omega) (by omega)]
theorem SQ_in1 {c : Nat} : ∀ (i : Nat) (X Y : Nat → Int32), i < c → SQ c X Y → SQ c (R_in1 i X) (R_in1 i Y) := by
  intro i
  induction i with
  | zero => exact fun X Y _ h => h
  | succ i ih =>
    intro X Y hi h
    rw [R_in1, R_in1, ahead_cong h hi]
    split
    · exact h
    · exact ih _ _ (by omega) (SQ_sw h hi)
theorem SQ_ord {c : Nat} {X Y : Nat → Int32} (h : SQ c X Y) (k : Nat) : k ≤ c → SQ c (itN R_in1 k X) (itN R_in1 k Y) := by
  induction k with
  | zero => exact fun _ => h
  | succ k ih =>
    intro hk
    rw [itN_s, itN_s]
    exact SQ_in1 k _ _ (by omega) (ih (by omega))
def MZ (c : Nat) (X : Nat → Int32) : Prop := ∀ e, e < c → X (42 + 4 * e + 3) = 0
theorem MZ_sw {c i : Nat} {X : Nat → Int32} (h : MZ c X) (hi : i + 1 < c) : MZ c (R_sw X (42 + 4 * (i + 1)) 4) := by
  intro e he
  unfold R_sw
  by_cases h1 : e = i + 1
  · rw [if_pos (by omega), show 42 + 4 * e + 3 - 4 = 42 + 4 * i + 3 by omega]; exact h i (by omega)
  · rw [if_neg (by omega)]
    by_cases h2 : e = i
    · rw [if_pos (by omega), show 42 + 4 * e + 3 + 4 = 42 + 4 * (i + 1) + 3 by omega]; exact h (i + 1) hi
    · rw [if_neg (by omega)]; exact h e he
theorem MZ_in1 {c : Nat} : ∀ (i : Nat) (X : Nat → Int32), i < c → MZ c X → MZ c (R_in1 i X) := by
  intro i
  induction i with
  | zero => exact fun X _ h => h
  | succ i ih =>
    intro X hi h
    rw [R_in1]
    split
    · exact h
    · exact ih _ (by omega) (MZ_sw h hi)
theorem MZ_ord {c : Nat} {X : Nat → Int32} (h : MZ c X) (k : Nat) : k ≤ c → MZ c (itN R_in1 k X) := by
  induction k with
  | zero => exact fun _ => h
  | succ k ih =>
    intro hk
    rw [itN_s]
    exact MZ_in1 k _ (by omega) (ih (by omega))
theorem put_at0 {C : Nat → Int32} {e : Nat} {k d s : Int32} : K_put C e k d s (42 + 4 * e) = k := by unfold K_put; rw [upd_n (by omega), upd_n (by omega), upd_s]
theorem put_at1 {C : Nat → Int32} {e : Nat} {k d s : Int32} : K_put C e k d s (42 + 4 * e + 1) = d := by unfold K_put; rw [upd_n (by omega), upd_s]
theorem put_at2 {C : Nat → Int32} {e : Nat} {k d s : Int32} : K_put C e k d s (42 + 4 * e + 2) = s := by unfold K_put; rw [upd_s]
theorem ins_eq {kd d s : Int32} : ∀ (p : Nat) (U V : Nat → Int32), (∀ j, 42 ≤ j → j < 42 + 4 * p → (j - 42) % 4 ≠ 3 → U j = V j) → V (42 + 4 * p) = kd → V (42 + 4 * p + 1) = d → V (42 + 4 * p + 2) = s → ∀ j, 42 ≤ j → j < 42 + 4 * p + 4 → (j - 42) % 4 ≠ 3 → K_insl kd d s p U j = R_in1 p V j := by
  intro p
  induction p with
  | zero =>
    intro U V _ h0 h1 h2 j a1 a2 a3
    show K_put U 0 kd d s j = V j
    have hj : j = 42 + 4 * 0 ∨ j = 42 + 4 * 0 + 1 ∨ j = 42 + 4 * 0 + 2 := by omega
    rcases hj with rfl | rfl | rfl
    · rw [put_at0]; exact h0.symm
    · rw [put_at1]; exact h1.symm
    · rw [put_at2]; exact h2.symm
  | succ p ih =>
    intro U V hUV h0 h1 h2 j a1 a2 a3
    have ec : K_cb U kd d s p = R_ahead V (42 + 4 * (p + 1)) := by
      unfold K_cb R_ahead
      rw [show 42 + 4 * (p + 1) - 3 = 42 + 4 * p + 1 by omega, show 42 + 4 * (p + 1) - 2 = 42 + 4 * p + 2 by omega, show 42 + 4 * (p + 1) - 4 = 42 + 4 * p by omega, h0, h1, h2, ← hUV (42 + 4 * p) (by omega) (by omega) (by omega), ← hUV (42 + 4 * p + 1) (by omega) (by omega) (by omega), ← hUV (42 + 4 * p + 2) (by omega) (by omega) (by omega)]
    rw [K_insl, R_in1, ec]
    split
    · have hj : j < 42 + 4 * (p + 1) ∨ j = 42 + 4 * (p + 1) ∨ j = 42 + 4 * (p + 1) + 1 ∨ j = 42 + 4 * (p + 1) + 2 := by omega
      rcases hj with hj | rfl | rfl | rfl
      · rw [put_out (by omega)]; exact hUV j a1 hj a3
      · rw [put_at0]; exact h0.symm
      · rw [put_at1]; exact h1.symm
      · rw [put_at2]; exact h2.symm
    · have sw0 : ∀ q, q < 3 → R_sw V (42 + 4 * (p + 1)) 4 (42 + 4 * p + q) = V (42 + 4 * (p + 1) + q) := fun q hq => by
        unfold R_sw
        rw [if_neg (by omega), if_pos (by omega)]
        congr 1
        omega
      by_cases hj : j < 42 + 4 * p + 4
      · refine ih _ _ (fun j b1 b2 b3 => ?_) ((sw0 0 (by omega)).trans h0) ((sw0 1 (by omega)).trans h1) ((sw0 2 (by omega)).trans h2) j a1 hj a3
        unfold R_sw
        rw [put_out (by omega), if_neg (by omega), if_neg (by omega)]
        exact hUV j b1 (by omega) b3
      · rw [insl_out p _ (by omega), in1_out p _ _ (by omega)]
        have hj' : j = 42 + 4 * (p + 1) ∨ j = 42 + 4 * (p + 1) + 1 ∨ j = 42 + 4 * (p + 1) + 2 := by omega
        unfold R_sw
        rw [if_pos (by omega)]
        rcases hj' with rfl | rfl | rfl
        · rw [put_at0, show 42 + 4 * (p + 1) - 4 = 42 + 4 * p by omega]; exact hUV _ (by omega) (by omega) (by omega)
        · rw [put_at1, show 42 + 4 * (p + 1) + 1 - 4 = 42 + 4 * p + 1 by omega]; exact hUV _ (by omega) (by omega) (by omega)
        · rw [put_at2, show 42 + 4 * (p + 1) + 2 - 4 = 42 + 4 * p + 2 by omega]; exact hUV _ (by omega) (by omega) (by omega)
