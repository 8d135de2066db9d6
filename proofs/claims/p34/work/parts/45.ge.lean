/-! class and reference agree: the history entered; a whole shot -/
theorem rcnt_n {A : Nat → Int32} {p : Int32} {j : Nat} (h : j ≠ 24 ∧ j ≠ 25) : R_cnt A p j = A j := cnt_st h
theorem cnt_ag {U Y : Nat → Int32} {p : Int32} (h : ∀ j, j ≤ 31 → U j = Y j) {j : Nat} (hj : j ≤ 31) : K_cnt U p j = R_cnt Y p j := by
  unfold K_cnt R_cnt R_isp
  by_cases h1 : p = -1
  · rw [if_pos h1, if_pos h1]
    by_cases h25 : j = 25
    · subst h25
      rw [upd_s, upd_n (by omega), upd_n (by omega), Int32.add_zero, h 25 (by omega)]
    · rw [upd_n (k := 25) h25]
      by_cases h24 : j = 24
      · subst h24; rw [upd_s, upd_s, h 24 (by omega)]
      · rw [upd_n h24, upd_n h24]; exact h j hj
  · rw [if_neg h1, if_neg h1]
    by_cases h25 : j = 25
    · subst h25
      rw [upd_s, upd_s, upd_n (by omega), upd_n (by omega), h 25 (by omega)]
    · rw [upd_n (k := 25) h25, upd_n (k := 25) h25]
      by_cases h24 : j = 24
      · subst h24; rw [upd_s, upd_s, h 24 (by omega)]
      · rw [upd_n h24, upd_n h24]; exact h j hj
theorem keeps31 {A : Nat → Int32} {p : Int32} {K L : Nat} (h31 : A 31 = nI K) (h18 : A 18 = nI L) (hK : K ≤ 9) (hL : L ≤ 9) : R_keeps A p 31 = nI (min (K + 1) L) := by
  have e18 : upd (shk A 0) 32 p 18 = nI L := by unfold shk; rw [upd_n (by omega), if_neg (by omega)]; exact h18
  have e31 : upd (shk A 0) 32 p 31 = nI K := by unfold shk; rw [upd_n (by omega), if_neg (by omega)]; exact h31
  unfold R_keeps
  rw [upd_s, e18, e31]
  by_cases h : L ≤ K
  · rw [if_pos ((nI_leI (by omega) (by omega)).mpr h)]; congr 1; omega
  · rw [if_neg (fun z => h ((nI_leI (by omega) (by omega)).mp z)), show nI K + 1 = nI (K + 1) from (nI_succ K).symm]; congr 1; omega
theorem keeps0 {A : Nat → Int32} {p : Int32} : R_keeps A p 32 = p := by
  unfold R_keeps
  rw [upd_n (by omega), upd_s]
theorem keepsi {A : Nat → Int32} {p : Int32} {i : Nat} (h : i < 8) : R_keeps A p (32 + (i + 1)) = A (32 + i) := by
  unfold R_keeps shk
  rw [upd_n (by omega), upd_n (by omega), if_pos (by omega)]
  rfl
theorem push0 {C : Nat → Int32} {p : Int32} {n : Nat} : K_push C p n 32 = p := by unfold K_push; rw [upd_s]
theorem pushi {C : Nat → Int32} {p : Int32} {n i : Nat} (h : i + 1 < n) : K_push C p n (32 + (i + 1)) = C (32 + i) := by
  unfold K_push K_sh
  rw [upd_n (by omega), if_pos (by omega), upd_n (by omega)]
  rfl
theorem wipe_in {A : Nat → Int32} {j : Nat} (h : 32 ≤ j ∧ j < 41) : R_wipe A 9 j = -1 := if_pos (by omega)
theorem wipe_out {A : Nat → Int32} {j : Nat} (h : j < 32 ∨ 41 ≤ j) : R_wipe A 9 j = A j := if_neg (by omega)
theorem negT {w : Nat} (h : w < 2 ^ 30) : (-(nI w)).toInt = -(w : Int) := by
  rw [Int32.toInt_neg, nI_toInt (by omega)]
  exact Int.bmod_eq_of_le (by omega) (by omega)
theorem neg_div32 {a f : Nat} (ha : a < 2 ^ 30) (hf : f < 2 ^ 30) : -(nI a) / nI f = -(nI (a / f)) := by
  have hq : (a : Int) / (f : Int) = ((a / f : Nat) : Int) := by first | rfl | exact (Int.natCast_ediv _ _).symm
  have hl := Nat.div_le_self a f
  apply Int32.toInt_inj.mp
  rw [Int32.toInt_div, negT ha, nI_toInt (by omega), Int.neg_tdiv, Int.tdiv_eq_ediv_of_nonneg (by omega), hq, negT (by omega)]
  generalize a / f = q at hl ⊢
  exact Int.bmod_eq_of_le (by omega) (by omega)
/-- lower places and picks -/
def HQ (n : Nat) (U Y : Nat → Int32) : Prop := (∀ j, j ≤ 31 → U j = Y j) ∧ ∀ i, i < n → U (32 + i) = Y (32 + i)
theorem push_ag {U Y : Nat → Int32} {p : Int32} {K L : Nat} (h : HQ K U Y) (h31 : Y 31 = nI K) (h18 : Y 18 = nI L) (hK : K ≤ 9) (hL : L ≤ 9) : HQ (min (K + 1) L) (K_push U p (min (K + 1) L)) (R_keeps Y p) := by
  refine ⟨fun j hj => ?_, fun i hi => ?_⟩
  · by_cases h1 : j = 31
    · subst h1; rw [push_31 (by omega), keeps31 h31 h18 hK hL]
    · rw [push_n (by omega) (by omega), keeps_st (by omega)]; exact h.1 j hj
  · cases i with
    | zero => exact push0.trans keeps0.symm
    | succ i => rw [pushi (by omega), keepsi (by omega)]; exact h.2 i (by omega)
theorem tells_ag {U Y : Nat → Int32} {n D : Nat} (hD : D ≤ 10000) (h : HQ n U Y) (h31 : Y 31 = nI n) (hn : n ≤ 9) (hb : ∀ i, i < n → TB D (Y (32 + i))) : HQ n (K_tells U n) (R_tells Y) := by
  have em : K_med U n (U 18) = R_median Y := by rw [h.1 18 (by omega)]; exact med_ag hD h31 hn h.2 hb
  unfold K_tells R_tells
  rw [em]
  by_cases hm : R_median Y = -1
  · rw [if_pos hm, if_pos hm]
    have e27 : R_miss U 27 = R_miss Y 27 := by unfold R_miss; rw [upd_s, upd_s, h.1 27 (by omega)]
    have e20 : R_miss Y 20 = U 20 := by unfold R_miss; rw [upd_n (by omega)]; exact (h.1 20 (by omega)).symm
    unfold K_miss
    rw [e27, e20]
    have lo : ∀ j, j ≤ 31 → R_miss U j = R_miss Y j := fun j hj => by
      unfold R_miss
      by_cases h1 : j = 27
      · subst h1; rw [upd_s, upd_s, h.1 27 (by omega)]
      · rw [upd_n h1, upd_n h1]; exact h.1 j hj
    by_cases h1 : R_miss Y 27 = U 20
    · rw [if_pos h1, if_pos h1]
      refine ⟨fun j hj => ?_, fun i hi => ?_⟩
      · rw [wipe_out (by omega), wipe_out (by omega)]
        by_cases h2 : j = 26
        · subst h2; rw [upd_s, upd_s]
        · rw [upd_n h2, upd_n h2]; exact lo j hj
      · rw [wipe_in (by omega), wipe_in (by omega)]
    · rw [if_neg h1, if_neg h1]
      refine ⟨lo, fun i hi => ?_⟩
      unfold R_miss
      rw [upd_n (by omega), upd_n (by omega)]
      exact h.2 i hi
  · rw [if_neg hm, if_neg hm]
    refine ⟨fun j hj => ?_, fun i hi => ?_⟩
    · by_cases h2 : j = 27
      · subst h2; rw [upd_s, upd_n (by omega), upd_s]
      · rw [upd_n h2]
        by_cases h3 : j = 26
        · subst h3; rw [upd_s, upd_s, h.1 19 (by omega)]; exact flw_ag (h.1 26 (by omega))
        · rw [upd_n h3, upd_n h3, upd_n h2]; exact h.1 j hj
    · rw [upd_n (by omega), upd_n (by omega), upd_n (by omega), upd_n (by omega)]; exact h.2 i hi
theorem rthen_TB {A : Nat → Int32} {D f m : Nat} (hD : D ≤ 10000) (h26 : TB D (A 26)) (h19 : A 19 = nI f) (hf : 1 ≤ f) (hf2 : f ≤ 20) (hm : m ≤ D) : TB D (R_tl (upd A 27 0) (nI m)) := by
  unfold R_tl R_then
  rw [upd_n (by omega), upd_n (by omega)]
  by_cases h1 : A 26 = -1
  · rw [if_pos h1, ite_self]; exact Or.inr ⟨m, hm, rfl⟩
  · rw [if_neg h1]
    obtain ⟨t, ht, et⟩ := h26.resolve_left h1
    split
    · exact Or.inr ⟨m, hm, rfl⟩
    · rw [et, h19]
      by_cases h2 : t ≤ m
      · have hq : (m - t) / f ≤ m - t := Nat.div_le_self _ _
        rw [pk_sub h2, pk_div (by omega) (by omega) (by omega), nI_add]
        generalize (m - t) / f = q at hq ⊢
        exact Or.inr ⟨t + q, by omega, rfl⟩
      · have hq : (t - m) / f ≤ t - m := Nat.div_le_self _ _
        have e1 : nI m - nI t = -(nI (t - m)) := by rw [← pk_sub (a := t) (b := m) (by omega)]; grind
        rw [e1, neg_div32 (by omega) (by omega)]
        generalize (t - m) / f = q at hq ⊢
        refine Or.inr ⟨t - q, by omega, ?_⟩
        rw [← pk_sub (by omega)]
        grind
theorem miss_n {A : Nat → Int32} {j : Nat} (h : j ≠ 27) : R_miss A j = A j := by unfold R_miss; rw [upd_n h]
/-- told and picks stay within the depth -/
theorem tells_TB {Y : Nat → Int32} {n D f : Nat} (hD : D ≤ 10000) (h31 : Y 31 = nI n) (hn : n ≤ 9) (hb : ∀ i, i < n → TB D (Y (32 + i))) (h26 : TB D (Y 26)) (h19 : Y 19 = nI f) (hf : 1 ≤ f) (hf2 : f ≤ 20) : TB D (R_tells Y 26) ∧ ∀ i, i < n → TB D (R_tells Y (32 + i)) := by
  unfold R_tells
  by_cases hm : R_median Y = -1
  · rw [if_pos hm]
    by_cases h1 : R_miss Y 27 = R_miss Y 20
    · rw [if_pos h1]
      refine ⟨?_, fun i hi => ?_⟩
      · rw [wipe_out (by omega), upd_s]; exact Or.inl rfl
      · rw [wipe_in (by omega)]; exact Or.inl rfl
    · rw [if_neg h1]
      refine ⟨?_, fun i hi => ?_⟩
      · rw [miss_n (by omega)]; exact h26
      · rw [miss_n (by omega)]; exact hb i hi
  · rw [if_neg hm]
    refine ⟨?_, fun i hi => ?_⟩
    · obtain ⟨m, hm1, em⟩ := (med_TB h31 hn hb).resolve_left hm
      rw [upd_s, em]
      exact rthen_TB hD h26 h19 hf hf2 hm1
    · rw [upd_n (by omega), upd_n (by omega)]; exact hb i hi
/-- alarms -/
theorem kal2_n {C : Nat → Int32} {lv : Int32} {j : Nat} (h : j ≠ 28) : K_al2 C lv j = C j := by
  unfold K_al2
  repeat' split
  all_goals first | rfl | exact upd_n h
theorem kal_n {C : Nat → Int32} {lv : Int32} {j : Nat} (h : j ≠ 28) : K_al C lv j = C j := by
  unfold K_al
  repeat' split
  all_goals first | exact upd_n h | exact kal2_n h
theorem ral_n {A : Nat → Int32} {j : Nat} (h : j ≠ 28) : R_al A j = A j := by
  unfold R_al R_alt
  repeat' split
  all_goals first | rfl | exact upd_n h
theorem al_ag {C A : Nat → Int32} {D : Nat} (h : ∀ j, j ≤ 31 → C j = A j) (hD : A 0 = nI D) (hD1 : D ≤ 10000) (h26 : TB D (A 26)) : K_al C (K_tl C (A 0)) 28 = R_al A 28 := by
  unfold K_al R_al K_tl K_al2 R_alt
  rw [h 26 (by omega), h 21 (by omega), h 22 (by omega), h 23 (by omega), h 28 (by omega)]
  by_cases h1 : A 26 = -1
  · rw [if_pos h1, if_pos h1, if_pos rfl, upd_s, upd_s]
  · obtain ⟨t, ht, et⟩ := h26.resolve_left h1
    have hne : ¬ A 0 - A 26 = -1 := by rw [hD, et, pk_sub ht]; exact neg1_ne (by omega)
    rw [if_neg h1, if_neg h1, if_neg hne]
    have e28 := h 28 (by omega)
    repeat' split
    all_goals first | rw [upd_s, upd_s] | exact e28
theorem alarms_ag {n : Nat} {C A : Nat → Int32} {D : Nat} (h : HQ n C A) (hn : n ≤ 9) (hD : A 0 = nI D) (hD1 : D ≤ 10000) (h26 : TB D (A 26)) : HQ n (K_alarms C (K_tl C (A 0))) (R_alarms A) := by
  have e28 := al_ag h.1 hD hD1 h26
  have c28 := h.1 28 (by omega)
  unfold K_alarms R_alarms R_new
  rw [e28, c28]
  have lo : ∀ j, j ≤ 31 → K_al C (K_tl C (A 0)) j = R_al A j := fun j hj => by
    by_cases h1 : j = 28
    · subst h1; exact e28
    · rw [kal_n h1, ral_n h1]; exact h.1 j hj
  have pk : ∀ i, i < n → K_al C (K_tl C (A 0)) (32 + i) = R_al A (32 + i) := fun i hi => by rw [kal_n (by omega), ral_n (by omega)]; exact h.2 i hi
  by_cases a1 : R_al A 28 = 0
  · rw [if_pos a1, if_pos a1]
    refine ⟨fun j hj => ?_, fun i hi => ?_⟩
    · by_cases h1 : j = 30
      · subst h1; rw [upd_s, Int32.add_zero]; exact lo 30 (by omega)
      · rw [upd_n h1]; exact lo j hj
    · rw [upd_n (by omega)]; exact pk i hi
  · rw [if_neg a1, if_neg a1]
    by_cases a2 : R_al A 28 = A 28
    · rw [if_pos a2, if_pos a2]
      refine ⟨fun j hj => ?_, fun i hi => ?_⟩
      · by_cases h1 : j = 30
        · subst h1; rw [upd_s, Int32.add_zero]; exact lo 30 (by omega)
        · rw [upd_n h1]; exact lo j hj
      · rw [upd_n (by omega)]; exact pk i hi
    · rw [if_neg a2, if_neg a2]
      refine ⟨fun j hj => ?_, fun i hi => ?_⟩
      · by_cases h1 : j = 30
        · subst h1; rw [upd_s, upd_s, lo 30 (by omega)]
        · rw [upd_n h1, upd_n h1]; exact lo j hj
      · rw [upd_n (by omega), upd_n (by omega)]; exact pk i hi
theorem kalarms_n {C : Nat → Int32} {lv : Int32} {j : Nat} (h : j ≠ 28 ∧ j ≠ 30) : K_alarms C lv j = C j := by
  unfold K_alarms
  split
  · exact kal_n h.1
  · split
    · exact kal_n h.1
    · rw [upd_n h.2]; exact kal_n h.1
theorem enter_n {C : Nat → Int32} {p D : Int32} {n j : Nat} (hn : n ≤ 9) (h : j < 24 ∨ 41 ≤ j) : K_enter C p D n j = C j := by
  unfold K_enter
  rw [kalarms_n (by omega), ktells_n (by omega), push_n hn (by omega), kcnt_n (by omega)]
/-- what the row keeps to besides -/
def R_hist (Y : Nat → Int32) (p : Int32) : Nat → Int32 := R_alarms (R_tells (R_keeps (R_cnt Y p) p))
theorem enter_ag {U Y : Nat → Int32} {p : Int32} {K L f D : Nat} (h : HQ K U Y) (h31 : Y 31 = nI K) (hK : K ≤ 9) (h18 : Y 18 = nI L) (hL : L ≤ 9) (h19 : Y 19 = nI f) (hf : 1 ≤ f) (hf2 : f ≤ 20) (hD : Y 0 = nI D) (hD1 : D ≤ 10000) (hp : TB D p) (hb : ∀ i, i < K → TB D (Y (32 + i))) (h26 : TB D (Y 26)) : HQ (min (K + 1) L) (K_enter U p (Y 0) (min (K + 1) L)) (R_hist Y p) ∧ R_hist Y p 31 = nI (min (K + 1) L) ∧ TB D (R_hist Y p 26) ∧ ∀ i, i < min (K + 1) L → TB D (R_hist Y p (32 + i)) := by
  have c : HQ K (K_cnt U p) (R_cnt Y p) := ⟨fun j hj => cnt_ag h.1 hj, fun i hi => by rw [kcnt_n (by omega), rcnt_n (by omega)]; exact h.2 i hi⟩
  have c31 : R_cnt Y p 31 = nI K := (rcnt_n (by omega)).trans h31
  have c18 : R_cnt Y p 18 = nI L := (rcnt_n (by omega)).trans h18
  have q := push_ag (p := p) c c31 c18 hK hL
  have q31 : R_keeps (R_cnt Y p) p 31 = nI (min (K + 1) L) := keeps31 c31 c18 hK hL
  have qb : ∀ i, i < min (K + 1) L → TB D (R_keeps (R_cnt Y p) p (32 + i)) := fun i hi => by
    cases i with
    | zero => rw [show 32 + 0 = 32 from rfl, keeps0]; exact hp
    | succ i => rw [keepsi (by omega), rcnt_n (by omega)]; exact hb i (by omega)
  have qn : ∀ j, j < 24 ∨ (25 < j ∧ j < 31) → R_keeps (R_cnt Y p) p j = Y j := fun j hj => by rw [keeps_st (by omega), rcnt_n (by omega)]
  have q26 : TB D (R_keeps (R_cnt Y p) p 26) := by rw [qn 26 (by omega)]; exact h26
  have t := tells_ag hD1 q q31 (by omega) qb
  obtain ⟨t26, tb⟩ := tells_TB hD1 q31 (by omega) qb q26 ((qn 19 (by omega)).trans h19) hf hf2
  have t0 : R_tells (R_keeps (R_cnt Y p) p) 0 = Y 0 := by rw [tells_st (by omega), qn 0 (by omega)]
  have a := alarms_ag t (by omega) (t0.trans hD) hD1 t26
  rw [t0] at a
  unfold K_enter R_hist
  refine ⟨a, ?_, ?_, fun i hi => ?_⟩
  · rw [alarms_st (by omega), tells_st (by omega)]; exact q31
  · rw [alarms_st (by omega)]; exact t26
  · rw [alarms_st (by omega)]; exact tb i hi
