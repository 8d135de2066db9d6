/-! class and reference agree: what is picked, what is remembered, the history -/
def MK (m : Int32) : Prop := m = 0 ∨ m = 1 ∨ m = 3
def TB (D : Nat) (x : Int32) : Prop := x = -1 ∨ ∃ t, t ≤ D ∧ x = nI t
theorem mkv_MK (Y : Nat → Int32) (e : Nat) : MK (mkv Y e) := by
  unfold mkv R_mark
  split
  · exact Or.inl rfl
  · split
    · exact Or.inr (Or.inl rfl)
    · exact Or.inr (Or.inr rfl)
theorem neg1_ne {t : Nat} (h : t < 2 ^ 31) : nI t ≠ -1 := fun z => by
  have h1 : (0 : Int32) ≤ nI t := nI_pos' h
  rw [z] at h1
  exact absurd h1 (by decide)
theorem bet_ag {X Y : Nat → Int32} {p q : Nat} {mode told : Int32} (hm : Y 17 = mode) (ht : Y 26 = told) (hT : TB 10000 told) (x1 : X (42 + 4 * p + 1) = Y (42 + 4 * p + 1)) (x2 : X (42 + 4 * p + 2) = Y (42 + 4 * p + 2)) (y1 : X (42 + 4 * q + 1) = Y (42 + 4 * q + 1)) (y2 : X (42 + 4 * q + 2) = Y (42 + 4 * q + 2)) (dp : ∃ t, t ≤ 10000 ∧ Y (42 + 4 * p + 1) = nI t) (dq : ∃ t, t ≤ 10000 ∧ Y (42 + 4 * q + 1) = nI t) : K_bet X mode told p q = R_bet Y (42 + 4 * p) (42 + 4 * q) := by
  obtain ⟨a, ha, ea⟩ := dp
  obtain ⟨c, hc, ec⟩ := dq
  unfold K_bet R_bet
  rw [hm, ht, x1, x2, y1, y2]
  by_cases h1 : mode = 1
  · rw [if_pos h1, if_pos h1]
  · rw [if_neg h1, if_neg h1]
    by_cases h2 : mode = 2
    · rw [if_pos h2, if_pos h2]
      by_cases h3 : told = -1
      · rw [if_pos h3, if_pos h3]
      · rw [if_neg h3, if_neg h3]
        obtain ⟨t, ht2, et⟩ := hT.resolve_left h3
        have e1 := abs_apart (x := a) (y := t) (by omega) (by omega)
        have e2 := abs_apart (x := c) (y := t) (by omega) (by omega)
        unfold K_abs at e1 e2
        rw [ea, ec, et, e1, e2]
    · rw [if_neg h2, if_neg h2]
def BR (X Y : Nat → Int32) (mode told : Int32) (k : Nat) : Prop := (K_best X mode told k = -1 ∧ R_best Y k = -1) ∨ ∃ e, e < k ∧ K_best X mode told k = nI e ∧ R_best Y k = nI (42 + 4 * e) ∧ Y (42 + 4 * e + 3) = 1
theorem best_ag {X Y : Nat → Int32} {mode told : Int32} {n : Nat} (hn : n ≤ 15) (hs : ∀ j, 42 ≤ j → j < 42 + 4 * n → X j = Y j) (hm : Y 17 = mode) (ht : Y 26 = told) (hT : TB 10000 told) (hM : ∀ e, e < n → MK (Y (42 + 4 * e + 3))) (hd : ∀ e, e < n → ¬ Y (42 + 4 * e + 3) = 0 → ∃ t, t ≤ 10000 ∧ Y (42 + 4 * e + 1) = nI t) (k : Nat) : k ≤ n → BR X Y mode told k := by
  induction k with
  | zero => exact fun _ => Or.inl ⟨rfl, rfl⟩
  | succ k ih =>
    intro hk
    have i := ih (by omega)
    have eK : K_best X mode told (k + 1) = K_pkb X mode told k (K_best X mode told k) := rfl
    have eR : R_best Y (k + 1) = R_pkb Y k (R_best Y k) := rfl
    have keep : K_best X mode told (k + 1) = K_best X mode told k → R_best Y (k + 1) = R_best Y k → BR X Y mode told (k + 1) := fun h1 h2 => by
      unfold BR
      rw [h1, h2]
      rcases i with h | ⟨e, q1, q2⟩
      · exact Or.inl h
      · exact Or.inr ⟨e, by omega, q2⟩
    have take : Y (42 + 4 * k + 3) = 1 → K_best X mode told (k + 1) = nI k → R_best Y (k + 1) = nI (42 + 4 * k) → BR X Y mode told (k + 1) := fun h0 h1 h2 => Or.inr ⟨k, by omega, h1, h2, h0⟩
    have m3 := hs (42 + 4 * k + 3) (by omega) (by omega)
    rcases hM k (by omega) with h | h | h
    · refine keep ?_ ?_
      · rw [eK, K_pkb, m3, h, if_pos (by decide)]
      · rw [eR, R_pkb, h, if_neg (by decide)]
    · rcases i with ⟨b1, b2⟩ | ⟨e, q1, q2, q3, q4⟩
      · refine take h ?_ ?_
        · rw [eK, K_pkb, m3, h, if_neg (by decide), if_pos (by decide), if_pos b1]
        · rw [eR, R_pkb, h, if_pos rfl, if_pos b2]
      · have nb : ¬ K_best X mode told k = -1 := by rw [q2]; exact neg1_ne (by omega)
        have nr : ¬ R_best Y k = -1 := by rw [q3]; exact neg1_ne (by omega)
        have ce : cl (K_best X mode told k) = e := cl_nI q2 (by omega)
        have cr : cl (R_best Y k) = 42 + 4 * e := cl_nI q3 (by omega)
        have eb : K_bet X mode told k e = R_bet Y (42 + 4 * k) (42 + 4 * e) := bet_ag hm ht hT (hs _ (by omega) (by omega)) (hs _ (by omega) (by omega)) (hs _ (by omega) (by omega)) (hs _ (by omega) (by omega)) (hd k (by omega) (by rw [h]; decide)) (hd e (by omega) (by rw [q4]; decide))
        by_cases hb : R_bet Y (42 + 4 * k) (42 + 4 * e) = 0
        · refine keep ?_ ?_
          · rw [eK, K_pkb, m3, h, if_neg (by decide), if_pos (by decide), if_neg nb, ce, eb, if_pos hb]
          · rw [eR, R_pkb, h, if_pos rfl, if_neg nr, cr, if_pos hb]
        · refine take h ?_ ?_
          · rw [eK, K_pkb, m3, h, if_neg (by decide), if_pos (by decide), if_neg nb, ce, eb, if_neg hb]
          · rw [eR, R_pkb, h, if_pos rfl, if_neg nr, cr, if_neg hb]
    · refine keep ?_ ?_
      · rw [eK, K_pkb, m3, h, if_neg (by decide), if_neg (by decide)]
      · rw [eR, R_pkb, h, if_neg (by decide)]
/-- remembered -/
def TR (k : Nat) (X Y U V : Nat → Int32) : Prop := ∃ c, c ≤ k ∧ U 102 = nI c ∧ V 102 = nI c ∧ (∀ i, i < c → U (103 + i) = V (103 + i)) ∧ ∀ i, i < c → ∃ e, e < k ∧ ¬ Y (42 + 4 * e + 3) = 0 ∧ V (103 + i) = Y (42 + 4 * e + 1)
theorem take_ag {X Y : Nat → Int32} {n : Nat} (hn : n ≤ 15) (hm : ∀ e, e < n → (K_mk (X (42 + 4 * e + 3)) 1 = 0 ↔ Y (42 + 4 * e + 3) = 0)) (hd : ∀ e, e < n → X (42 + 4 * e + 1) = Y (42 + 4 * e + 1)) (k : Nat) : k ≤ n → TR k X Y (itN K_tkb k (upd (K_old X) 102 0)) (itN R_rmb k (R_rm1 Y 16)) := by
  induction k with
  | zero =>
    intro _
    refine ⟨0, Nat.le_refl _, upd_s, ?_, fun i h => absurd h (by omega), fun i h => absurd h (by omega)⟩
    show R_rm1 Y 16 102 = _
    unfold R_rm1
    rw [if_neg (by omega), if_pos (by omega)]
    rfl
  | succ k ih =>
    intro hk
    obtain ⟨c, hc, u1, v1, e1, e2⟩ := ih (by omega)
    obtain ⟨-, ku⟩ := KTI_r (C := K_old X) k (by omega)
    obtain ⟨-, kv⟩ := MI2_r (A := Y) k (by omega)
    have xo : ∀ q, q < 4 → K_old X (42 + 4 * k + q) = X (42 + 4 * k + q) := fun q hq => by unfold K_old; rw [if_neg (by omega)]
    have yo : ∀ q, q < 4 → R_rm1 Y 16 (42 + 4 * k + q) = Y (42 + 4 * k + q) := fun q hq => by unfold R_rm1; rw [if_neg (by omega), if_neg (by omega)]
    rw [itN_s, itN_s]
    generalize itN K_tkb k (upd (K_old X) 102 0) = U at u1 e1 ku ⊢
    generalize itN R_rmb k (R_rm1 Y 16) = V at v1 e1 e2 kv ⊢
    have m1 : U (42 + 4 * k + 3) = X (42 + 4 * k + 3) := (ku _ (by omega)).trans (xo 3 (by omega))
    have m2 : V (42 + 4 * k + 3) = Y (42 + 4 * k + 3) := (kv _ (by omega)).trans (yo 3 (by omega))
    have d1 : U (42 + 4 * k + 1) = Y (42 + 4 * k + 1) := ((ku _ (by omega)).trans (xo 1 (by omega))).trans (hd k (by omega))
    have d2 : V (42 + 4 * k + 1) = Y (42 + 4 * k + 1) := (kv _ (by omega)).trans (yo 1 (by omega))
    unfold K_tkb R_rmb
    rw [m1, m2]
    by_cases h : Y (42 + 4 * k + 3) = 0
    · rw [if_pos h, if_pos ((hm k (by omega)).mpr h)]
      exact ⟨c, by omega, u1, v1, e1, fun i hi => (e2 i hi).elim fun e q => ⟨e, by omega, q.2⟩⟩
    · rw [if_neg h, if_neg (fun z => h ((hm k (by omega)).mp z)), cl_nI u1 (by omega), cl_nI v1 (by omega)]
      unfold R_rmX
      rw [d1, d2]
      refine ⟨c + 1, by omega, ?_, ?_, fun i hi => ?_, fun i hi => ?_⟩
      · rw [upd_s, upd_n (by omega), u1]; exact (nI_succ c).symm
      · rw [upd_s, upd_n (by omega), v1]; exact (nI_succ c).symm
      · rw [upd_n (k := 102) (by omega), upd_n (k := 102) (by omega)]
        by_cases h2 : i = c
        · subst h2; rw [upd_s, upd_s]
        · rw [upd_n (by omega), upd_n (by omega)]; exact e1 i (by omega)
      · rw [upd_n (k := 102) (by omega)]
        by_cases h2 : i = c
        · subst h2; rw [upd_s]; exact ⟨k, by omega, h, rfl⟩
        · rw [upd_n (by omega)]; exact (e2 i (by omega)).elim fun e q => ⟨e, by omega, q.2⟩
/-- the median -/
theorem kp_cong {X Y : Nat → Int32} (k : Nat) : (∀ i, i < k → X (32 + i) = Y (32 + i)) → R_kp X k = R_kp Y k := by
  induction k with
  | zero => exact fun _ => rfl
  | succ k ih =>
    intro h
    rw [R_kp, R_kp, ih (fun i hi => h i (by omega)), h k (by omega)]
theorem pb_less {X Y : Nat → Int32} {o : Nat} (k : Nat) : (∀ i, i < k → X (32 + i) = Y (32 + i)) → K_pb X (Y (32 + o)) k = itN (R_lessb Y o) k 0 := by
  induction k with
  | zero => exact fun _ => rfl
  | succ k ih =>
    intro h
    rw [K_pb, itN_s, R_lessb, R_l1, ih (fun i hi => h i (by omega)), h k (by omega)]
    by_cases h1 : Y (32 + k) = -1
    · rw [if_pos h1, if_pos h1, Int32.add_zero]
    · rw [if_neg h1, if_neg h1]
      by_cases h2 : Y (32 + o) ≤ Y (32 + k)
      · rw [if_pos h2, if_pos h2, Int32.add_zero]
      · rw [if_neg h2, if_neg h2]
theorem a3 (a c : Int32) : a + c = a + 0 + (c + 0) := by grind
theorem a4 (a c : Int32) : a + c + 1 = a + 0 + (c + 1) := by grind
theorem a5 (a c : Int32) : a + c + 1 = a + 1 + (c + 0) := by grind
theorem pb_same {X Y : Nat → Int32} {o t D : Nat} (hD : D ≤ 10000) (ht : t ≤ D) (ho : Y (32 + o) = nI t) (k : Nat) : (∀ i, i < k → X (32 + i) = Y (32 + i)) → (∀ i, i < k → TB D (Y (32 + i))) → K_pb X (Y (32 + o) + 1) k = itN (R_lessb Y o) k 0 + itN (R_sameb Y o) k 0 := by
  induction k with
  | zero => exact fun _ _ => rfl
  | succ k ih =>
    intro h hb
    have e1 : nI t + 1 = nI (t + 1) := (nI_succ t).symm
    rw [K_pb, itN_s, itN_s, R_lessb, R_l1, R_sameb, R_s1, ih (fun i hi => h i (by omega)) (fun i hi => hb i (by omega)), h k (by omega), ho]
    by_cases h1 : Y (32 + k) = -1
    · rw [if_pos h1, if_pos h1, h1, if_neg (fun z => neg1_ne (t := t) (by omega) z.symm)]
      exact a3 _ _
    · obtain ⟨u, hu, eu⟩ := (hb k (by omega)).resolve_left h1
      rw [if_neg h1, if_neg h1, eu, e1]
      by_cases h2 : t + 1 ≤ u
      · rw [if_pos ((nI_leI (by omega) (by omega)).mpr h2), if_pos ((nI_leI (by omega) (by omega)).mpr (by omega)), if_neg (fun z => by have := (nI_eq (by omega) (by omega)).mp z; omega)]
        exact a3 _ _
      · rw [if_neg (fun z => h2 ((nI_leI (by omega) (by omega)).mp z))]
        by_cases h3 : t ≤ u
        · rw [if_pos ((nI_leI (by omega) (by omega)).mpr h3), if_pos (by rw [show u = t by omega])]
          exact a4 _ _
        · rw [if_neg (fun z => h3 ((nI_leI (by omega) (by omega)).mp z)), if_neg (fun z => by have := (nI_eq (by omega) (by omega)).mp z; omega)]
          exact a5 _ _
theorem por_ag {X Y : Nat → Int32} {K D : Nat} {n : Int32} (hD : D ≤ 10000) (h : ∀ i, i < K → X (32 + i) = Y (32 + i)) (hb : ∀ i, i < K → TB D (Y (32 + i))) : ∀ (m k : Nat), k + m ≤ K → K_por X K ((n - 1) / 2) m k = R_medl Y K n m k := by
  intro m
  induction m with
  | zero => exact fun k _ => rfl
  | succ m ih =>
    intro k hk
    rw [K_por, R_medl, h k (by omega), ih (k + 1) (by omega)]
    by_cases h1 : Y (32 + k) = -1
    · rw [if_pos h1, if_pos h1]
    · obtain ⟨t, ht, et⟩ := (hb k (by omega)).resolve_left h1
      rw [if_neg h1, if_neg h1, pb_less K h, pb_same hD ht et K h hb]
theorem med_ag {X Y : Nat → Int32} {K D : Nat} (hD : D ≤ 10000) (hK : Y 31 = nI K) (hK9 : K ≤ 9) (h : ∀ i, i < K → X (32 + i) = Y (32 + i)) (hb : ∀ i, i < K → TB D (Y (32 + i))) : K_med X K (Y 18) = R_median Y := by
  unfold K_med R_median
  rw [cl_nI hK (by omega), kp_cong K h]
  by_cases h1 : Y 18 ≤ 2 * R_kp Y K
  · rw [if_pos h1, if_neg (Int32.not_lt.mpr h1)]
    exact por_ag hD h hb K 0 (by omega)
  · rw [if_neg h1, if_pos (Int32.not_le.mp h1)]
theorem medl_TB {Y : Nat → Int32} {K D : Nat} {n : Int32} (hb : ∀ i, i < K → TB D (Y (32 + i))) : ∀ (m k : Nat), k + m ≤ K → TB D (R_medl Y K n m k) := by
  intro m
  induction m with
  | zero => exact fun k _ => Or.inl rfl
  | succ m ih =>
    intro k hk
    rw [R_medl]
    split
    · exact ih _ (by omega)
    · split
      · exact ih _ (by omega)
      · split
        · exact ih _ (by omega)
        · exact hb k (by omega)
theorem med_TB {Y : Nat → Int32} {K D : Nat} (hK : Y 31 = nI K) (hK9 : K ≤ 9) (hb : ∀ i, i < K → TB D (Y (32 + i))) : TB D (R_median Y) := by
  unfold R_median
  rw [cl_nI hK (by omega)]
  split
  · exact medl_TB hb K 0 (by omega)
  · exact Or.inl rfl
theorem add_eq_self (a q : Int32) : a + q = a ↔ q = 0 := by
  constructor
  · intro h; grind
  · intro h; grind
theorem flw_ag {C A : Nat → Int32} {m : Int32} (h26 : C 26 = A 26) : K_flw C m (A 19) = R_tl (upd A 27 0) m := by
  unfold K_flw R_tl R_then
  rw [upd_n (by omega), upd_n (by omega), h26]
  by_cases h1 : A 26 = -1
  · rw [if_pos h1, if_pos h1, ite_self]
  · rw [if_neg h1, if_neg h1]
    by_cases h2 : (m - A 26) / A 19 = 0
    · rw [if_pos h2, if_pos ((add_eq_self _ _).mpr h2)]
    · rw [if_neg h2, if_neg (fun z => h2 ((add_eq_self _ _).mp z))]
