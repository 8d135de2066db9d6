/-! class and reference agree: what is looked at -/
theorem zsub (a c : Int32) : 0 - (a - c) = c - a := by grind
theorem abs_apart {x y : Nat} (hx : x < 2 ^ 30) (hy : y < 2 ^ 30) : K_abs (nI x - nI y) = R_apart (nI x) (nI y) := by
  unfold K_abs R_apart
  by_cases h : y ≤ x
  · rw [pk_sub h, if_pos (nI_pos' (by omega))]
    by_cases h2 : x ≤ y
    · rw [if_pos ((nI_leI (by omega) (by omega)).mpr h2), pk_sub h2]
      congr 1
      omega
    · rw [if_neg (fun z => h2 ((nI_leI (by omega) (by omega)).mp z))]
  · rw [if_pos ((nI_leI (by omega) (by omega)).mpr (by omega)), if_neg (fun z => ?_), zsub]
    have h1 : (0 : Int32).toInt ≤ (nI x - nI y).toInt := Int32.le_iff_toInt_le.mp z
    rw [pk_sub_toInt hx hy] at h1
    have h0 : (0 : Int32).toInt = 0 := rfl
    rw [h0] at h1
    omega
theorem nearl_01 {C : Nat → Int32} {q : Nat} {d : Int32} : ∀ (m k : Nat), K_nearl C q d m k = 0 ∨ K_nearl C q d m k = 1 := by
  intro m
  induction m with
  | zero => exact fun k => Or.inl rfl
  | succ m ih =>
    intro k
    rw [K_nearl]
    split
    · exact ih _
    · exact Or.inr rfl
theorem nearl_0 {C : Nat → Int32} {q : Nat} {d : Int32} : ∀ (m k : Nat), K_nearl C q d m k = 0 ↔ ∀ i, k ≤ i → i < k + m → 15 < K_abs (C (q + i) - d) := by
  intro m
  induction m with
  | zero => exact fun k => ⟨fun _ i h1 h2 => absurd h2 (by omega), fun _ => rfl⟩
  | succ m ih =>
    intro k
    rw [K_nearl]
    by_cases h : 15 < K_abs (C (q + k) - d)
    · rw [if_pos h, ih]
      refine ⟨fun z i h1 h2 => ?_, fun z i h1 h2 => z i (by omega) (by omega)⟩
      by_cases h3 : i = k
      · subst h3; exact h
      · exact z i (by omega) (by omega)
    · rw [if_neg h]
      exact ⟨fun z => absurd z (by decide), fun z => absurd (z k (Nat.le_refl _) (by omega)) h⟩
theorem hadb_0 {A : Nat → Int32} {b : Nat} {d : Int32} (k : Nat) : itN (R_hadb A b d) k 0 = 0 ↔ ∀ i, i < k → 15 < R_apart (A (b + 1 + i)) d := by
  induction k with
  | zero => exact ⟨fun _ i h => absurd h (by omega), fun _ => rfl⟩
  | succ k ih =>
    rw [itN_s, R_hadb]
    by_cases h0 : itN (R_hadb A b d) k 0 = 0
    · rw [if_pos h0]
      have q := ih.mp h0
      by_cases h : 15 < R_apart (A (b + 1 + k)) d
      · rw [if_pos h]
        refine ⟨fun _ i hi => ?_, fun _ => rfl⟩
        by_cases h3 : i = k
        · subst h3; exact h
        · exact q i (by omega)
      · rw [if_neg h]
        exact ⟨fun z => absurd z (by decide), fun z => absurd (z k (by omega)) h⟩
    · rw [if_neg h0]
      exact ⟨fun z => absurd z (by decide), fun z => absurd (ih.mpr fun i hi => z i (by omega)) h0⟩
theorem near_had {C A : Nat → Int32} {q b K y : Nat} {d : Int32} (hq : q = b + 1) (hd : d = nI y) (hy : y ≤ 10000) (hK : A b = nI K) (hK15 : K ≤ 15) (he : ∀ i, i < K → C (q + i) = A (b + 1 + i)) (hr : ∀ i, i < K → ∃ t, t ≤ 10000 ∧ A (b + 1 + i) = nI t) : K_nearl C q d K 0 = R_had A b d := by
  have key : K_nearl C q d K 0 = 0 ↔ R_had A b d = 0 := by
    unfold R_had
    rw [cl_nI hK (by omega), nearl_0, hadb_0]
    refine ⟨fun z i hi => ?_, fun z i _ hi => ?_⟩
    · have := z i (Nat.zero_le _) (by omega)
      obtain ⟨t, ht, e⟩ := hr i hi
      rw [he i hi, e, hd, abs_apart (by omega) (by omega)] at this
      rw [e, hd]; exact this
    · have := z i (by omega)
      obtain ⟨t, ht, e⟩ := hr i (by omega)
      rw [e, hd] at this
      rw [he i (by omega), e, hd, abs_apart (by omega) (by omega)]; exact this
  have h1 : R_had A b d = 0 ∨ R_had A b d = 1 := had01 _
  rcases nearl_01 (C := C) (q := q) (d := d) K 0 with h | h
  · rw [h, key.mp h]
  · rcases h1 with h2 | h2
    · exact absurd (key.mpr h2) (by rw [h]; decide)
    · rw [h, h2]
/-- what looks reads -/
def Lk (Y : Nat → Int32) (n j : Nat) : Prop := j ≠ 29 ∧ (j ≤ 31 ∨ (42 ≤ j ∧ j < 42 + 4 * n ∧ (j - 42) % 4 ≠ 3) ∨ j = 102 ∨ (103 ≤ j ∧ j < 103 + cl (Y 102)) ∨ j = 118 ∨ (119 ≤ j ∧ j < 119 + cl (Y 118)))
def cdv (Y : Nat → Int32) (e : Nat) : Int32 := R_cand Y (42 + 4 * e)
def drv (Y : Nat → Int32) (e : Nat) : Int32 := R_isDr Y (Y (42 + 4 * e + 1))
def mkv (Y : Nat → Int32) (e : Nat) : Int32 := if cdv Y e = 0 then 0 else R_mark (drv Y e)
def dct (Y : Nat → Int32) : Nat → Int32
  | 0 => Y 29
  | k + 1 => if cdv Y k = 0 then dct Y k else dct Y k + R_one (drv Y k)
theorem need_cong {X Y : Nat → Int32} {d : Int32} (h14 : X 14 = Y 14) (h15 : X 15 = Y 15) : R_need X d = R_need Y d := by unfold R_need; rw [h14, h15]
theorem rlook {Y : Nat → Int32} {n : Nat} (hn : n ≤ 15) (hm : MZ n Y) (k : Nat) : k ≤ n → (∀ e, e < k → itN R_lookb k Y (42 + 4 * e + 3) = mkv Y e) ∧ (∀ e, k ≤ e → e < n → itN R_lookb k Y (42 + 4 * e + 3) = 0) ∧ itN R_lookb k Y 29 = dct Y k := by
  induction k with
  | zero => exact fun _ => ⟨fun e he => absurd he (by omega), fun e _ he => hm e he, rfl⟩
  | succ k ih =>
    intro hk
    obtain ⟨i1, i2, i3⟩ := ih (by omega)
    have L := LI_looks (A := Y) k (by omega)
    rw [itN_s]
    generalize itN R_lookb k Y = Z at i1 i2 i3 L ⊢
    have z : ∀ j, j ≠ 29 → (j < 45 ∨ 102 ≤ j ∨ (j - 42) % 4 ≠ 3) → Z j = Y j := fun j h1 h2 => L j (by omega) h1
    have ec : R_cand Z (42 + 4 * k) = cdv Y k := by
      unfold cdv R_cand
      rw [z 0 (by omega) (by omega), z (42 + 4 * k + 1) (by omega) (by omega), z (42 + 4 * k + 2) (by omega) (by omega), z (146 + cl (Y (42 + 4 * k + 1)) / 20) (by omega) (by omega), need_cong (z 14 (by omega) (by omega)) (z 15 (by omega) (by omega))]
    have eh : ∀ b d, 102 ≤ b → R_had Z b d = R_had Y b d := fun b d hb => by
      unfold R_had
      have : R_hadb Z b d = R_hadb Y b d := by
        funext i x
        unfold R_hadb
        rw [z (b + 1 + i) (by omega) (by omega)]
      rw [this, z b (by omega) (by omega)]
    have ed : R_isDr Z (Z (42 + 4 * k + 1)) = drv Y k := by
      unfold drv R_isDr R_isBl
      rw [z (42 + 4 * k + 1) (by omega) (by omega), z 16 (by omega) (by omega), z 6 (by omega) (by omega), z 7 (by omega) (by omega), eh 102 _ (by omega), eh 118 _ (by omega)]
    unfold R_lookb
    rw [ec, ed]
    by_cases hc : cdv Y k = 0
    · rw [if_pos hc]
      refine ⟨fun e he => ?_, fun e h1 h2 => i2 e (by omega) h2, by rw [i3, dct, if_pos hc]⟩
      by_cases h1 : e = k
      · subst h1; rw [i2 e (Nat.le_refl _) (by omega), mkv, if_pos hc]
      · exact i1 e (by omega)
    · rw [if_neg hc]
      unfold R_lookX
      rw [ed]
      refine ⟨fun e he => ?_, fun e h1 h2 => ?_, ?_⟩
      · rw [upd_n (by omega)]
        by_cases h1 : e = k
        · subst h1; rw [upd_s, mkv, if_neg hc]
        · rw [upd_n (by omega)]; exact i1 e (by omega)
      · rw [upd_n (by omega), upd_n (by omega)]; exact i2 e (by omega) h2
      · rw [upd_s, upd_n (by omega), i3, dct, if_neg hc]
theorem cand_d {Y : Nat → Int32} {D e : Nat} (hD : Y 0 = nI D) (hD1 : D ≤ 10000) (h0 : 0 ≤ Y (42 + 4 * e + 1)) (h : ¬ Y 0 < Y (42 + 4 * e + 1)) : ∃ t, t ≤ D ∧ Y (42 + 4 * e + 1) = nI t := by
  obtain ⟨t, ht, e1⟩ := nn_ex h0
  exact ⟨t, n_nlt e1 hD ht (by omega) h, e1⟩
theorem cdv_d {Y : Nat → Int32} {D e : Nat} (hD : Y 0 = nI D) (hD1 : D ≤ 10000) (h0 : 0 ≤ Y (42 + 4 * e + 1)) (h : ¬ cdv Y e = 0) : ∃ t, t ≤ D ∧ Y (42 + 4 * e + 1) = nI t := by
  refine cand_d hD hD1 h0 fun z => h ?_
  unfold cdv R_cand
  rw [if_pos z]
theorem kfind {X Y : Nat → Int32} {W : Nat → Int64} {n D : Nat} (hn : n ≤ 15) (hX : ∀ j, Lk Y n j → X j = Y j) (hmX : MZ n X) (hD : Y 0 = nI D) (hD1 : D ≤ 10000) (h0 : ∀ e, e < n → 0 ≤ Y (42 + 4 * e + 1)) (hM : ∀ i, i ≤ 500 → K_bin W i = Y (146 + i)) (k : Nat) : k ≤ n → (∀ e, e < k → itN (K_fcb W) k X (42 + 4 * e + 3) = if cdv Y e = 0 then 0 else 1) ∧ (∀ e, k ≤ e → e < n → itN (K_fcb W) k X (42 + 4 * e + 3) = 0) ∧ itN (K_fcb W) k X 29 = X 29 := by
  induction k with
  | zero => exact fun _ => ⟨fun e he => absurd he (by omega), fun e _ he => hmX e he, rfl⟩
  | succ k ih =>
    intro hk
    obtain ⟨i1, i2, i3⟩ := ih (by omega)
    have L := KLI_fc (W := W) (A := X) k (by omega)
    rw [itN_s]
    generalize itN (K_fcb W) k X = Z at i1 i2 i3 L ⊢
    have z : ∀ j, j ≠ 29 → (j ≤ 31 ∨ (42 ≤ j ∧ j < 42 + 4 * n ∧ (j - 42) % 4 ≠ 3)) → Z j = Y j := fun j h1 h2 => (L j h1 (by omega)).trans (hX j ⟨h1, by omega⟩)
    have ec : K_fcb W k Z = if cdv Y k = 0 then Z else upd Z (42 + 4 * k + 3) (Z (42 + 4 * k + 3) ||| 1) := by
      unfold K_fcb cdv R_cand
      rw [z 0 (by omega) (by omega), z (42 + 4 * k + 1) (by omega) (by omega), z (42 + 4 * k + 2) (by omega) (by omega), need_cong (z 14 (by omega) (by omega)) (z 15 (by omega) (by omega))]
      by_cases h1 : Y 0 < Y (42 + 4 * k + 1)
      · rw [if_pos h1, if_pos h1]; rfl
      · obtain ⟨t, ht, et⟩ := cand_d hD hD1 (h0 k (by omega)) h1
        rw [if_neg h1, if_neg h1, hM _ (by rw [cl_nI et (by omega)]; omega)]
        by_cases h2 : Y (146 + cl (Y (42 + 4 * k + 1)) / 20) = 0
        · rw [if_pos h2, if_pos h2]
          by_cases h3 : Y (42 + 4 * k + 2) < R_need Y (Y (42 + 4 * k + 1))
          · rw [if_pos h3, if_pos h3]; rfl
          · rw [if_neg h3, if_neg h3]; rfl
        · rw [if_neg h2, if_neg h2]; rfl
    rw [ec]
    by_cases hc : cdv Y k = 0
    · rw [if_pos hc]
      refine ⟨fun e he => ?_, fun e h1 h2 => i2 e (by omega) h2, i3⟩
      by_cases h1 : e = k
      · subst h1; rw [i2 e (Nat.le_refl _) (by omega), if_pos hc]
      · exact i1 e (by omega)
    · rw [if_neg hc]
      refine ⟨fun e he => ?_, fun e h1 h2 => ?_, by rw [upd_n (by omega)]; exact i3⟩
      · by_cases h1 : e = k
        · subst h1; rw [upd_s, i2 e (Nat.le_refl _) (by omega), if_neg hc]; decide
        · rw [upd_n (by omega)]; exact i1 e (by omega)
      · rw [upd_n (by omega)]; exact i2 e (by omega) h2
theorem kdrop {F Y : Nat → Int32} {n D Ka Kb : Nat} (hn : n ≤ 15) (hF : ∀ j, Lk Y n j → F j = Y j) (hm : ∀ e, e < n → F (42 + 4 * e + 3) = if cdv Y e = 0 then 0 else 1) (h29 : F 29 = Y 29) (h16 : Y 16 = 1) (hD : Y 0 = nI D) (hD1 : D ≤ 10000) (h0 : ∀ e, e < n → 0 ≤ Y (42 + 4 * e + 1)) (ha : Y 102 = nI Ka) (hKa : Ka ≤ 15) (hb : Y 118 = nI Kb) (hKb : Kb ≤ 15) (ra : ∀ i, i < Ka → ∃ t, t ≤ 10000 ∧ Y (102 + 1 + i) = nI t) (rb : ∀ i, i < Kb → ∃ t, t ≤ 10000 ∧ Y (118 + 1 + i) = nI t) (k : Nat) : k ≤ n → (∀ e, e < k → itN K_drb k F (42 + 4 * e + 3) = mkv Y e) ∧ (∀ e, k ≤ e → e < n → itN K_drb k F (42 + 4 * e + 3) = if cdv Y e = 0 then 0 else 1) ∧ itN K_drb k F 29 = dct Y k := by
  induction k with
  | zero => exact fun _ => ⟨fun e he => absurd he (by omega), fun e _ he => hm e he, h29⟩
  | succ k ih =>
    intro hk
    obtain ⟨i1, i2, i3⟩ := ih (by omega)
    have L := KLI_dr (A := F) k (by omega)
    rw [itN_s]
    generalize itN K_drb k F = Z at i1 i2 i3 L ⊢
    have ca : cl (Y 102) = Ka := cl_nI ha (by omega)
    have cb : cl (Y 118) = Kb := cl_nI hb (by omega)
    have z : ∀ j, Lk Y n j → Z j = Y j := fun j h => (L j h.1 (by
      obtain ⟨h1, h2⟩ := h
      omega)).trans (hF j h)
    have zd : Z (42 + 4 * k + 1) = Y (42 + 4 * k + 1) := z _ ⟨by omega, by omega⟩
    have ec : K_drb k Z = if cdv Y k = 0 then Z else if drv Y k = 0 then Z else K_drX Z k := by
      unfold K_drb
      rw [i2 k (Nat.le_refl _) (by omega), zd, z 6 ⟨by omega, by omega⟩, z 7 ⟨by omega, by omega⟩, z 102 ⟨by omega, by omega⟩, z 118 ⟨by omega, by omega⟩, ca, cb]
      by_cases hc : cdv Y k = 0
      · rw [if_pos hc, if_pos hc, if_pos (by decide)]
      · rw [if_neg hc, if_neg hc, if_neg (by decide)]
        obtain ⟨t, ht, et⟩ := cdv_d hD hD1 (h0 k (by omega)) hc
        rw [near_had (C := Z) (A := Y) (b := 102) (q := 103) rfl et (by omega) ha hKa (fun i hi => z _ ⟨by omega, by omega⟩) ra, near_had (C := Z) (A := Y) (b := 118) (q := 119) rfl et (by omega) hb hKb (fun i hi => z _ ⟨by omega, by omega⟩) rb]
        unfold drv R_isDr R_isBl
        rw [if_pos h16]
        unfold R_in
        by_cases h1 : Y (42 + 4 * k + 1) < Y 6 - 40
        · rw [if_pos h1, if_pos h1]; rfl
        · rw [if_neg h1, if_neg h1]
          by_cases h2 : Y 7 + 40 < Y (42 + 4 * k + 1)
          · rw [if_pos h2, if_pos h2]; rfl
          · rw [if_neg h2, if_neg h2]
            by_cases h3 : R_had Y 102 (Y (42 + 4 * k + 1)) = 0
            · rw [if_pos h3, if_pos h3]; rfl
            · rw [if_neg h3, if_neg h3]
              by_cases h4 : R_had Y 118 (Y (42 + 4 * k + 1)) = 0
              · rw [if_pos h4, if_pos h4]; rfl
              · rw [if_neg h4, if_neg h4]; rfl
    rw [ec]
    by_cases hc : cdv Y k = 0
    · rw [if_pos hc]
      refine ⟨fun e he => ?_, fun e h1 h2 => i2 e (by omega) h2, by rw [i3, dct, if_pos hc]⟩
      by_cases h1 : e = k
      · subst h1; rw [i2 e (Nat.le_refl _) (by omega), mkv, if_pos hc, if_pos hc]
      · exact i1 e (by omega)
    · rw [if_neg hc]
      by_cases hr : drv Y k = 0
      · rw [if_pos hr]
        refine ⟨fun e he => ?_, fun e h1 h2 => i2 e (by omega) h2, ?_⟩
        · by_cases h1 : e = k
          · subst h1; rw [i2 e (Nat.le_refl _) (by omega), mkv, if_neg hc, if_neg hc, R_mark, if_pos hr]
          · exact i1 e (by omega)
        · rw [i3, dct, if_neg hc, R_one, if_pos hr, Int32.add_zero]
      · rw [if_neg hr]
        refine ⟨fun e he => ?_, fun e h1 h2 => ?_, ?_⟩
        · by_cases h1 : e = k
          · subst h1
            unfold K_drX
            rw [upd_n (by omega), upd_s, i2 e (Nat.le_refl _) (by omega), if_neg hc, mkv, if_neg hc, R_mark, if_neg hr]
            decide
          · rw [drX_n (by omega) (by omega)]; exact i1 e (by omega)
        · rw [drX_n (by omega) (by omega)]; exact i2 e (by omega) h2
        · unfold K_drX
          rw [upd_s, upd_n (by omega), i3, dct, if_neg hc, R_one, if_neg hr]
theorem isDr0 {Y : Nat → Int32} {d : Int32} (h : ¬ Y 16 = 1) : R_isDr Y d = 0 := by
  unfold R_isDr R_isBl
  rw [if_neg h, if_pos rfl]
theorem look_ag {X Y : Nat → Int32} {W : Nat → Int64} {n D Ka Kb : Nat} (hn : n ≤ 15) (hX41 : X 41 = nI n) (hY41 : Y 41 = nI n) (hX : ∀ j, Lk Y n j → X j = Y j) (h29 : X 29 = Y 29) (hmX : MZ n X) (hmY : MZ n Y) (hD : Y 0 = nI D) (hD1 : D ≤ 10000) (h0 : ∀ e, e < n → 0 ≤ Y (42 + 4 * e + 1)) (hM : ∀ i, i ≤ 500 → K_bin W i = Y (146 + i)) (ha : Y 102 = nI Ka) (hKa : Ka ≤ 15) (hb : Y 118 = nI Kb) (hKb : Kb ≤ 15) (ra : ∀ i, i < Ka → ∃ t, t ≤ 10000 ∧ Y (102 + 1 + i) = nI t) (rb : ∀ i, i < Kb → ∃ t, t ≤ 10000 ∧ Y (118 + 1 + i) = nI t) :
    (∀ e, e < n → K_look W X (42 + 4 * e + 3) = mkv Y e) ∧ (∀ e, e < n → R_looks Y (42 + 4 * e + 3) = mkv Y e) ∧ K_look W X 29 = R_looks Y 29 ∧ (∀ j, j ≠ 29 → (j < 45 ∨ 102 ≤ j ∨ (j - 42) % 4 ≠ 3) → K_look W X j = X j) ∧ ∀ j, j ≠ 29 → (j < 45 ∨ 102 ≤ j ∨ (j - 42) % 4 ≠ 3) → R_looks Y j = Y j := by
  obtain ⟨r1, -, r3⟩ := rlook hn hmY n (Nat.le_refl _)
  obtain ⟨f1, -, f3⟩ := kfind hn hX hmX hD hD1 h0 hM n (Nat.le_refl _)
  have eR : R_looks Y = itN R_lookb n Y := by unfold R_looks; rw [cl_nI hY41 (by omega)]
  have eF : K_find W X = itN (K_fcb W) n X := by unfold K_find; rw [cl_nI hX41 (by omega)]
  have LF := KLI_fc (W := W) (A := X) n hn
  rw [← eF] at f1 f3 LF
  have LR := LI_looks (A := Y) n hn
  rw [← eR] at r1 r3 LR
  have h16 : K_find W X 16 = Y 16 := (LF 16 (by omega) (by omega)).trans (hX 16 ⟨by omega, by omega⟩)
  unfold K_look
  rw [h16]
  by_cases hg : Y 16 = 1
  · rw [if_pos hg]
    have hF : ∀ j, Lk Y n j → K_find W X j = Y j := fun j h => (LF j h.1 (by
      obtain ⟨h1, h2⟩ := h
      have ca : cl (Y 102) = Ka := cl_nI ha (by omega)
      have cb : cl (Y 118) = Kb := cl_nI hb (by omega)
      omega)).trans (hX j h)
    have hF41 : K_find W X 41 = nI n := (LF 41 (by omega) (by omega)).trans hX41
    obtain ⟨d1, -, d3⟩ := kdrop hn hF f1 (f3.trans h29) hg hD hD1 h0 ha hKa hb hKb ra rb n (Nat.le_refl _)
    have LD := KLI_dr (A := K_find W X) n hn
    have eD : K_drop (K_find W X) = itN K_drb n (K_find W X) := by unfold K_drop; rw [cl_nI hF41 (by omega)]
    rw [← eD] at d1 d3 LD
    exact ⟨d1, r1, d3.trans r3.symm, fun j h1 h2 => (LD j h1 h2).trans (LF j h1 h2), fun j h1 h2 => LR j (by omega) h1⟩
  · rw [if_neg hg]
    have e29 : ∀ k, dct Y k = Y 29 := fun k => by
      induction k with
      | zero => rfl
      | succ k ih =>
        rw [dct]
        split
        · exact ih
        · rw [ih, show drv Y k = 0 from isDr0 hg, R_one, if_pos rfl, Int32.add_zero]
    refine ⟨fun e he => ?_, r1, ?_, LF, fun j h1 h2 => LR j (by omega) h1⟩
    · rw [f1 e he, mkv, show drv Y e = 0 from isDr0 hg, R_mark, if_pos rfl]
    · rw [f3, h29, r3, e29]
