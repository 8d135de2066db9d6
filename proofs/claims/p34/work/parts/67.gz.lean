/-! answers agree -/
theorem kgau_ag {C A : Nat → Int32} {W : Nat → Int64} {K k : Nat} (h : AG C W A) (o : OKA A) (h31 : A 31 = nI K) (hK : K ≤ 9) (hk : k ≤ 12) : K_gau C K k = R_gauge A k := by
  have lo : ∀ j, j ≤ 31 → C j = A j := fun j hj => h.1.lo hj
  obtain ⟨D, hD, hD1⟩ := o.1.D
  have c31 : cl (A 31) = K := cl_nI h31 (by omega)
  have pk : ∀ i, i < K → C (32 + i) = A (32 + i) := fun i hi => h.1 _ (by unfold Lv; rw [c31]; omega)
  have ek : R_kp C K = R_kp A K := kp_cong K pk
  have em : K_med C K (C 18) = R_median A := by
    rw [lo 18 (by omega)]
    exact med_ag hD1 h31 hK pk (fun i hi => ((o.2.1.2.2.2.1 D hD hD1).2 i (by rw [c31]; exact hi)))
  have et : K_tl C (C 0) = R_gl A := by unfold K_tl R_gl; rw [lo 26 (by omega), lo 0 (by omega)]
  have e41 : C 41 = A 41 := h.1 41 (by unfold Lv; omega)
  unfold K_gau R_gauge
  rw [lo 24 (by omega), lo 25 (by omega), lo 26 (by omega), et, lo 27 (by omega), lo 28 (by omega), show C 647 = R_mkd A 501 from h.2.2, e41, lo 31 (by omega), c31, ek, em, lo 29 (by omega), lo 30 (by omega)]
theorem angle_ag {C A : Nat → Int32} (h : ∀ j, j ≤ 31 → C j = A j) (b : Int32) : R_angle C b = R_angle A b := by
  unfold R_angle
  rw [h 8 (by omega), h 5 (by omega)]
theorem need_ag {C A : Nat → Int32} (h : ∀ j, j ≤ 31 → C j = A j) (d : Int32) : R_need C d = R_need A d := by
  unfold R_need
  rw [h 14 (by omega), h 15 (by omega)]
theorem isM_ag {W : Nat → Int64} {A : Nat → Int32} {x : Nat} (h : MW W A) (hx : x ≤ 10000) : K_bin W (x / 20) = R_isM A x := by
  have e := h (x / 20) (by omega)
  unfold R_isM
  rw [← e]
  rcases bin01 W (x / 20) with z | z
  · rw [z, if_neg (by decide)]
  · rw [z, if_pos rfl]
theorem mk_sft : ∀ w : Nat, w = 3 ∨ w = 4 ∨ w = 5 → ∀ m : Int32, M4 m → K_mk m (if w = 3 then 1 else if w = 4 then 2 else 4) = (m >>> (R_sft (nI w) &&& 31)) &&& 1 := by
  intro w hw m hm
  rcases hw with rfl | rfl | rfl <;> rcases hm with rfl | rfl | rfl | rfl <;> decide
theorem kval_ag {C A : Nat → Int32} {W : Nat → Int64} {e w : Nat} (h : AG C W A) (o : OKA A) (he : e < cl (A 41)) (hw : w ≤ 5) : K_val C e w = R_echoOf A e w (nI w) := by
  have sl : ∀ i, i < 4 → C (42 + 4 * e + i) = A (42 + 4 * e + i) := fun i hi => h.1 _ (by unfold Lv; omega)
  have hm : M4 (A (42 + 4 * e + 3)) := o.2.1.2.2.2.2.2.2.1 e he
  have s3 := sl 3 (by omega)
  by_cases h3 : w < 3
  · unfold R_echoOf
    rw [if_neg (fun z => by have := (nI_le_iff (a := 3) (by omega) (by omega)).mp z; omega), ← sl w (by omega)]
    have h4 : w = 0 ∨ w = 1 ∨ w = 2 := by omega
    rcases h4 with rfl | rfl | rfl <;> rfl
  · unfold R_echoOf
    rw [if_pos (show (3 : Int32) ≤ nI w from (nI_le_iff (a := 3) (b := w) (by omega) (by omega)).mpr (by omega)), ← mk_sft w (by omega) _ hm, ← s3]
    have h4 : w = 3 ∨ w = 4 ∨ w = 5 := by omega
    rcases h4 with rfl | rfl | rfl <;> rfl
theorem rpv_ag {C A : Nat → Int32} {W : Nat → Int64} {K k : Nat} (h : AG C W A) (h31 : A 31 = nI K) (hK : K ≤ 9) (hk : k < 2 ^ 31) : R_pv C k = R_pv A k := by
  unfold R_pv
  rw [h.1.lo (by omega)]
  by_cases e : A 31 ≤ nI k
  · rw [if_pos e, if_pos e]
  · rw [if_neg e, if_neg e]
    rw [h31, nI_le_iff (by omega) hk] at e
    exact h.1 _ (by unfold Lv; rw [h31, cl_nI (x := nI K) rfl (by omega)]; omega)
theorem mixN_cong {f g : Nat → Int32} {x : Int64} (k : Nat) : (∀ j, j < k → f j = g j) → R_mixN f k x = R_mixN g k x := by
  induction k with
  | zero =>
    intro _
    rw [mixN_0, mixN_0]
  | succ k ih =>
    intro h
    rw [mixN_s, mixN_s, ih (fun j hj => h j (by omega)), h k (by omega)]
theorem mixN_add {f : Nat → Int32} {x : Int64} (a b : Nat) : R_mixN f (a + b) x = R_mixN (fun j => f (a + j)) b (R_mixN f a x) := by
  induction b with
  | zero => rfl
  | succ b ih =>
    rw [show a + (b + 1) = (a + b) + 1 from rfl, mixN_s, mixN_s, ih]
theorem edb_ag {C A : Nat → Int32} {W : Nat → Int64} (h : AG C W A) (o : OKA A) (x : Int64) (k : Nat) : k ≤ cl (A 41) → itN (K_edb C) k x = R_mixN (R_ev A) (6 * k) x := by
  induction k with
  | zero =>
    intro _
    rw [show 6 * 0 = 0 from rfl, mixN_0]
    rfl
  | succ k ih =>
    intro hk
    rw [itN_s, ih (by omega), show 6 * (k + 1) = 6 * k + 6 by omega, mixN_add]
    unfold K_edb
    refine mixN_cong 6 (fun j hj => ?_)
    show K_val C k j = R_ev A (6 * k + j)
    unfold R_ev
    rw [show (6 * k + j) / 6 = k by omega, show (6 * k + j) % 6 = j by omega]
    exact kval_ag h o (by omega) (by omega)
theorem dig_ag {C A I : Nat → Int32} {W : Nat → Int64} {cnt ln : Int32} {K31 K4 K5 K41 L : Nat} (h : AG C W A) (o : OKA A) (h31 : A 31 = nI K31) (hK31 : K31 ≤ 9) (h4 : A 4 = nI K4) (hK4 : K4 ≤ 6) (h41 : A 41 = nI K41) (hK41 : K41 ≤ 15) (hL : L ≤ 9) (e4 : I 4 = cnt) (e6 : I 6 = ln) : K_dig C W cnt ln K31 K4 K5 K41 L = R_dig I A K4 K5 K41 L := by
  have lo : ∀ j, j ≤ 31 → C j = A j := fun j hj => h.1.lo hj
  unfold K_dig R_dig
  rw [e4, e6, mixN_cong (f := C) (g := A) 12 (fun j hj => lo j (by omega)), mixN_cong (f := fun j => C (12 + j)) (g := fun j => A (12 + j)) 12 (fun j hj => lo (12 + j) (by omega)), show R_mixN (fun j => A j) 24 (R_mx (R_mx 18907 cnt) ln) = R_mixN (fun j => A (12 + j)) 12 (R_mixN A 12 (R_mx (R_mx 18907 cnt) ln)) from mixN_add (f := A) 12 12,
    mixN_cong (f := K_gau C K31) (g := R_gauge A) 13 (fun j hj => kgau_ag h o h31 hK31 (by omega)),
    mixN_cong (f := fun j => C (134 + j)) (g := fun j => A (134 + j)) (2 * K4) (fun j hj => h.1 _ (by unfold Lv; rw [h4, cl_nI (x := nI K4) rfl (by omega)]; omega)),
    mixN_cong (f := fun j => R_angle C (nI j)) (g := fun j => R_angle A (nI j)) K5 (fun j hj => angle_ag lo _),
    edb_ag h o _ K41 (by rw [h41, cl_nI (x := nI K41) rfl (by omega)]; exact Nat.le_refl _),
    mixN_cong (f := R_pv C) (g := R_pv A) L (fun j hj => rpv_ag h h31 hK31 (by omega)),
    mixN_cong (f := K_bin W) (g := fun j => A (146 + j)) 501 (fun j hj => h.2.1 j (by omega))]
