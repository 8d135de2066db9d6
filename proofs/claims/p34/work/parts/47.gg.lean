/-! class and reference agree: masks; many shots; learning -/
theorem bitv_r : ∀ r, r < 64 → ((1 : Int64) <<< ((nI r).toInt64 &&& 63)).toBitVec = BitVec.twoPow 64 r := by decide +kernel
theorem bitv_tp {n : Nat} (h : n < 2 ^ 31) : (K_bitv n).toBitVec = BitVec.twoPow 64 (n % 64) := by
  unfold K_bitv
  rw [show (64 : Int32) = nI 64 from rfl, pk_rem h (by omega) (by omega)]
  exact bitv_r _ (Nat.mod_lt _ (by omega))
theorem tp_ne : ∀ r, r < 64 → BitVec.twoPow 64 r ≠ 0#64 := by decide +kernel
theorem cmp0 {x : Int64} : lg_cmp x 0 = 0 ↔ x = 0 := by
  unfold lg_cmp
  by_cases h : x > 0
  · rw [if_pos h]
    refine ⟨fun z => absurd z (by decide), fun z => ?_⟩
    subst z
    exact absurd h (by decide)
  · rw [if_neg h]
    by_cases h2 : x = 0
    · rw [if_pos h2]; exact ⟨fun _ => h2, fun _ => rfl⟩
    · rw [if_neg h2]; exact ⟨fun z => absurd z (by decide), fun z => absurd z h2⟩
theorem bin_bit {W : Nat → Int64} {n : Nat} (h : n < 2 ^ 31) : K_bin W n = if (W (n / 64)).toBitVec.getLsbD (n % 64) = true then 1 else 0 := by
  have e : W (n / 64) &&& K_bitv n = 0 ↔ ¬ (W (n / 64)).toBitVec.getLsbD (n % 64) = true := by
    rw [← Int64.toBitVec_inj, Int64.toBitVec_and, bitv_tp h, BitVec.and_twoPow]
    by_cases hb : (W (n / 64)).toBitVec.getLsbD (n % 64) = true
    · rw [if_pos hb]
      exact ⟨fun z => absurd z (tp_ne _ (Nat.mod_lt _ (by omega))), fun z => absurd hb z⟩
    · rw [if_neg hb]
      exact ⟨fun _ => hb, fun _ => rfl⟩
  unfold K_bin
  by_cases hb : (W (n / 64)).toBitVec.getLsbD (n % 64) = true
  · rw [if_pos hb, if_neg (fun z => (e.mp (cmp0.mp z)) hb)]
  · rw [if_neg hb, if_pos (cmp0.mpr (e.mpr hb))]
theorem bin_flip {W : Nat → Int64} {n i : Nat} (hn : n < 2 ^ 31) (hi : i < 2 ^ 31) : K_bin (vp_updL W (n / 64) (W (n / 64) ^^^ K_bitv n)) i = if i = n then (if K_bin W n = 0 then 1 else 0) else K_bin W i := by
  rw [bin_bit hi]
  unfold vp_updL
  by_cases h1 : i / 64 = n / 64
  · rw [if_pos h1, Int64.toBitVec_xor, bitv_tp hn, BitVec.getLsbD_xor, BitVec.getLsbD_twoPow]
    by_cases h2 : i = n
    · subst h2
      rw [if_pos rfl, bin_bit hi]
      have : i % 64 < 64 := Nat.mod_lt _ (by omega)
      by_cases hb : (W (i / 64)).toBitVec.getLsbD (i % 64) = true
      · simp [hb, this]
      · simp [hb, this]
    · have h3 : ¬ n % 64 = i % 64 := by omega
      rw [if_neg h2, bin_bit hi, h1]
      simp [h3]
  · have h2 : ¬ i = n := fun z => h1 (by rw [z])
    rw [if_neg h1, if_neg h2, bin_bit hi]
theorem mkd_upd {A : Nat → Int32} {n : Nat} {v : Int32} (k : Nat) : R_mkd (upd A (146 + n) v) k = if n < k then R_mkd A k + (v - A (146 + n)) else R_mkd A k := by
  induction k with
  | zero => rw [if_neg (by omega)]; rfl
  | succ k ih =>
    rw [R_mkd, R_mkd, ih]
    by_cases h1 : n = k
    · subst h1
      rw [if_neg (by omega), if_pos (by omega), upd_s]
      grind
    · rw [upd_n (by omega)]
      by_cases h2 : n < k
      · rw [if_pos h2, if_pos (by omega)]
        grind
      · rw [if_neg h2, if_neg (by omega)]
def MC (C : Nat → Int32) (A : Nat → Int32) : Prop := C 647 = R_mkd A 501
def B01 (A : Nat → Int32) : Prop := ∀ i, i ≤ 500 → A (146 + i) = 0 ∨ A (146 + i) = 1
theorem mput_ag {C A : Nat → Int32} {W : Nat → Int64} {n : Nat} {m : Int32} (hW : MW W A) (hC : MC C A) (hA : B01 A) (hn : n ≤ 500) (hm : m = 0 ∨ m = 1) : MW (K_mputW W n m) (upd A (146 + n) m) ∧ MC (K_mputC C W n m) (upd A (146 + n) m) ∧ B01 (upd A (146 + n) m) := by
  have b3 : B01 (upd A (146 + n) m) := fun i hi => by
    by_cases h : i = n
    · subst h; rw [upd_s]; exact hm
    · rw [upd_n (by omega)]; exact hA i hi
  have e := hW n hn
  unfold K_mputW K_mputC MC
  by_cases h1 : K_bin W n = m
  · rw [if_pos h1, if_pos h1, mkd_upd, if_pos (show n < 501 by omega)]
    refine ⟨fun i hi => ?_, ?_, b3⟩
    · by_cases h : i = n
      · subst h; rw [upd_s]; exact h1
      · rw [upd_n (by omega)]; exact hW i hi
    · rw [hC, ← e, h1]; grind
  · rw [if_neg h1, if_neg h1, mkd_upd, if_pos (show n < 501 by omega), upd_s]
    refine ⟨fun i hi => ?_, ?_, b3⟩
    · rw [bin_flip (by omega) (by omega)]
      by_cases h : i = n
      · subst h
        rw [if_pos rfl, upd_s]
        rcases hm with rfl | rfl
        · rw [if_neg h1]
        · rw [if_pos ((bin01 W i).resolve_right h1)]
      · rw [if_neg h, upd_n (by omega)]; exact hW i hi
    · rw [hC, ← e]
      rcases hm with rfl | rfl
      · rw [if_pos rfl, (bin01 W n).resolve_left h1]; grind
      · rw [if_neg (by decide), (bin01 W n).resolve_right h1]; grind
/-- all of a state -/
def AG (C : Nat → Int32) (W : Nat → Int64) (A : Nat → Int32) : Prop := Ag C A ∧ MW W A ∧ MC C A
theorem WX.b01 {A : Nat → Int32} (h : WX A) : B01 A := h.2.2.2.2.2.2.2
theorem mkd_cong {A B : Nat → Int32} (k : Nat) : (∀ i, i < k → A (146 + i) = B (146 + i)) → R_mkd A k = R_mkd B k := by
  induction k with
  | zero => exact fun _ => rfl
  | succ k ih =>
    intro h
    rw [R_mkd, R_mkd, ih (fun i hi => h i (by omega)), h k (by omega)]
theorem AG_shot {C A : Nat → Int32} {W : Nat → Int64} (h : AG C W A) (hw : WF A) (hx : WX A) : AG (K_shot W C) W (R_shot A).1 ∧ WX (R_shot A).1 := by
  obtain ⟨a, b, c⟩ := h
  obtain ⟨a1, a2, a3⟩ := shot_ag a hw hx b
  refine ⟨⟨a1, fun i hi => ?_, ?_⟩, a2⟩
  · rw [(a3 _ (by omega)).2]; exact b i hi
  · unfold MC
    rw [(a3 647 (by omega)).1, mkd_cong 501 (fun i hi => (a3 (146 + i) (by omega)).2)]
    exact c
def K_shots (W : Nat → Int64) (C : Nat → Int32) (k : Nat) : Nat → Int32 := itN (fun _ X => K_shot W X) k C
theorem AG_shots {C A : Nat → Int32} {W : Nat → Int64} (h : AG C W A) (hw : WF A) (hx : WX A) (k : Nat) : AG (K_shots W C k) W (R_shoots A k).1 ∧ WX (R_shoots A k).1 := by
  induction k with
  | zero => exact ⟨h, hx⟩
  | succ k ih =>
    have e1 : K_shots W C (k + 1) = K_shot W (K_shots W C k) := by unfold K_shots; rw [itN_s]
    have e2 : (R_shoots A (k + 1)).1 = (R_shot (R_shoots A k).1).1 := by
      unfold R_shoots
      rw [itN_s, R_shb]
    rw [e1, e2]
    exact AG_shot ih.1 (WF_shoots hw k) ih.2
/-- learning -/
def K_lrb (k : Nat) (p : (Nat → Int32) × (Nat → Int64)) : (Nat → Int32) × (Nat → Int64) := if 1 < p.1 (42 + 4 * k) then p else if p.1 0 < p.1 (42 + 4 * k + 1) then p else (K_mputC p.1 p.2 (cl (p.1 (42 + 4 * k + 1)) / 20) 1, K_mputW p.2 (cl (p.1 (42 + 4 * k + 1)) / 20) 1)
def K_lr (p : (Nat → Int32) × (Nat → Int64)) : (Nat → Int32) × (Nat → Int64) := itN K_lrb (cl (K_fires p.1 41)) (K_fires p.1, p.2)
def K_learns (C : Nat → Int32) (W : Nat → Int64) (k : Nat) : (Nat → Int32) × (Nat → Int64) := itN (fun _ p => K_lr p) k (C, W)
theorem mputC_n {C : Nat → Int32} {W : Nat → Int64} {n j : Nat} {m : Int32} (h : j ≠ 647) : K_mputC C W n m j = C j := by
  unfold K_mputC
  split
  · rfl
  · exact upd_n h
theorem klrb_n {p : (Nat → Int32) × (Nat → Int64)} {j : Nat} (h : j ≠ 647) (k : Nat) : (itN K_lrb k p).1 j = p.1 j := by
  induction k with
  | zero => rfl
  | succ k ih =>
    rw [itN_s, K_lrb]
    split
    · exact ih
    · split
      · exact ih
      · show K_mputC _ _ _ _ j = _
        rw [mputC_n h]; exact ih
theorem rlrb_n {A : Nat → Int32} {j : Nat} (h : j < 146) (k : Nat) : itN R_lrb k A j = A j := by
  induction k with
  | zero => rfl
  | succ k ih =>
    rw [itN_s, R_lrb]
    split
    · exact ih
    · split
      · exact ih
      · rw [upd_n (by omega)]; exact ih
theorem lt2 {x : Int32} : 2 ≤ x ↔ 1 < x := by
  rw [Int32.le_iff_toInt_le, Int32.lt_iff_toInt_lt, show (2 : Int32).toInt = 2 from rfl, show (1 : Int32).toInt = 1 from rfl]
  omega
theorem lrb_ag {C Y : Nat → Int32} {W : Nat → Int64} {n D : Nat} (hn : n ≤ 15) (hs : ∀ j, 42 ≤ j → j < 42 + 4 * n → C j = Y j) (h0 : C 0 = Y 0) (hD : Y 0 = nI D) (hD1 : D ≤ 10000) (hd : ∀ e, e < n → 0 ≤ Y (42 + 4 * e + 1)) (hW : MW W Y) (hC : MC C Y) (hB : B01 Y) (k : Nat) : k ≤ n → MW (itN K_lrb k (C, W)).2 (itN R_lrb k Y) ∧ MC (itN K_lrb k (C, W)).1 (itN R_lrb k Y) ∧ B01 (itN R_lrb k Y) := by
  induction k with
  | zero => exact fun _ => ⟨hW, hC, hB⟩
  | succ k ih =>
    intro hk
    obtain ⟨i1, i2, i3⟩ := ih (by omega)
    have kn : ∀ j, j < 146 → (itN K_lrb k (C, W)).1 j = C j := fun j hj => klrb_n (by omega) k
    have rn : ∀ j, j < 146 → itN R_lrb k Y j = Y j := fun j hj => rlrb_n hj k
    rw [itN_s, itN_s, K_lrb, R_lrb, kn (42 + 4 * k) (by omega), kn (42 + 4 * k + 1) (by omega), kn 0 (by omega), rn (42 + 4 * k) (by omega), rn (42 + 4 * k + 1) (by omega), rn 0 (by omega), hs (42 + 4 * k) (by omega) (by omega), hs (42 + 4 * k + 1) (by omega) (by omega), h0]
    by_cases h1 : 1 < Y (42 + 4 * k)
    · rw [if_pos h1, if_pos (lt2.mpr h1)]; exact ⟨i1, i2, i3⟩
    · rw [if_neg h1, if_neg (fun z => h1 (lt2.mp z))]
      by_cases h2 : Y 0 < Y (42 + 4 * k + 1)
      · rw [if_pos h2, if_pos h2]; exact ⟨i1, i2, i3⟩
      · rw [if_neg h2, if_neg h2]
        obtain ⟨t, ht, et⟩ := cand_d hD hD1 (hd k (by omega)) h2
        have e : cl (Y (42 + 4 * k + 1)) = t := cl_nI et (by omega)
        rw [e]
        exact mput_ag i1 i2 i3 (by omega) (Or.inr rfl)
theorem fires_AG {C A : Nat → Int32} {W : Nat → Int64} (h : AG C W A) (hw : WF A) (hx : WX A) : AG (K_fires C) W (R_fires A) ∧ WX (R_fires A) := by
  obtain ⟨hA, hW, hC⟩ := h
  obtain ⟨n, hn, x41, y41, flo, fsl, fmz⟩ := fires_ag hA hw
  obtain ⟨K4, h4, hK4⟩ := hw.K4
  obtain ⟨K5, h5, hK5⟩ := hw.K5
  obtain ⟨K, h31, hK9⟩ := hw.K31
  have c4 : cl (C 4) ≤ 6 := by rw [hA.lo (by omega), cl_nI h4 (by omega)]; exact hK4
  have c5 : cl (C 5) ≤ 6 := by rw [hA.lo (by omega), cl_nI h5 (by omega)]; exact hK5
  have xo : ∀ j, (32 ≤ j ∧ j ≤ 40) ∨ 102 ≤ j → K_fires C j = C j := fun j hj => kfires_n c4 c5 (by omega)
  have yo : ∀ j, j ≠ 1 ∧ j ≠ 8 ∧ j ≠ 11 ∧ (j < 41 ∨ 102 ≤ j) → R_fires A j = A j := fun j hj => fires_st hw hj
  obtain ⟨q13, q18, q19, qT, qa, qb, qm, qB⟩ := hx
  have cl31 : cl (A 31) = K := cl_nI h31 (by omega)
  refine ⟨⟨fun j hj => ?_, fun i hi => ?_, ?_⟩, ?_, ?_, ?_, ?_, ?_, ?_, ?_, ?_⟩
  · by_cases h1 : j ≤ 31
    · exact flo j h1
    · by_cases h2 : 41 ≤ j ∧ j < 102
      · unfold Lv at hj
        rw [y41, cl_nI rfl (by omega), yo 31 (by omega), cl31] at hj
        by_cases h3 : j = 41
        · subst h3; rw [x41, y41]
        · exact fsl j (by omega) (by omega)
      · unfold Lv at hj
        rw [yo 31 (by omega), yo 102 (by omega), yo 118 (by omega), yo 4 (by omega), cl31, y41, cl_nI rfl (by omega)] at hj
        rw [xo j (by omega), yo j (by omega)]
        exact hA j (by unfold Lv; omega)
  · rw [yo _ (by omega)]; exact hW i hi
  · unfold MC
    rw [xo 647 (by omega), mkd_cong 501 (fun i hi => yo (146 + i) (by omega))]
    exact hC
  · rw [yo 13 (by omega)]; exact q13
  · rw [yo 18 (by omega)]; exact q18
  · rw [yo 19 (by omega)]; exact q19
  · intro D a1 a2
    rw [yo 0 (by omega)] at a1
    obtain ⟨b1, b2⟩ := qT D a1 a2
    refine ⟨by rw [yo 26 (by omega)]; exact b1, fun i hi => ?_⟩
    rw [yo 31 (by omega)] at hi
    rw [yo _ (by omega)]; exact b2 i hi
  · intro i hi
    rw [yo 102 (by omega)] at hi
    obtain ⟨t, ht, et⟩ := qa i hi
    exact ⟨t, ht, by rw [yo _ (by omega)]; exact et⟩
  · intro i hi
    rw [yo 118 (by omega)] at hi
    obtain ⟨t, ht, et⟩ := qb i hi
    exact ⟨t, ht, by rw [yo _ (by omega)]; exact et⟩
  · intro e he
    rw [y41, cl_nI rfl (by omega)] at he
    rw [fmz e he]; exact Or.inl rfl
  · intro i hi
    rw [yo _ (by omega)]; exact qB i hi
theorem WX_hi {A A' : Nat → Int32} (h : WX A) (hj : ∀ j, j < 146 → A' j = A j) (hB : B01 A') (hc : cl (A 31) ≤ 9) (h2 : cl (A 102) ≤ 15) (h3 : cl (A 118) ≤ 15) (h4 : cl (A 41) ≤ 15) : WX A' := by
  obtain ⟨q13, q18, q19, qT, qa, qb, qm, -⟩ := h
  refine ⟨by rw [hj 13 (by omega)]; exact q13, by rw [hj 18 (by omega)]; exact q18, by rw [hj 19 (by omega)]; exact q19, fun D a1 a2 => ?_, fun i hi => ?_, fun i hi => ?_, fun e he => ?_, hB⟩
  · rw [hj 0 (by omega)] at a1
    obtain ⟨b1, b2⟩ := qT D a1 a2
    refine ⟨by rw [hj 26 (by omega)]; exact b1, fun i hi => ?_⟩
    rw [hj 31 (by omega)] at hi
    rw [hj _ (by omega)]; exact b2 i hi
  · rw [hj 102 (by omega)] at hi
    rw [hj _ (by omega)]; exact qa i hi
  · rw [hj 118 (by omega)] at hi
    rw [hj _ (by omega)]; exact qb i hi
  · rw [hj 41 (by omega)] at he
    rw [hj _ (by omega)]; exact qm e he
theorem cls_le {A : Nat → Int32} (h : WF A) : cl (A 31) ≤ 9 ∧ cl (A 102) ≤ 15 ∧ cl (A 118) ≤ 15 ∧ cl (A 41) ≤ 15 ∧ cl (A 4) ≤ 6 := by
  obtain ⟨a, ha, ha2⟩ := h.K31
  obtain ⟨b, hb, hb2⟩ := h.Ka
  obtain ⟨c, hc, hc2⟩ := h.Kb
  obtain ⟨d, hd, hd2⟩ := h.K41
  obtain ⟨e, he, he2⟩ := h.K4
  rw [cl_nI ha (by omega), cl_nI hb (by omega), cl_nI hc (by omega), cl_nI hd (by omega), cl_nI he (by omega)]
  exact ⟨ha2, hb2, hc2, hd2, he2⟩
theorem AG_lr {C A : Nat → Int32} {W : Nat → Int64} (h : AG C W A) (hw : WF A) (hx : WX A) : AG (K_lr (C, W)).1 (K_lr (C, W)).2 (R_lr A) ∧ WX (R_lr A) := by
  obtain ⟨⟨a1, a2, a3⟩, a4⟩ := fires_AG h hw hx
  have wf := WF_fires hw
  obtain ⟨l1, l2, l3, l4, l5⟩ := cls_le wf
  obtain ⟨n, hn, x41, y41, flo, fsl, -⟩ := fires_ag h.1 hw
  obtain ⟨D, hD, hD1⟩ := wf.D
  have hDI := fires_DI hw
  unfold DI at hDI
  rw [cl_nI y41 (by omega)] at hDI
  obtain ⟨m1, m2, m3⟩ := lrb_ag hn fsl (flo 0 (by omega)) hD hD1 hDI a2 a3 a4.b01 n (Nat.le_refl _)
  have e1 : K_lr (C, W) = itN K_lrb n (K_fires C, W) := by unfold K_lr; rw [show cl (K_fires (C, W).1 41) = n from cl_nI x41 (by omega)]
  have e2 : R_lr A = itN R_lrb n (R_fires A) := by unfold R_lr; rw [cl_nI y41 (by omega)]
  rw [e1, e2]
  have rn : ∀ j, j < 146 → itN R_lrb n (R_fires A) j = R_fires A j := fun j hj => rlrb_n hj n
  refine ⟨⟨fun j hj => ?_, m1, m2⟩, WX_hi a4 rn m3 l1 l2 l3 l4⟩
  unfold Lv at hj
  rw [rn 31 (by omega), rn 41 (by omega), rn 102 (by omega), rn 118 (by omega), rn 4 (by omega)] at hj
  rw [klrb_n (by omega), rn j (by omega)]
  exact a1 j hj
theorem AG_learns {C A : Nat → Int32} {W : Nat → Int64} (h : AG C W A) (hw : WF A) (hx : WX A) (k : Nat) : AG (K_learns C W k).1 (K_learns C W k).2 (R_learns A k) ∧ WX (R_learns A k) := by
  induction k with
  | zero => exact ⟨h, hx⟩
  | succ k ih =>
    have e1 : K_learns C W (k + 1) = K_lr (K_learns C W k) := by unfold K_learns; rw [itN_s]
    have e2 : R_learns A (k + 1) = R_lr (R_learns A k) := by unfold R_learns; rw [itN_s]
    rw [e1, e2]
    exact AG_lr ih.1 (WF_learns hw k) ih.2
