/-! class and reference agree: chance, a shot that comes back -/
theorem d2_cong {X Y : Nat → Int32} {m : Int32} (h : X 11 = Y 11) : R_d2 X m = R_d2 Y m := by unfold R_d2; rw [h]
theorem d1_11 {X : Nat → Int32} : R_d1 X 11 = R_lcg (X 11) := upd_s
theorem greater_id {x : Int32} (h : 0 ≤ x) : R_greater 0 x = x := by unfold R_greater; rw [if_pos h]
theorem chm1_n {X : Nat → Int32} {k j : Nat} (h : j ≠ 11) : (R_chm1 k X).1 j = X j := by unfold R_chm1; rw [chm_out h, d1_n h]
theorem mv_eq {X Y : Nat → Int32} {jt : Int32} {k : Nat} (h11 : X 11 = Y 11) (h13 : Y 13 = jt) (hd : X (42 + 4 * k + 1) = Y (42 + 4 * k + 1)) (h0 : 0 ≤ Y (42 + 4 * k + 1)) : (K_mv (R_d1 X) jt k).1 11 = (R_chm1 k Y).1 11 ∧ R_greater 0 (K_mv (R_d1 X) jt k).2 = (R_chm1 k Y).2 := by
  have a : R_d1 X 11 = R_d1 Y 11 := by rw [d1_11, d1_11, h11]
  have b : R_d1 Y 13 = jt := (d1_n (by omega)).trans h13
  have c : R_d1 X (42 + 4 * k + 1) = R_d1 Y (42 + 4 * k + 1) := by rw [d1_n (by omega), d1_n (by omega)]; exact hd
  unfold K_mv R_chm1 R_chm
  rw [b]
  by_cases hj : jt ≤ 0
  · rw [if_pos hj, if_pos hj]
    refine ⟨a, ?_⟩
    show R_greater 0 (R_d1 X (42 + 4 * k + 1)) = R_d1 Y (42 + 4 * k + 1)
    rw [c, d1_n (by omega)]
    exact greater_id h0
  · rw [if_neg hj, if_neg hj]
    refine ⟨?_, ?_⟩
    · show R_d1 (R_d1 X) 11 = R_d1 (R_d1 Y) 11
      rw [d1_11 (X := R_d1 X), d1_11 (X := R_d1 Y), a]
    · show R_greater 0 (R_d1 X (42 + 4 * k + 1) + R_d2 (R_d1 X) (2 * jt + 1) - jt) = R_greater 0 (R_d1 Y (42 + 4 * k + 1) + R_d2 (R_d1 Y) (2 * jt + 1) - R_d1 (R_d1 Y) 13)
      rw [c, d2_cong a, show R_d1 (R_d1 Y) 13 = jt from (d1_n (by omega)).trans b]
def CHI (n k : Nat) (X : Nat → Int32) (p : (Nat → Int32) × Nat) : Prop := p.2 ≤ k ∧ X 41 = nI p.2 ∧ (∀ j, j ≤ 31 → X j = p.1 j) ∧ (∀ j, 42 + 4 * k ≤ j → j < 42 + 4 * n → X j = p.1 j) ∧ (∀ j, 42 ≤ j → j < 42 + 4 * p.2 → (j - 42) % 4 ≠ 3 → X j = itN R_in1 p.2 p.1 j) ∧ MZ n X ∧ MZ n p.1 ∧ ∀ e, k ≤ e → e < n → 0 ≤ p.1 (42 + 4 * e + 1)
theorem CHI_s {n k : Nat} {X : Nat → Int32} {p : (Nat → Int32) × Nat} {x jt : Int32} (h : CHI n k X p) (hk : k < n) (hn : n ≤ 15) (hx : p.1 12 = x) (hj : p.1 13 = jt) : CHI n (k + 1) (K_chb x jt k X) (R_chb k p) := by
  obtain ⟨hc, h41, hlo, hhi, hsl, hm, hm2, hd⟩ := h
  obtain ⟨Y, c⟩ := p
  change c ≤ k at hc
  change X 41 = nI c at h41
  change ∀ j, j ≤ 31 → X j = Y j at hlo
  change ∀ j, 42 + 4 * k ≤ j → j < 42 + 4 * n → X j = Y j at hhi
  change ∀ j, 42 ≤ j → j < 42 + 4 * c → (j - 42) % 4 ≠ 3 → X j = itN R_in1 c Y j at hsl
  change MZ n Y at hm2
  change ∀ e, k ≤ e → e < n → 0 ≤ Y (42 + 4 * e + 1) at hd
  change Y 12 = x at hx
  change Y 13 = jt at hj
  have el : K_lost x X = R_lost Y := by
    unfold K_lost R_lost
    rw [show R_d1 Y 12 = x from (d1_n (by omega)).trans hx, d2_cong (hlo 11 (by omega))]
  unfold K_chb R_chb
  rw [el]
  by_cases hl : R_lost Y = 0
  · rw [if_pos hl, if_pos hl, cl_nI h41 (by omega)]
    obtain ⟨m11, mv⟩ := mv_eq (jt := jt) (k := k) (hlo 11 (by omega)) hj (hhi _ (by omega) (by omega)) (hd k (Nat.le_refl _) hk)
    rw [mv]
    have hZ : ∀ j, j ≠ 11 → (K_mv (R_d1 X) jt k).1 j = X j := fun j h => (kmv_n h).trans (d1_n h)
    have hZR : ∀ j, j ≠ 11 → (R_chm1 k Y).1 j = Y j := fun j h => chm1_n h
    generalize (K_mv (R_d1 X) jt k).1 = Z at hZ m11 ⊢
    generalize R_chm1 k Y = R at hZR m11 ⊢
    have hp : ∀ j, j ≠ 11 → (j < 42 + 4 * c ∨ 42 + 4 * c + 4 ≤ j) → upd (cpR (fun i => R.1 (42 + 4 * k + i)) R.1 (42 + 4 * c) 4) (42 + 4 * c + 1) R.2 j = Y j := fun j h1 h2 => by
      rw [upd_n (by omega)]
      unfold cpR
      rw [if_neg (by omega)]
      exact hZR j h1
    have hq : ∀ q, q < 4 → q ≠ 1 → upd (cpR (fun i => R.1 (42 + 4 * k + i)) R.1 (42 + 4 * c) 4) (42 + 4 * c + 1) R.2 (42 + 4 * c + q) = Y (42 + 4 * k + q) := fun q h1 h2 => by
      rw [upd_n (by omega)]
      unfold cpR
      rw [if_pos (by omega), show 42 + 4 * c + q - (42 + 4 * c) = q by omega]
      exact hZR _ (by omega)
    have hv : upd (cpR (fun i => R.1 (42 + 4 * k + i)) R.1 (42 + 4 * c) 4) (42 + 4 * c + 1) R.2 (42 + 4 * c + 1) = R.2 := upd_s
    have hlo2 : ∀ j, j ≤ 31 → Z j = upd (cpR (fun i => R.1 (42 + 4 * k + i)) R.1 (42 + 4 * c) 4) (42 + 4 * c + 1) R.2 j := fun j hj => by
      by_cases h1 : j = 11
      · subst h1
        rw [upd_n (by omega)]
        unfold cpR
        rw [if_neg (by omega)]
        exact m11
      · rw [hp j h1 (by omega), hZ j h1]
        exact hlo j hj
    generalize upd (cpR (fun i => R.1 (42 + 4 * k + i)) R.1 (42 + 4 * c) 4) (42 + 4 * c + 1) R.2 = Y' at hp hq hv hlo2 ⊢
    have hSQ : SQ c Y' Y := fun j a1 a2 => hp j (by omega) (by omega)
    refine ⟨by show c + 1 ≤ k + 1; omega, ?_, fun j hj => ?_, fun j a1 a2 => ?_, fun j a1 a2 a3 => ?_, fun e he => ?_, fun e he => ?_, fun e a1 a2 => ?_⟩
    · show K_ins Z c _ _ _ 41 = nI (c + 1)
      unfold K_ins
      rw [upd_s, insl_out _ _ (by omega), hZ 41 (by omega), h41]
      exact (nI_succ c).symm
    · show K_ins Z c _ _ _ j = Y' j
      unfold K_ins
      rw [upd_n (by omega), insl_out _ _ (by omega)]
      exact hlo2 j hj
    · show K_ins Z c _ _ _ j = Y' j
      unfold K_ins
      rw [upd_n (by omega), insl_out _ _ (by omega), hZ j (by omega), hp j (by omega) (by omega)]
      exact hhi j (by omega) a2
    · show K_ins Z c _ _ _ j = R_in1 c (itN R_in1 c Y') j
      unfold K_ins
      rw [upd_n (by omega)]
      have a2' : j < 42 + 4 * (c + 1) := a2
      refine ins_eq c Z (itN R_in1 c Y') (fun j b1 b2 b3 => ?_) ?_ ?_ ?_ j a1 (by omega) a3
      · rw [hZ j (by omega), hsl j b1 b2 b3]
        exact (SQ_ord hSQ c (Nat.le_refl _) j b1 b2).symm
      · rw [ord_out c (by omega), hZ _ (by omega)]
        exact (hq 0 (by omega) (by omega)).trans (hhi (42 + 4 * k) (by omega) (by omega)).symm
      · rw [ord_out c (by omega)]
        exact hv
      · rw [ord_out c (by omega), hZ _ (by omega)]
        exact (hq 2 (by omega) (by omega)).trans (hhi (42 + 4 * k + 2) (by omega) (by omega)).symm
    · show K_ins Z c _ _ _ (42 + 4 * e + 3) = 0
      unfold K_ins
      rw [upd_n (by omega), insl_out _ _ (by omega), hZ _ (by omega)]
      exact hm e he
    · show Y' (42 + 4 * e + 3) = 0
      by_cases h1 : e = c
      · subst h1
        rw [hq 3 (by omega) (by omega)]
        exact hm2 k hk
      · rw [hp _ (by omega) (by omega)]
        exact hm2 e he
    · show 0 ≤ Y' (42 + 4 * e + 1)
      rw [hp _ (by omega) (by omega)]
      exact hd e (by omega) a2
  · rw [if_neg hl, if_neg hl]
    have hSQ : SQ c (R_d1 Y) Y := fun j a1 a2 => d1_n (by omega)
    refine ⟨by show c ≤ k + 1; omega, (d1_n (by omega)).trans h41, fun j hj => ?_, fun j a1 a2 => ?_, fun j a1 a2 a3 => ?_, fun e he => ?_, fun e he => ?_, fun e a1 a2 => ?_⟩
    · show R_d1 X j = R_d1 Y j
      by_cases h1 : j = 11
      · subst h1; rw [d1_11, d1_11, hlo 11 (by omega)]
      · rw [d1_n h1, d1_n h1]; exact hlo j hj
    · show R_d1 X j = R_d1 Y j
      rw [d1_n (by omega), d1_n (by omega)]
      exact hhi j (by omega) a2
    · show R_d1 X j = itN R_in1 c (R_d1 Y) j
      rw [d1_n (by omega), SQ_ord hSQ c (Nat.le_refl _) j a1 a2]
      exact hsl j a1 a2 a3
    · rw [d1_n (by omega)]; exact hm e he
    · show R_d1 Y _ = 0
      rw [d1_n (by omega)]; exact hm2 e he
    · show 0 ≤ R_d1 Y _
      rw [d1_n (by omega)]; exact hd e (by omega) a2
theorem CHI_n {n : Nat} {X Y : Nat → Int32} (hn : n ≤ 15) (hlo : ∀ j, j ≤ 31 → X j = Y j) (hs : ∀ j, 42 ≤ j → j < 42 + 4 * n → X j = Y j) (hm : MZ n Y) (hd : ∀ e, e < n → 0 ≤ Y (42 + 4 * e + 1)) (k : Nat) : k ≤ n → CHI n k (itN (K_chb (X 12) (X 13)) k (upd X 41 0)) (itN R_chb k (Y, 0)) := by
  induction k with
  | zero =>
    intro _
    refine ⟨Nat.le_refl _, upd_s, fun j hj => ?_, fun j a1 a2 => ?_, fun j a1 a2 => ?_, fun e he => ?_, hm, fun e _ he => hd e he⟩
    · show upd X 41 0 j = Y j
      rw [upd_n (by omega)]; exact hlo j hj
    · show upd X 41 0 j = Y j
      rw [upd_n (by omega)]; exact hs j (by omega) a2
    · have a2' : j < 42 + 4 * 0 := a2
      omega
    · show upd X 41 0 _ = 0
      rw [upd_n (by omega), hs _ (by omega) (by omega)]; exact hm e he
  | succ k ih =>
    intro hk
    have i := ih (by omega)
    have o := (CI_ch (A := Y) k (by omega)).1
    rw [itN_s, itN_s]
    exact CHI_s i (by omega) hn ((o 12 (by omega)).trans (hlo 12 (by omega)).symm) ((o 13 (by omega)).trans (hlo 13 (by omega)).symm)
theorem chance_eq {n : Nat} {X Y : Nat → Int32} (hn : n ≤ 15) (hX : X 41 = nI n) (hY : Y 41 = nI n) (hlo : ∀ j, j ≤ 31 → X j = Y j) (hs : ∀ j, 42 ≤ j → j < 42 + 4 * n → X j = Y j) (hm : MZ n Y) (hd : ∀ e, e < n → 0 ≤ Y (42 + 4 * e + 1)) : ∃ c, c ≤ n ∧ K_chance X (X 12) (X 13) 41 = nI c ∧ R_orders (R_chance Y) 41 = nI c ∧ (∀ j, j ≤ 31 → K_chance X (X 12) (X 13) j = R_orders (R_chance Y) j) ∧ (∀ j, 42 ≤ j → j < 42 + 4 * c → K_chance X (X 12) (X 13) j = R_orders (R_chance Y) j) ∧ MZ c (R_orders (R_chance Y)) := by
  obtain ⟨hc, h41, h1, h2, h3, h4, h5, h6⟩ := CHI_n hn hlo hs hm hd n (Nat.le_refl _)
  unfold K_chance
  rw [cl_nI hX (by omega)]
  unfold R_chance
  rw [cl_nI hY (by omega)]
  generalize itN (K_chb (X 12) (X 13)) n (upd X 41 0) = X' at h41 h1 h2 h3 h4 ⊢
  generalize itN R_chb n (Y, 0) = p at hc h41 h1 h2 h3 h5 h6 ⊢
  have hq : ∀ k, k ≤ max p.2 1 → ∀ j, j < 41 → itN R_in1 k (upd p.1 41 (nI p.2)) j = p.1 j := fun k _ j hj => by rw [ord_out k (by omega), upd_n (by omega)]
  have hSQ : SQ p.2 (upd p.1 41 (nI p.2)) p.1 := fun j a1 _ => upd_n (by omega)
  have hO : R_orders (upd p.1 41 (nI p.2)) = itN R_in1 (max p.2 1) (upd p.1 41 (nI p.2)) := by unfold R_orders; rw [upd_s, cl_nI rfl (by omega)]
  have hSO : SQ p.2 (R_orders (upd p.1 41 (nI p.2))) (itN R_in1 p.2 p.1) := by
    rw [hO]
    intro j a1 a2
    rw [show max p.2 1 = p.2 by omega]
    exact SQ_ord hSQ p.2 (Nat.le_refl _) j a1 a2
  have hMZ : MZ p.2 (R_orders (upd p.1 41 (nI p.2))) := by
    intro e he
    rw [hSO _ (by omega) (by omega)]
    exact MZ_ord (fun e he => h5 e (by omega)) p.2 (Nat.le_refl _) e he
  refine ⟨p.2, hc, h41, ?_, fun j hj => ?_, fun j a1 a2 => ?_, hMZ⟩
  · rw [hO, ord_out _ (by omega), upd_s]
  · rw [h1 j hj, hO, hq _ (Nat.le_refl _) j (by omega)]
  · by_cases h9 : (j - 42) % 4 = 3
    · have e : 42 + 4 * ((j - 42) / 4) + 3 = j := by omega
      have z := h4 ((j - 42) / 4) (by omega)
      have z2 := hMZ ((j - 42) / 4) (by omega)
      rw [e] at z z2
      rw [z, z2]
    · rw [h3 j a1 a2 h9]
      exact (hSO j a1 a2).symm
/-- marks of what is sent -/
def MI0 (X : Nat → Int32) : Prop := MZ (cl (X 41)) X
theorem MI0_mk {e0 : Nat} {A X : Nat → Int32} {kd d s : Int32} (hE : EI e0 A X) (h1 : e0 ≤ 14) (h : MI0 X) : MI0 (R_mk X kd d s) := by
  obtain ⟨e, he, hle, -⟩ := hE
  rw [mk_at he (by omega)]
  unfold MI0 at h ⊢
  rw [cl_nI he (by omega)] at h
  rw [makes_41 he, cl_nI rfl (by omega)]
  intro e' he'
  unfold R_makes
  rw [upd_n (by omega)]
  by_cases h2 : e' = e
  · subst h2
    unfold R_mk4
    rw [upd_s]
  · rw [mk4_out (by omega)]
    exact h e' (by omega)
theorem MI0_e1 {A X : Nat → Int32} {d : Int32} (hE : EI 0 A X) (h : MI0 X) (k : Nat) : k ≤ 6 → MI0 (itN (R_e1b d) k X) := by
  induction k with
  | zero => exact fun _ => h
  | succ k ih =>
    intro hk
    have h1 := EI_e1 (d := d) hE k (by omega)
    rw [itN_s, R_e1b]
    split
    · exact ih (by omega)
    · exact MI0_mk h1 (by omega) (ih (by omega))
theorem MI0_e2 {A X : Nat → Int32} {d hd : Int32} (hE : EI 6 A X) (h : MI0 X) (k : Nat) : k ≤ 6 → MI0 (itN (R_e2b d) k (X, hd)).1 := by
  induction k with
  | zero => exact fun _ => h
  | succ k ih =>
    intro hk
    have h1 := EI_e2 (d := d) (hd := hd) hE k (by omega)
    rw [itN_s, R_e2b]
    split
    · exact ih (by omega)
    · split
      · exact ih (by omega)
      · exact MI0_mk h1 (by omega) (ih (by omega))
theorem MI0_echoes {A : Nat → Int32} (h4 : cl (A 4) ≤ 6) (h5 : cl (A 5) ≤ 6) : MI0 (R_echoes A) := by
  have hE0 : EI 0 A (upd A 41 0) := ⟨0, upd_s, by omega, fun j hj => upd_n (by omega)⟩
  have g0 : MI0 (upd A 41 0) := fun e he => by
    rw [upd_s] at he
    exact absurd he (Nat.not_lt_zero e)
  have g1 := MI0_e1 (d := A 0 - A 1) hE0 g0 _ h4
  have g2 : MI0 (R_e12 A).1 := MI0_e2 (d := A 0 - A 1) (hd := 0) ((EI_e1 (d := A 0 - A 1) hE0 _ h4).weak h4) g1 _ h5
  have hE12 := EI_e12 h4 h5
  have g3 : MI0 (R_e3 (A 0 - A 1) (R_e12 A).1) := by
    unfold R_e3
    split
    · exact g2
    · exact MI0_mk hE12 (by omega) g2
  have hE13 := EI_e3 (d := A 0 - A 1) hE12
  unfold R_echoes R_e4
  split
  · exact MI0_mk (EI_mk _ _ _ hE13 (by omega)) (by omega) (MI0_mk hE13 (by omega) g3)
  · exact g3
/-- what comes back -/
theorem kfires_n {C : Nat → Int32} {j : Nat} (h4 : cl (C 4) ≤ 6) (h5 : cl (C 5) ≤ 6) (hj : j ≠ 1 ∧ j ≠ 8 ∧ j ≠ 11 ∧ (j < 41 ∨ 102 ≤ j)) : K_fires C j = C j := by
  obtain ⟨e, he, hle, hout⟩ := EI_echoes (A := K_move C) (by rw [kmove_n (by decide) (by decide)]; exact h4) (by rw [kmove_n (by decide) (by decide)]; exact h5)
  unfold K_fires K_chance
  rw [cl_nI he (by omega), K_ch_n e hle (by omega), hout j (by omega), kmove_n hj.1 hj.2.1]
theorem fires_ag {C A : Nat → Int32} (hA : Ag C A) (hw : WF A) : ∃ n, n ≤ 15 ∧ K_fires C 41 = nI n ∧ R_fires A 41 = nI n ∧ (∀ j, j ≤ 31 → K_fires C j = R_fires A j) ∧ (∀ j, 42 ≤ j → j < 42 + 4 * n → K_fires C j = R_fires A j) ∧ MZ n (R_fires A) := by
  obtain ⟨D, hD, hD1⟩ := hw.D
  obtain ⟨K4, h4, hK4⟩ := hw.K4
  obtain ⟨K5, h5, hK5⟩ := hw.K5
  have c0 : (0 : Int32) ≤ C 0 := by rw [hA.lo (by omega), hD]; exact nI_pos' (by omega)
  have h4m : R_move A 4 = nI K4 := (move_n (by decide) (by decide)).trans h4
  have h5m : R_move A 5 = nI K5 := (move_n (by decide) (by decide)).trans h5
  have k4 : cl (R_move A 4) = K4 := cl_nI h4m (by omega)
  have c4 : cl (R_move A 4) ≤ 6 := by omega
  have c5 : cl (R_move A 5) ≤ 6 := by rw [cl_nI h5m (by omega)]; exact hK5
  have hE := EQ_echoes (P := fun j => j ≤ 31 ∨ (134 ≤ j ∧ j < 134 + 2 * cl (A 4))) (C := R_move C) (A := R_move A) (fun j hj => by omega) (fun j hj => Or.inl hj) (fun j hj => rmove_cong (fun j hj => hA.lo hj) (hA j (by unfold Lv; omega))) c4 c5 (fun k hk => by
    have e4 : cl (A 4) = K4 := cl_nI h4 (by omega)
    rw [e4, ← k4]
    exact ⟨Or.inr ⟨by omega, by omega⟩, Or.inr ⟨by omega, by omega⟩⟩)
  obtain ⟨e, he, hle, hout⟩ := EI_echoes (A := R_move A) c4 c5
  obtain ⟨g1, g2, g3⟩ := hE
  rw [cl_nI he (by omega)] at g3
  obtain ⟨v, hv, -, w, hw0, hw1⟩ := lev_ok hw
  have m1 : R_move A 1 = R_lev A := by unfold R_move; rw [upd_n (by decide), upd_s]
  have m0 : R_move A 0 = A 0 := move_n (by decide) (by decide)
  have hDI : DI (R_echoes (R_move A)) := by
    refine DI_echoes c4 c5 ?_ ?_ ?_ ?_ ?_
    · rw [move_n (by decide) (by decide)]; exact hw.u6
    · rw [move_n (by decide) (by decide)]; exact hw.u7
    · exact fun k hk => by rw [move_n (by omega) (by omega)]; exact hw.th k hk
    · rw [m0, m1, hw0]; exact nI_pos' (by omega)
    · rw [m0, m1, hw0, show (2 : Int32) * nI w = nI (2 * w) from nmul rfl rfl]; exact nI_pos' (by omega)
  have hMI := MI0_echoes c4 c5
  unfold DI at hDI
  unfold MI0 at hMI
  rw [cl_nI he (by omega)] at hDI hMI
  have r := chance_eq hle (g2.trans he) he (fun j hj => g1 j (Or.inl hj)) g3 hMI hDI
  unfold K_fires R_fires
  rw [kmove_eq c0]
  have x12 : R_echoes (R_move C) 12 = C 12 := by
    rw [g1 12 (Or.inl (by omega)), hout 12 (by omega), move_n (by decide) (by decide)]; exact (hA.lo (by omega)).symm
  have x13 : R_echoes (R_move C) 13 = C 13 := by
    rw [g1 13 (Or.inl (by omega)), hout 13 (by omega), move_n (by decide) (by decide)]; exact (hA.lo (by omega)).symm
  rw [x12, x13] at r
  obtain ⟨n, q1, q2, q3, q4, q5, q6⟩ := r
  exact ⟨n, by omega, q2, q3, q4, q5, q6⟩
