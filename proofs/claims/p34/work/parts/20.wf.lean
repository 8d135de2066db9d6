/-! what stays as it is over a shot, and what the reference's row keeps to -/
theorem greater_nn {x : Int32} : 0 ≤ R_greater 0 x := by
  unfold R_greater
  split
  · assumption
  · exact Int32.le_refl _
/-- distances so far aren't below nought -/
def DN (K : Nat) (X : Nat → Int32) : Prop := ∀ e, e < K → 0 ≤ X (42 + 4 * e + 1)
def DI (X : Nat → Int32) : Prop := DN (cl (X 41)) X
theorem DI_mk {e0 : Nat} {A X : Nat → Int32} {kd d s : Int32} (hE : EI e0 A X) (h1 : e0 ≤ 14) (h : DI X) (hd : 0 ≤ d) : DI (R_mk X kd d s) := by
  obtain ⟨e, he, hle, -⟩ := hE
  rw [mk_at he (by omega)]
  unfold DI at h ⊢
  rw [cl_nI he (by omega)] at h
  rw [cl_nI (mk_41 he) (by omega)]
  intro e' he'
  unfold R_makes
  rw [upd_n (by omega)]
  by_cases h2 : e' = e
  · subst h2
    unfold R_mk4
    rw [upd_n (by omega), upd_n (by omega), upd_s]
    exact hd
  · rw [mk4_out (by omega)]
    exact h e' (by omega)
theorem DI_e1 {A X : Nat → Int32} {d : Int32} (hE : EI 0 A X) (h : DI X) (ht : ∀ k, k < 6 → 0 ≤ A (134 + 2 * k)) (k : Nat) : k ≤ 6 → DI (itN (R_e1b d) k X) := by
  induction k with
  | zero => exact fun _ => h
  | succ k ih =>
    intro hk
    have h1 := EI_e1 (d := d) hE k (by omega)
    rw [itN_s, R_e1b]
    split
    · exact ih (by omega)
    · refine DI_mk h1 (by omega) (ih (by omega)) ?_
      obtain ⟨_, _, _, h4⟩ := h1
      rw [h4 _ (by omega)]
      exact ht k (by omega)
theorem bd_nn {X : Nat → Int32} {k : Nat} (h6 : 0 ≤ X 6) (h7 : 0 ≤ X 7) : 0 ≤ R_bd X k := by
  unfold R_bd
  split
  · exact h6
  · exact h7
theorem DI_e2 {A X : Nat → Int32} {d hd : Int32} (hE : EI 6 A X) (h : DI X) (h6 : 0 ≤ A 6) (h7 : 0 ≤ A 7) (k : Nat) : k ≤ 6 → DI (itN (R_e2b d) k (X, hd)).1 := by
  induction k with
  | zero => exact fun _ => h
  | succ k ih =>
    intro hk
    have h1 := EI_e2 (d := d) (hd := hd) hE k (by omega)
    rw [itN_s, R_e2b]
    split
    · exact ih (by omega)
    · split
      · exact ih (by omega)
      · refine DI_mk h1 (by omega) (ih (by omega)) (bd_nn ?_ ?_)
        · obtain ⟨_, _, _, h4⟩ := h1
          rw [h4 _ (by omega)]
          exact h6
        · obtain ⟨_, _, _, h4⟩ := h1
          rw [h4 _ (by omega)]
          exact h7
theorem DI_e3 {A X : Nat → Int32} {d : Int32} (hE : EI 12 A X) (h : DI X) : DI (R_e3 d X) := by
  unfold R_e3
  split
  · exact h
  · exact DI_mk hE (by omega) h greater_nn
theorem DI_e4 {A X : Nat → Int32} {d hd : Int32} (hE : EI 13 A X) (h : DI X) (h1 : 0 ≤ d) (h2 : 0 ≤ 2 * d) : DI (R_e4 d hd X) := by
  unfold R_e4
  split
  · exact DI_mk (EI_mk _ _ _ hE (by omega)) (by omega) (DI_mk hE (by omega) h h1) h2
  · exact h
theorem DI_echoes {A : Nat → Int32} (h4 : cl (A 4) ≤ 6) (h5 : cl (A 5) ≤ 6) (h6 : 0 ≤ A 6) (h7 : 0 ≤ A 7) (ht : ∀ k, k < 6 → 0 ≤ A (134 + 2 * k)) (hd : 0 ≤ A 0 - A 1) (hd2 : 0 ≤ 2 * (A 0 - A 1)) : DI (R_echoes A) := by
  have h0 : EI 0 A (upd A 41 0) := ⟨0, upd_s, by omega, fun j hj => upd_n (by omega)⟩
  have g0 : DI (upd A 41 0) := fun e he => by
    rw [upd_s] at he
    exact absurd he (Nat.not_lt_zero e)
  have h1 := EI_e1 (d := A 0 - A 1) h0 _ h4
  have g1 := DI_e1 (d := A 0 - A 1) h0 g0 ht _ h4
  have g2 : DI (R_e12 A).1 := DI_e2 (d := A 0 - A 1) (hd := 0) (h1.weak h4) g1 h6 h7 _ h5
  exact DI_e4 (EI_e3 (EI_e12 h4 h5)) (DI_e3 (EI_e12 h4 h5) g2) hd hd2
/-- chance -/
theorem chm_nn {X : Nat → Int32} {mv : Int32} (h : 0 ≤ mv) : 0 ≤ (R_chm X mv).2 := by
  unfold R_chm
  split
  · exact h
  · exact greater_nn
theorem d1_n {X : Nat → Int32} {j : Nat} (h : j ≠ 11) : R_d1 X j = X j := upd_n h
def CD (K k : Nat) (p : (Nat → Int32) × Nat) : Prop := p.2 ≤ k ∧ (∀ e, e < p.2 → 0 ≤ p.1 (42 + 4 * e + 1)) ∧ ∀ e, k ≤ e → e < K → 0 ≤ p.1 (42 + 4 * e + 1)
theorem CD_b {K k : Nat} {p : (Nat → Int32) × Nat} (h : CD K k p) (hk : k < K) : CD K (k + 1) (R_chb k p) := by
  obtain ⟨h1, h2, h3⟩ := h
  unfold R_chb
  split
  · refine ⟨by show p.2 + 1 ≤ k + 1; omega, fun e he => ?_, fun e he he2 => ?_⟩
    · have he' : e < p.2 + 1 := he
      show 0 ≤ upd (cpR _ _ _ _) (42 + 4 * p.2 + 1) _ (42 + 4 * e + 1)
      by_cases h4 : e = p.2
      · subst h4
        rw [upd_s]
        unfold R_chm1
        refine chm_nn ?_
        rw [d1_n (by omega)]
        exact h3 k (by omega) hk
      · rw [upd_n (by omega)]
        unfold cpR R_chm1
        rw [if_neg (by omega), chm_out (by omega), d1_n (by omega)]
        exact h2 e (by omega)
    · show 0 ≤ upd (cpR _ _ _ _) (42 + 4 * p.2 + 1) _ (42 + 4 * e + 1)
      rw [upd_n (by omega)]
      unfold cpR R_chm1
      rw [if_neg (by omega), chm_out (by omega), d1_n (by omega)]
      exact h3 e (by omega) he2
  · refine ⟨by show p.2 ≤ k + 1; omega, fun e he => ?_, fun e he he2 => ?_⟩
    · show 0 ≤ R_d1 p.1 _
      rw [d1_n (by omega)]
      exact h2 e he
    · show 0 ≤ R_d1 p.1 _
      rw [d1_n (by omega)]
      exact h3 e (by omega) he2
theorem CD_ch {A : Nat → Int32} {K : Nat} (h : DN K A) (k : Nat) : k ≤ K → CD K k (itN R_chb k (A, 0)) := by
  induction k with
  | zero => exact fun _ => ⟨Nat.le_refl _, fun e he => absurd he (Nat.not_lt_zero e), fun e _ he => h e he⟩
  | succ k ih =>
    intro hk
    rw [itN_s]
    exact CD_b (ih (by omega)) (by omega)
theorem DI_chance {A : Nat → Int32} (h : DI A) (hK : cl (A 41) ≤ 15) : DI (R_chance A) := by
  have h1 := (CI_ch (A := A) (cl (A 41)) hK).2
  have h2 := CD_ch (K := cl (A 41)) h (cl (A 41)) (Nat.le_refl _)
  unfold R_chance DI
  rw [upd_s, cl_nI rfl (by omega)]
  intro e he
  rw [upd_n (by omega)]
  exact h2.2.1 e he
/-- orders -/
theorem DN_sw {X : Nat → Int32} {K i : Nat} (h : DN K X) (hi : i + 1 < K) : DN K (R_sw X (42 + 4 * (i + 1)) 4) := by
  intro e he
  unfold R_sw
  by_cases h1 : e = i + 1
  · subst h1
    rw [if_pos (by omega), show 42 + 4 * (i + 1) + 1 - 4 = 42 + 4 * i + 1 by omega]
    exact h i (by omega)
  · rw [if_neg (by omega)]
    by_cases h2 : e = i
    · subst h2
      rw [if_pos (by omega), show 42 + 4 * e + 1 + 4 = 42 + 4 * (e + 1) + 1 by omega]
      exact h (e + 1) hi
    · rw [if_neg (by omega)]
      exact h e he
theorem DN_in1 {K : Nat} : ∀ (i : Nat) (X : Nat → Int32), DN K X → i < K → DN K (R_in1 i X) := by
  intro i
  induction i with
  | zero => exact fun X h _ => h
  | succ i ih =>
    intro X h hi
    rw [R_in1]
    split
    · exact h
    · exact ih _ (DN_sw h hi) (by omega)
theorem DN_ord {A : Nat → Int32} {K : Nat} (h : DN K A) (k : Nat) : k ≤ K → DN K (itN R_in1 k A) := by
  induction k with
  | zero => exact fun _ => h
  | succ k ih =>
    intro hk
    rw [itN_s]
    exact DN_in1 k _ (ih (by omega)) (by omega)
theorem ord_41 {A : Nat → Int32} : R_orders A 41 = A 41 := ord_out _ (by omega)
theorem DI_orders {A : Nat → Int32} (h : DI A) : DI (R_orders A) := by
  unfold DI at h ⊢
  rw [ord_41]
  unfold R_orders
  by_cases h0 : cl (A 41) = 0
  · rw [h0]
    exact fun e he => absurd he (Nat.not_lt_zero e)
  · rw [show max (cl (A 41)) 1 = cl (A 41) by omega]
    exact DN_ord h _ (Nat.le_refl _)
/-- the row as it must be -/
def WF (A : Nat → Int32) : Prop := (∃ D, A 0 = nI D ∧ D ≤ 10000) ∧ (0 ≤ A 1) ∧ (∃ k, A 4 = nI k ∧ k ≤ 6) ∧ (∃ k, A 5 = nI k ∧ k ≤ 6) ∧ (0 ≤ A 6) ∧ (0 ≤ A 7) ∧ (∃ k, A 18 = nI k ∧ k ≤ 9) ∧ (¬ A 19 = 0) ∧ (∃ k, A 31 = nI k ∧ k ≤ 9) ∧ (∃ k, A 41 = nI k ∧ k ≤ 15) ∧ (∃ k, A 102 = nI k ∧ k ≤ 15) ∧ (∃ k, A 118 = nI k ∧ k ≤ 15) ∧ (∀ k, k < 6 → 0 ≤ A (134 + 2 * k))
theorem WF.D {A : Nat → Int32} (h : WF A) : ∃ D, A 0 = nI D ∧ D ≤ 10000 := h.1
theorem WF.l1 {A : Nat → Int32} (h : WF A) : 0 ≤ A 1 := h.2.1
theorem WF.K4 {A : Nat → Int32} (h : WF A) : ∃ k, A 4 = nI k ∧ k ≤ 6 := h.2.2.1
theorem WF.K5 {A : Nat → Int32} (h : WF A) : ∃ k, A 5 = nI k ∧ k ≤ 6 := h.2.2.2.1
theorem WF.u6 {A : Nat → Int32} (h : WF A) : 0 ≤ A 6 := h.2.2.2.2.1
theorem WF.u7 {A : Nat → Int32} (h : WF A) : 0 ≤ A 7 := h.2.2.2.2.2.1
theorem WF.L18 {A : Nat → Int32} (h : WF A) : ∃ k, A 18 = nI k ∧ k ≤ 9 := h.2.2.2.2.2.2.1
theorem WF.s19 {A : Nat → Int32} (h : WF A) : ¬ A 19 = 0 := h.2.2.2.2.2.2.2.1
theorem WF.K31 {A : Nat → Int32} (h : WF A) : ∃ k, A 31 = nI k ∧ k ≤ 9 := h.2.2.2.2.2.2.2.2.1
theorem WF.K41 {A : Nat → Int32} (h : WF A) : ∃ k, A 41 = nI k ∧ k ≤ 15 := h.2.2.2.2.2.2.2.2.2.1
theorem WF.Ka {A : Nat → Int32} (h : WF A) : ∃ k, A 102 = nI k ∧ k ≤ 15 := h.2.2.2.2.2.2.2.2.2.2.1
theorem WF.Kb {A : Nat → Int32} (h : WF A) : ∃ k, A 118 = nI k ∧ k ≤ 15 := h.2.2.2.2.2.2.2.2.2.2.2.1
theorem WF.th {A : Nat → Int32} (h : WF A) : ∀ k, k < 6 → 0 ≤ A (134 + 2 * k) := h.2.2.2.2.2.2.2.2.2.2.2.2
theorem WF.mk {A : Nat → Int32} (D : ∃ D, A 0 = nI D ∧ D ≤ 10000) (l1 : 0 ≤ A 1) (K4 : ∃ k, A 4 = nI k ∧ k ≤ 6) (K5 : ∃ k, A 5 = nI k ∧ k ≤ 6) (u6 : 0 ≤ A 6) (u7 : 0 ≤ A 7) (L18 : ∃ k, A 18 = nI k ∧ k ≤ 9) (s19 : ¬ A 19 = 0) (K31 : ∃ k, A 31 = nI k ∧ k ≤ 9) (K41 : ∃ k, A 41 = nI k ∧ k ≤ 15) (Ka : ∃ k, A 102 = nI k ∧ k ≤ 15) (Kb : ∃ k, A 118 = nI k ∧ k ≤ 15) (th : ∀ k, k < 6 → 0 ≤ A (134 + 2 * k)) : WF A := ⟨D, l1, K4, K5, u6, u7, L18, s19, K31, K41, Ka, Kb, th⟩
theorem lev_ok {A : Nat → Int32} (h : WF A) : ∃ v, R_lev A = nI v ∧ A 0 = nI v + (A 0 - nI v) ∧ ∃ w, A 0 - R_lev A = nI w ∧ w ≤ 10000 := by
  obtain ⟨D, hD, hD1⟩ := h.D
  have h1 : ∃ v, R_lev A = nI v ∧ v ≤ D := by
    unfold R_lev
    split
    · rename_i h0
      split
      · rename_i h2
        obtain ⟨k, hk, e⟩ := nn_ex h0
        refine ⟨k, e, ?_⟩
        rw [e, hD] at h2
        exact (nI_leI hk (by omega)).mp h2
      · exact ⟨D, hD, Nat.le_refl _⟩
    · exact ⟨0, rfl, Nat.zero_le _⟩
  obtain ⟨v, hv, hvD⟩ := h1
  refine ⟨v, hv, ?_, D - v, ?_, by omega⟩
  · rw [hD, pk_sub hvD, nI_add, Nat.add_sub_cancel' hvD]
  · rw [hv, hD, pk_sub hvD]
theorem move_n {A : Nat → Int32} {j : Nat} (h1 : j ≠ 1) (h8 : j ≠ 8) : R_move A j = A j := by unfold R_move; rw [upd_n h8, upd_n h1]
/-- what fires leaves alone -/
theorem fires_st {A : Nat → Int32} (h : WF A) {j : Nat} (hj : j ≠ 1 ∧ j ≠ 8 ∧ j ≠ 11 ∧ (j < 41 ∨ 102 ≤ j)) : R_fires A j = A j := by
  obtain ⟨K4, h4, hK4⟩ := h.K4
  obtain ⟨K5, h5, hK5⟩ := h.K5
  have h4m : R_move A 4 = nI K4 := (move_n (by decide) (by decide)).trans h4
  have h5m : R_move A 5 = nI K5 := (move_n (by decide) (by decide)).trans h5
  obtain ⟨e, he, hle, hout⟩ := EI_echoes (A := R_move A) (by rw [cl_nI h4m (by omega)]; exact hK4) (by rw [cl_nI h5m (by omega)]; exact hK5)
  have hK : cl (R_echoes (R_move A) 41) ≤ 15 := by rw [cl_nI he (by omega)]; exact hle
  obtain ⟨hC, hC2⟩ := CI_ch (A := R_echoes (R_move A)) _ hK
  have h41 : cl (R_chance (R_echoes (R_move A)) 41) ≤ 15 := by
    unfold R_chance
    rw [upd_s, cl_nI rfl (by omega)]
    omega
  unfold R_fires
  rw [show R_orders (R_chance (R_echoes (R_move A))) j = R_chance (R_echoes (R_move A)) j from ord_out _ (by omega)]
  unfold R_chance
  rw [upd_n (by omega), hC j (by omega), hout j (by omega), move_n hj.1 hj.2.1]
theorem fires_41 {A : Nat → Int32} (h : WF A) : ∃ k, R_fires A 41 = nI k ∧ k ≤ 15 := by
  obtain ⟨K4, h4, hK4⟩ := h.K4
  obtain ⟨K5, h5, hK5⟩ := h.K5
  have h4m : R_move A 4 = nI K4 := (move_n (by decide) (by decide)).trans h4
  have h5m : R_move A 5 = nI K5 := (move_n (by decide) (by decide)).trans h5
  obtain ⟨e, he, hle, hout⟩ := EI_echoes (A := R_move A) (by rw [cl_nI h4m (by omega)]; exact hK4) (by rw [cl_nI h5m (by omega)]; exact hK5)
  have hK : cl (R_echoes (R_move A) 41) ≤ 15 := by rw [cl_nI he (by omega)]; exact hle
  obtain ⟨hC, hC2⟩ := CI_ch (A := R_echoes (R_move A)) _ hK
  refine ⟨_, (show R_fires A 41 = R_chance (R_echoes (R_move A)) 41 from ord_41).trans upd_s, by omega⟩
theorem fires_DI {A : Nat → Int32} (h : WF A) : DI (R_fires A) := by
  obtain ⟨K4, h4, hK4⟩ := h.K4
  obtain ⟨K5, h5, hK5⟩ := h.K5
  have h4m : R_move A 4 = nI K4 := (move_n (by decide) (by decide)).trans h4
  have h5m : R_move A 5 = nI K5 := (move_n (by decide) (by decide)).trans h5
  have c4 : cl (R_move A 4) ≤ 6 := by rw [cl_nI h4m (by omega)]; exact hK4
  have c5 : cl (R_move A 5) ≤ 6 := by rw [cl_nI h5m (by omega)]; exact hK5
  obtain ⟨e, he, hle, hout⟩ := EI_echoes (A := R_move A) c4 c5
  obtain ⟨v, hv, -, w, hw, hw1⟩ := lev_ok h
  have h1 : R_move A 1 = R_lev A := by unfold R_move; rw [upd_n (by decide), upd_s]
  have h0 : R_move A 0 = A 0 := move_n (by decide) (by decide)
  refine DI_orders (DI_chance (DI_echoes c4 c5 ?_ ?_ ?_ ?_ ?_) (by rw [cl_nI he (by omega)]; exact hle))
  · rw [move_n (by decide) (by decide)]; exact h.u6
  · rw [move_n (by decide) (by decide)]; exact h.u7
  · exact fun k hk => by rw [move_n (by omega) (by omega)]; exact h.th k hk
  · rw [h0, h1, hw]; exact nI_pos' (by omega)
  · rw [h0, h1, hw, show (2 : Int32) * nI w = nI (2 * w) from nmul rfl rfl]; exact nI_pos' (by omega)
