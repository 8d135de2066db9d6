/-! what the row keeps besides: counts, what isn't below nought, echoes in order, at most one picked -/
def U5 (n : Nat) (A : Nat → Int32) : Prop := ∀ e e', e < n → e' < n → A (42 + 4 * e + 3) = 5 → A (42 + 4 * e' + 3) = 5 → e = e'
def XN (A : Nat → Int32) : Prop := 0 ≤ A 3 ∧ 0 ≤ A 11 ∧ 0 ≤ A 12 ∧ 0 ≤ A 16 ∧ 0 ≤ A 17 ∧ 0 ≤ A 20
def XA (m : Nat) (A : Nat → Int32) : Prop := (∃ a b : Nat, A 24 = nI a ∧ A 25 = nI b ∧ b ≤ a ∧ a ≤ m) ∧ XN A ∧ SOp (cl (A 41)) A ∧ U5 (cl (A 41)) A
theorem XA.weak {m m' : Nat} {A : Nat → Int32} (h : XA m A) (hm : m ≤ m') : XA m' A := by
  obtain ⟨⟨a, b, h1, h2, h3, h4⟩, h5⟩ := h
  exact ⟨⟨a, b, h1, h2, h3, by omega⟩, h5⟩
theorem XA_same {m : Nat} {A A' : Nat → Int32} (h : XA m A) (hs : ∀ j, (j = 24 ∨ j = 25 ∨ (41 ≤ j ∧ j < 102)) → A' j = A j) (hn : XN A') (h41 : cl (A 41) ≤ 15) : XA m A' := by
  obtain ⟨⟨a, b, h1, h2, h3, h4⟩, h5, h6, h7⟩ := h
  refine ⟨⟨a, b, by rw [hs 24 (by omega)]; exact h1, by rw [hs 25 (by omega)]; exact h2, h3, h4⟩, hn, ?_, ?_⟩
  · rw [hs 41 (by omega)]
    exact SOp_eq h6 (fun e he => hs _ (by omega)) (fun e he => hs _ (by omega))
  · rw [hs 41 (by omega)]
    intro e e' he he' g g'
    rw [hs _ (by omega)] at g g'
    exact h7 e e' he he' g g'
theorem nn_upd {A : Nat → Int32} {k j : Nat} {x : Int32} (h : 0 ≤ A j) (hx : k = j → 0 ≤ x) : 0 ≤ upd A k x j := by
  by_cases e : j = k
  · subst e; rw [upd_s]; exact hx rfl
  · rw [upd_n e]; exact h
theorem XN_put {A : Nat → Int32} {k : Nat} {x : Int32} (h : XN A) (hx : (k = 3 ∨ k = 11 ∨ k = 12 ∨ k = 16 ∨ k = 17 ∨ k = 20) → 0 ≤ x) : XN (upd A k x) := by
  obtain ⟨h1, h2, h3, h4, h5, h6⟩ := h
  exact ⟨nn_upd h1 fun e => hx (by omega), nn_upd h2 fun e => hx (by omega), nn_upd h3 fun e => hx (by omega), nn_upd h4 fun e => hx (by omega), nn_upd h5 fun e => hx (by omega), nn_upd h6 fun e => hx (by omega)⟩
theorem XN_same {A A' : Nat → Int32} (h : XN A) (hs : ∀ j, (j = 3 ∨ j = 11 ∨ j = 12 ∨ j = 16 ∨ j = 17 ∨ j = 20) → A' j = A j) : XN A' := by
  obtain ⟨h1, h2, h3, h4, h5, h6⟩ := h
  unfold XN
  rw [hs 3 (by omega), hs 11 (by omega), hs 12 (by omega), hs 16 (by omega), hs 17 (by omega), hs 20 (by omega)]
  exact ⟨h1, h2, h3, h4, h5, h6⟩
theorem XA_put {m : Nat} {A : Nat → Int32} {k : Nat} {x : Int32} (h : XA m A) (h41 : cl (A 41) ≤ 15) (hk : k < 24 ∨ (25 < k ∧ k < 41) ∨ 102 ≤ k) (hx : (k = 3 ∨ k = 11 ∨ k = 12 ∨ k = 16 ∨ k = 17 ∨ k = 20) → 0 ≤ x) : XA m (upd A k x) :=
  XA_same h (fun j hj => upd_n (by omega)) (XN_put h.2.1 hx) h41
theorem XA_sets {m : Nat} {A : Nat → Int32} {k : Nat} {x : Int32} (h : XA m A) (h41 : cl (A 41) ≤ 15) (hk : k ≤ 11) (hx : 0 ≤ x) : XA m (R_sets A k x) := by
  unfold R_sets
  exact XA_put (XA_put h h41 (by omega) (fun _ => hx)) (by rw [upd_n (by omega)]; exact h41) (by omega) (fun z => absurd z (by omega))
theorem XA_stirs {m : Nat} {A : Nat → Int32} {p u w sp be : Int32} (h : XA m A) (h41 : cl (A 41) ≤ 15) : XA m (R_stirs A p u w sp be) :=
  XA_same h (fun j hj => stirs_n (by omega)) (XN_same h.2.1 fun j hj => stirs_n (by omega)) h41
theorem XA_adds {m : Nat} {A : Nat → Int32} {k : Nat} {d s : Int32} (h : XA m A) (h41 : cl (A 41) ≤ 15) (hk : k < 6) : XA m (R_adds A k d s) :=
  XA_same h (fun j hj => adds_n (by omega)) (XN_same h.2.1 fun j hj => adds_n (by omega)) h41
theorem XA_rm {m : Nat} {A : Nat → Int32} {k k0 : Nat} (h : XA m A) (h41 : cl (A 41) ≤ 15) : XA m (R_rm A (k0 + 1) k) := by
  have rn : ∀ j, j ≠ 4 → j < 134 → R_rm A (k0 + 1) k j = A j := fun j h1 h2 => by rw [rm_v, if_neg (by omega), upd_n h1]
  exact XA_same h (fun j hj => rn j (by omega) (by omega)) (XN_same h.2.1 fun j hj => rn j (by omega) (by omega)) h41
theorem XA_unm {m : Nat} {A : Nat → Int32} (h : XA m A) (h41 : cl (A 41) ≤ 15) : XA m (R_unm A 501) :=
  XA_same h (fun j hj => unm_n (by omega)) (XN_same h.2.1 fun j hj => unm_n (by omega)) h41
theorem begins_11 {A : Nat → Int32} {d : Int32} : R_begins A d 11 = A 11 := rfl
theorem begins_20 {A : Nat → Int32} {d : Int32} : R_begins A d 20 = 10 := rfl
theorem XA_begins {m : Nat} {A : Nat → Int32} {d : Int32} (h : 0 ≤ A 11) : XA m (R_begins A d) := by
  refine ⟨⟨0, 0, begins_lo (by omega), begins_lo (by omega), Nat.le_refl _, Nat.zero_le _⟩, ⟨?_, ?_, ?_, ?_, ?_, ?_⟩, ?_, ?_⟩
  · rw [begins_lo (by omega)]; exact Int32.le_refl _
  · rw [begins_11]; exact h
  · rw [begins_lo (by omega)]; exact Int32.le_refl _
  · rw [begins_lo (by omega)]; exact Int32.le_refl _
  · rw [begins_lo (by omega)]; exact Int32.le_refl _
  · rw [begins_20]; decide
  · rw [begins_lo (j := 41) (by omega)]
    exact fun a b _ hb => absurd hb (Nat.not_lt_zero b)
  · rw [begins_lo (j := 41) (by omega)]
    exact fun a b ha _ => absurd ha (Nat.not_lt_zero a)
theorem five_0 : ¬ (0 : Int32) = 5 := by decide
theorem XN_fires {A : Nat → Int32} (hw : WF A) (h : XN A) : XN (R_fires A) := by
  obtain ⟨h1, h2, h3, h4, h5, h6⟩ := h
  refine ⟨?_, fires_11 hw h2, ?_, ?_, ?_, ?_⟩
  · rw [fires_st hw (by omega)]; exact h1
  · rw [fires_st hw (by omega)]; exact h3
  · rw [fires_st hw (by omega)]; exact h4
  · rw [fires_st hw (by omega)]; exact h5
  · rw [fires_st hw (by omega)]; exact h6
theorem XA_fires {m : Nat} {C A : Nat → Int32} {W : Nat → Int64} (g : AG C W A) (hw : WF A) (h : XA m A) : XA m (R_fires A) := by
  obtain ⟨n, hn, -, h41, -, -, hz⟩ := fires_ag g.1 hw
  obtain ⟨⟨a, b, h1, h2, h3, h4⟩, h5, -, -⟩ := h
  refine ⟨⟨a, b, by rw [fires_st hw (by omega)]; exact h1, by rw [fires_st hw (by omega)]; exact h2, h3, h4⟩, XN_fires hw h5, SOp_fires, ?_⟩
  rw [cl_nI h41 (by omega)]
  intro e e' he _ z _
  rw [hz e he] at z
  exact absurd z five_0
theorem XA_lr {m : Nat} {C A : Nat → Int32} {W : Nat → Int64} (g : AG C W A) (hw : WF A) (h : XA m A) : XA m (R_lr A) :=
  XA_same (XA_fires g hw h) (fun j hj => lr_st (by omega)) (XN_same (XN_fires hw h.2.1) fun j hj => lr_st (by omega)) (cls_le (WF_fires hw)).2.2.2.1
theorem XA_learns {m : Nat} {C A : Nat → Int32} {W : Nat → Int64} (g : AG C W A) (o : OKA A) (h : XA m A) (k : Nat) : XA m (R_learns A k) := by
  induction k with
  | zero => exact h
  | succ k ih =>
    rw [learns_s]
    exact XA_lr (OKA_learns g o k).1 (WF_learns o.1 k) ih
