/-! echoes lie in their order: the row's insertion sort; s stays at least nought -/
theorem lcg_nn {s : Int32} (h : 0 ≤ s) : 0 ≤ R_lcg s := by
  obtain ⟨k, hk, rfl⟩ := nn_ex h
  unfold R_lcg
  rw [nI_l hk, show (1103515245 : Int64) = lN 1103515245 from rfl, show (12345 : Int64) = lN 12345 from rfl, show (2147483648 : Int64) = lN 2147483648 from rfl, lN_mul, lN_add, pk_lRem (by omega) (by omega) (by omega), lN_i]
  exact nI_pos' (by omega)
def DE (X : Nat → Int32) (e : Nat) : Int := (X (42 + 4 * e + 1)).toInt
def SE (X : Nat → Int32) (e : Nat) : Int := (X (42 + 4 * e + 2)).toInt
def OE (X : Nat → Int32) (a b : Nat) : Prop := DE X a < DE X b ∨ (DE X a = DE X b ∧ SE X b ≤ SE X a)
theorem OE.tr {X : Nat → Int32} {a b c : Nat} (h : OE X a b) (g : OE X b c) : OE X a c := by
  unfold OE at *
  omega
theorem ah_a {i : Nat} : 42 + 4 * (i + 1) - 3 = 42 + 4 * i + 1 := by omega
theorem ah_b {i : Nat} : 42 + 4 * (i + 1) - 2 = 42 + 4 * i + 2 := by omega
theorem ah_0 {X : Nat → Int32} {i : Nat} (h : R_ahead X (42 + 4 * (i + 1)) = 0) : OE X i (i + 1) := by
  unfold R_ahead at h
  rw [ah_a, ah_b] at h
  unfold OE DE SE
  by_cases h1 : X (42 + 4 * (i + 1) + 1) = X (42 + 4 * i + 1)
  · rw [if_pos h1] at h
    by_cases h2 : X (42 + 4 * (i + 1) + 2) = X (42 + 4 * i + 2)
    · exact Or.inr ⟨by rw [h1], by rw [h2]; exact Int.le_refl _⟩
    · rw [if_neg h2] at h
      by_cases h3 : X (42 + 4 * (i + 1) + 2) ≤ X (42 + 4 * i + 2)
      · exact Or.inr ⟨by rw [h1], Int32.le_iff_toInt_le.mp h3⟩
      · rw [if_neg h3] at h; exact absurd h (by decide)
  · rw [if_neg h1] at h
    by_cases h3 : X (42 + 4 * i + 1) ≤ X (42 + 4 * (i + 1) + 1)
    · have a := Int32.le_iff_toInt_le.mp h3
      have b : (X (42 + 4 * i + 1)).toInt ≠ (X (42 + 4 * (i + 1) + 1)).toInt := fun z => h1 (Int32.toInt_inj.mp z).symm
      exact Or.inl (Int.lt_iff_le_and_ne.mpr ⟨a, b⟩)
    · rw [if_neg h3] at h; exact absurd h (by decide)
theorem ah_1 {X : Nat → Int32} {i : Nat} (h : ¬ R_ahead X (42 + 4 * (i + 1)) = 0) : OE X (i + 1) i := by
  unfold R_ahead at h
  rw [ah_a, ah_b] at h
  unfold OE DE SE
  by_cases h1 : X (42 + 4 * (i + 1) + 1) = X (42 + 4 * i + 1)
  · rw [if_pos h1] at h
    by_cases h2 : X (42 + 4 * (i + 1) + 2) = X (42 + 4 * i + 2)
    · exact Or.inr ⟨by rw [h1], by rw [h2]; exact Int.le_refl _⟩
    · rw [if_neg h2] at h
      by_cases h3 : X (42 + 4 * (i + 1) + 2) ≤ X (42 + 4 * i + 2)
      · rw [if_pos h3] at h; exact absurd rfl h
      · exact Or.inr ⟨by rw [h1], Int32.le_iff_toInt_le.mp (Int32.le_of_lt (Int32.not_le.mp h3))⟩
  · rw [if_neg h1] at h
    by_cases h3 : X (42 + 4 * i + 1) ≤ X (42 + 4 * (i + 1) + 1)
    · rw [if_pos h3] at h; exact absurd rfl h
    · exact Or.inl (Int32.lt_iff_toInt_lt.mp (Int32.not_le.mp h3))
def sg (i e : Nat) : Nat := if e = i then i + 1 else if e = i + 1 then i else e
theorem sg_i {i : Nat} : sg i i = i + 1 := if_pos rfl
theorem sg_s {i : Nat} : sg i (i + 1) = i := by unfold sg; rw [if_neg (by omega), if_pos rfl]
theorem sg_n {i e : Nat} (h1 : e ≠ i) (h2 : e ≠ i + 1) : sg i e = e := by unfold sg; rw [if_neg h1, if_neg h2]
theorem sw_at {X : Nat → Int32} {i e : Nat} (r : Nat) (hr : r < 4) : R_sw X (42 + 4 * (i + 1)) 4 (42 + 4 * e + r) = X (42 + 4 * sg i e + r) := by
  unfold R_sw
  by_cases h1 : e = i + 1
  · subst h1
    rw [if_pos (by omega), sg_s]
    exact congrArg X (by omega)
  · rw [if_neg (by omega)]
    by_cases h2 : e = i
    · subst h2
      rw [if_pos (by omega), sg_i]
      exact congrArg X (by omega)
    · rw [if_neg (by omega), sg_n h2 h1]
theorem OE_sw {X : Nat → Int32} {i a b : Nat} : OE (R_sw X (42 + 4 * (i + 1)) 4) a b ↔ OE X (sg i a) (sg i b) := by
  unfold OE DE SE
  rw [sw_at 1 (by omega), sw_at 1 (by omega), sw_at 2 (by omega), sw_at 2 (by omega)]
/-- all pairs of the first m lie in order; all but the one at i, which goes ahead of those behind it -/
def SOp (m : Nat) (X : Nat → Int32) : Prop := ∀ a b, a < b → b < m → OE X a b
def SX (i m : Nat) (X : Nat → Int32) : Prop := (∀ a b, a < b → b < m → a ≠ i → b ≠ i → OE X a b) ∧ ∀ b, i < b → b < m → OE X i b
theorem in1_so {m : Nat} : ∀ (i : Nat) (X : Nat → Int32), i < m → SX i m X → SOp m (R_in1 i X) := by
  intro i
  induction i with
  | zero =>
    intro X _ h a b hab hb
    show OE X a b
    by_cases ha : a = 0
    · subst ha; exact h.2 b hab hb
    · exact h.1 a b hab hb ha (by omega)
  | succ i ih =>
    intro X hi h
    obtain ⟨h1, h2⟩ := h
    rw [R_in1]
    by_cases hA : R_ahead X (42 + 4 * (i + 1)) = 0
    · rw [if_pos hA]
      have o := ah_0 hA
      intro a b hab hb
      by_cases ha : a = i + 1
      · subst ha; exact h2 b hab hb
      · by_cases hb' : b = i + 1
        · subst hb'
          by_cases hai : a = i
          · subst hai; exact o
          · exact (h1 a i (by omega) (by omega) ha (by omega)).tr o
        · exact h1 a b hab hb ha hb'
    · rw [if_neg hA]
      have o := ah_1 hA
      refine ih _ (by omega) ⟨fun a b hab hb ha hb' => ?_, fun b hib hb => ?_⟩
      · rw [OE_sw]
        by_cases h3 : a = i + 1
        · subst h3
          rw [sg_s, sg_n (by omega) (by omega)]
          exact h1 i b (by omega) hb (by omega) (by omega)
        · by_cases h4 : b = i + 1
          · subst h4
            rw [sg_s, sg_n (by omega) (by omega)]
            exact h1 a i (by omega) (by omega) (by omega) (by omega)
          · rw [sg_n (by omega) (by omega), sg_n (by omega) (by omega)]
            exact h1 a b hab hb h3 h4
      · rw [OE_sw, sg_i]
        by_cases h4 : b = i + 1
        · subst h4
          rw [sg_s]
          exact o
        · rw [sg_n (by omega) (by omega)]
          exact h2 b (by omega) hb
theorem ord_so {A : Nat → Int32} (k : Nat) : SOp k (itN R_in1 k A) := by
  induction k with
  | zero => exact fun a b _ hb => absurd hb (Nat.not_lt_zero b)
  | succ k ih =>
    rw [itN_s]
    exact in1_so k _ (by omega) ⟨fun a b hab hb _ hb' => ih a b hab (by omega), fun b h1 h2 => absurd h1 (by omega)⟩
theorem SOp_fires {A : Nat → Int32} : SOp (cl (R_fires A 41)) (R_fires A) := by
  have e : R_fires A 41 = R_chance (R_echoes (R_move A)) 41 := ord_41
  rw [e]
  unfold R_fires R_orders
  generalize R_chance (R_echoes (R_move A)) = Z
  exact fun a b hab hb => ord_so (max (cl (Z 41)) 1) a b hab (by omega)
theorem SOp_eq {X Y : Nat → Int32} {n : Nat} (h : SOp n Y) (h1 : ∀ e, e < n → X (42 + 4 * e + 1) = Y (42 + 4 * e + 1)) (h2 : ∀ e, e < n → X (42 + 4 * e + 2) = Y (42 + 4 * e + 2)) : SOp n X := by
  intro a b hab hb
  have g := h a b hab hb
  unfold OE DE SE at g ⊢
  rw [h1 a (by omega), h1 b hb, h2 a (by omega), h2 b hb]
  exact g
/-- s over chance -/
theorem d1_nn {X : Nat → Int32} (h : 0 ≤ X 11) : 0 ≤ R_d1 X 11 := by rw [d1_11]; exact lcg_nn h
theorem chm_11 {X : Nat → Int32} {mv : Int32} (h : 0 ≤ X 11) : 0 ≤ (R_chm X mv).1 11 := by
  unfold R_chm
  split
  · exact h
  · exact d1_nn h
theorem fst_11 {X : Nat → Int32} {n : Nat} (h : 0 ≤ X 11) : 0 ≤ (X, n).1 11 := h
theorem chm1_11 {X : Nat → Int32} {k : Nat} (h : 0 ≤ X 11) : 0 ≤ (R_chm1 k X).1 11 := by
  unfold R_chm1
  exact chm_11 (d1_nn h)
theorem cp_11 {f g : Nat → Int32} {b n q : Nat} {x : Int32} (h : 0 ≤ g 11) (hb : 42 ≤ b) (hq : 42 ≤ q) : 0 ≤ upd (cpR f g b n) q x 11 := by
  rw [upd_n (by omega)]
  unfold cpR
  rw [if_neg (by omega)]
  exact h
theorem chb_a {k : Nat} {p : (Nat → Int32) × Nat} (h : R_lost p.1 = 0) : R_chb k p = (upd (cpR (fun i => (R_chm1 k p.1).1 (42 + 4 * k + i)) (R_chm1 k p.1).1 (42 + 4 * p.2) 4) (42 + 4 * p.2 + 1) (R_chm1 k p.1).2, p.2 + 1) := if_pos h
theorem chb_b {k : Nat} {p : (Nat → Int32) × Nat} (h : ¬ R_lost p.1 = 0) : R_chb k p = (R_d1 p.1, p.2) := if_neg h
theorem chb_11a {k : Nat} {p : (Nat → Int32) × Nat} (h : 0 ≤ p.1 11) (hl : R_lost p.1 = 0) : 0 ≤ (R_chb k p).1 11 := by
  rw [chb_a hl]
  exact fst_11 (cp_11 (chm1_11 h) (by omega) (by omega))
theorem chb_11b {k : Nat} {p : (Nat → Int32) × Nat} (h : 0 ≤ p.1 11) (hl : ¬ R_lost p.1 = 0) : 0 ≤ (R_chb k p).1 11 := by
  rw [chb_b hl]
  exact fst_11 (d1_nn h)
theorem chb_11 {k : Nat} {p : (Nat → Int32) × Nat} (h : 0 ≤ p.1 11) : 0 ≤ (R_chb k p).1 11 := by
  by_cases hl : R_lost p.1 = 0
  · exact chb_11a h hl
  · exact chb_11b h hl
theorem ch_11 {A : Nat → Int32} (h : 0 ≤ A 11) (k : Nat) : 0 ≤ (itN R_chb k (A, 0)).1 11 := by
  induction k with
  | zero => exact h
  | succ k ih => rw [itN_s]; exact chb_11 ih
theorem fires_11 {A : Nat → Int32} (hw : WF A) (h : 0 ≤ A 11) : 0 ≤ R_fires A 11 := by
  obtain ⟨K4, h4, hK4⟩ := hw.K4
  obtain ⟨K5, h5, hK5⟩ := hw.K5
  have h4m : R_move A 4 = nI K4 := (move_n (by decide) (by decide)).trans h4
  have h5m : R_move A 5 = nI K5 := (move_n (by decide) (by decide)).trans h5
  obtain ⟨e, he, hle, hout⟩ := EI_echoes (A := R_move A) (by rw [cl_nI h4m (by omega)]; exact hK4) (by rw [cl_nI h5m (by omega)]; exact hK5)
  have h1 : 0 ≤ R_echoes (R_move A) 11 := by rw [hout 11 (by omega), move_n (by decide) (by decide)]; exact h
  unfold R_fires
  rw [show R_orders (R_chance (R_echoes (R_move A))) 11 = R_chance (R_echoes (R_move A)) 11 from ord_out _ (by omega)]
  unfold R_chance
  rw [upd_n (by omega)]
  exact ch_11 h1 _
