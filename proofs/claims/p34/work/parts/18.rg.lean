/-! the shot: what looks, remembers, picks, tells and alarms do -/
theorem n_nlt {X Y : Int32} {x D : Nat} (hx : X = nI x) (hD : Y = nI D) (h1 : x < 2 ^ 31) (h2 : D < 2 ^ 31) (h : ¬ Y < X) : x ≤ D := by
  rw [hx, hD] at h
  exact Nat.le_of_not_lt fun z => h ((nI_ltI h2 h1).mpr z)
theorem nn_ex {x : Int32} (h : 0 ≤ x) : ∃ k, k < 2 ^ 31 ∧ x = nI k := by
  have h1 : (0 : Int32).toInt ≤ x.toInt := Int32.le_iff_toInt_le.mp h
  have h2 : x.toInt < 2 ^ 31 := Int32.toInt_lt x
  have h0 : (0 : Int32).toInt = 0 := rfl
  rw [h0] at h1
  refine ⟨x.toInt.toNat, by omega, ?_⟩
  apply Int32.toInt_inj.mp
  rw [nI_toInt (by omega)]
  omega
def R_need (A : Nat → Int32) (d : Int32) : Int32 := R_greater 1 (A 14 - d * A 15 / 1000)
def R_cand (A : Nat → Int32) (p : Nat) : Int32 := if A 0 < A (p + 1) then 0 else if A (146 + cl (A (p + 1)) / 20) = 0 then (if A (p + 2) < R_need A (A (p + 1)) then 0 else 1) else 0
def R_hadb (A : Nat → Int32) (b : Nat) (d : Int32) (k : Nat) (hd : Int32) : Int32 := if hd = 0 then (if 15 < R_apart (A (b + 1 + k)) d then 0 else 1) else 1
def R_had (A : Nat → Int32) (b : Nat) (d : Int32) : Int32 := itN (R_hadb A b d) (cl (A b)) 0
theorem had01 {A : Nat → Int32} {b : Nat} {d : Int32} (k : Nat) : itN (R_hadb A b d) k 0 = 0 ∨ itN (R_hadb A b d) k 0 = 1 := by
  cases k with
  | zero => exact Or.inl rfl
  | succ k =>
    rw [itN_s, R_hadb]
    split
    · split
      · exact Or.inl rfl
      · exact Or.inr rfl
    · exact Or.inr rfl
def R_isBl (X : Nat → Int32) (d : Int32) : Int32 := if X 16 = 1 then (if R_in d (X 6 - 40) (X 7 + 40) = 0 then 0 else 1) else 0
def R_isDr (X : Nat → Int32) (d : Int32) : Int32 := if R_isBl X d = 0 then 0 else if R_had X 102 d = 0 then 1 else if R_had X 118 d = 0 then 1 else 0
def R_mark (dr : Int32) : Int32 := if dr = 0 then 1 else 3
def R_one (dr : Int32) : Int32 := if dr = 0 then 0 else 1
def R_lookX (X : Nat → Int32) (p : Nat) : Nat → Int32 := upd X (p + 3) (R_mark (R_isDr X (X (p + 1))))
def R_lookb (k : Nat) (X : Nat → Int32) : Nat → Int32 := if R_cand X (42 + 4 * k) = 0 then X else upd (R_lookX X (42 + 4 * k)) 29 (R_lookX X (42 + 4 * k) 29 + R_one (R_isDr X (X (42 + 4 * k + 1))))
def R_looks (A : Nat → Int32) : Nat → Int32 := itN R_lookb (cl (A 41)) A
/-- what looks leaves alone -/
def LI (A X : Nat → Int32) : Prop := ∀ j, (j < 29 ∨ (29 < j ∧ j < 45) ∨ 102 ≤ j ∨ (j < 102 ∧ (j - 42) % 4 ≠ 3)) → j ≠ 29 → X j = A j
theorem LI_b {A X : Nat → Int32} {k : Nat} (h : LI A X) (hk : k < 15) : LI A (R_lookb k X) := by
  unfold R_lookb
  split
  · exact h
  · intro j hj h29
    unfold R_lookX
    rw [upd_n h29, upd_n (by omega)]
    exact h j hj h29
theorem LI_looks {A : Nat → Int32} (k : Nat) : k ≤ 15 → LI A (itN R_lookb k A) := by
  induction k with
  | zero => exact fun _ _ _ _ => rfl
  | succ k ih =>
    intro hk
    rw [itN_s]
    exact LI_b (ih (by omega)) (by omega)
/-- remembers -/
def R_rm1 (A : Nat → Int32) (k : Nat) : Nat → Int32 := fun j => if 118 ≤ j ∧ j < 118 + k then A (j - 16) else if 102 ≤ j ∧ j < 102 + k then 0 else A j
def R_rmX (X : Nat → Int32) (k c : Nat) : Nat → Int32 := upd X (103 + c) (X (42 + 4 * k + 1))
def R_rmb (k : Nat) (X : Nat → Int32) : Nat → Int32 := if X (42 + 4 * k + 3) = 0 then X else upd (R_rmX X k (cl (X 102))) 102 (R_rmX X k (cl (X 102)) 102 + 1)
def R_remembers (A : Nat → Int32) : Nat → Int32 := itN R_rmb (cl (A 41)) (R_rm1 A 16)
def MI2 (k0 : Nat) (A X : Nat → Int32) : Prop := (∃ c, X 102 = nI c ∧ c ≤ k0) ∧ ∀ j, (j < 102 ∨ 118 ≤ j) → X j = A j
theorem MI2_b {A X : Nat → Int32} {k : Nat} (h : MI2 k A X) (hk : k < 15) : MI2 (k + 1) A (R_rmb k X) := by
  obtain ⟨⟨c, hc, hck⟩, h2⟩ := h
  unfold R_rmb
  split
  · exact ⟨⟨c, hc, by omega⟩, h2⟩
  · rw [cl_nI hc (by omega)]
    refine ⟨⟨c + 1, ?_, by omega⟩, fun j hj => ?_⟩
    · unfold R_rmX
      rw [upd_s, upd_n (by omega), hc]
      exact (nI_succ c).symm
    · unfold R_rmX
      rw [upd_n (by omega), upd_n (by omega)]
      exact h2 j hj
theorem MI2_r {A : Nat → Int32} (k : Nat) : k ≤ 15 → MI2 k (R_rm1 A 16) (itN R_rmb k (R_rm1 A 16)) := by
  induction k with
  | zero => exact fun _ => ⟨⟨0, by show R_rm1 A 16 102 = _; unfold R_rm1; rw [if_neg (by omega), if_pos (by omega)]; rfl, by omega⟩, fun _ _ => rfl⟩
  | succ k ih =>
    intro hk
    rw [itN_s]
    exact MI2_b (ih (by omega)) (by omega)
/-- picks -/
def R_bet (A : Nat → Int32) (p q : Nat) : Int32 := if A 17 = 1 then (if A (p + 2) ≤ A (q + 2) then 0 else 1) else if A 17 = 2 then (if A 26 = -1 then 0 else if R_apart (A (q + 1)) (A 26) ≤ R_apart (A (p + 1)) (A 26) then 0 else 1) else 0
def R_pkb (A : Nat → Int32) (k : Nat) (b : Int32) : Int32 := if A (42 + 4 * k + 3) = 1 then (if b = -1 then nI (42 + 4 * k) else if R_bet A (42 + 4 * k) (cl b) = 0 then b else nI (42 + 4 * k)) else b
def R_best (A : Nat → Int32) (K : Nat) : Int32 := itN (R_pkb A) K (-1)
def R_picks (A : Nat → Int32) : (Nat → Int32) × Int32 := if R_best A (cl (A 41)) = -1 then (A, -1) else (upd A (cl (R_best A (cl (A 41))) + 3) 5, upd A (cl (R_best A (cl (A 41))) + 3) 5 (cl (R_best A (cl (A 41))) + 1))
def PI (k : Nat) (b : Int32) : Prop := b = -1 ∨ ∃ e, e < k ∧ b = nI (42 + 4 * e)
theorem PI_b {A : Nat → Int32} {k : Nat} {b : Int32} (h : PI k b) : PI (k + 1) (R_pkb A k b) := by
  have h1 : PI (k + 1) b := h.elim Or.inl fun ⟨e, h2, h3⟩ => Or.inr ⟨e, by omega, h3⟩
  have h2 : PI (k + 1) (nI (42 + 4 * k)) := Or.inr ⟨k, by omega, rfl⟩
  unfold R_pkb
  split
  · split
    · exact h2
    · split
      · exact h1
      · exact h2
  · exact h1
theorem PI_best {A : Nat → Int32} (k : Nat) : PI k (R_best A k) := by
  induction k with
  | zero => exact Or.inl rfl
  | succ k ih => unfold R_best at ih ⊢; rw [itN_s]; exact PI_b ih
/-- the median -/
def R_l1 (A : Nat → Int32) (k o : Nat) : Int32 := if A (32 + o) = -1 then 0 else if A (32 + k) ≤ A (32 + o) then 0 else 1
def R_s1 (A : Nat → Int32) (k o : Nat) : Int32 := if A (32 + o) = A (32 + k) then 1 else 0
def R_lessb (A : Nat → Int32) (k o : Nat) (x : Int32) : Int32 := x + R_l1 A k o
def R_sameb (A : Nat → Int32) (k o : Nat) (x : Int32) : Int32 := x + R_s1 A k o
def R_medl (A : Nat → Int32) (K : Nat) (n : Int32) : Nat → Nat → Int32
  | 0, _ => -1
  | m + 1, k => if A (32 + k) = -1 then R_medl A K n m (k + 1) else if (n - 1) / 2 < itN (R_lessb A k) K 0 then R_medl A K n m (k + 1) else if itN (R_lessb A k) K 0 + itN (R_sameb A k) K 0 ≤ (n - 1) / 2 then R_medl A K n m (k + 1) else A (32 + k)
def R_median (A : Nat → Int32) : Int32 := if A 18 ≤ 2 * R_kp A (cl (A 31)) then R_medl A (cl (A 31)) (R_kp A (cl (A 31))) (cl (A 31)) 0 else -1
/-- tells -/
def R_wipe (A : Nat → Int32) (k : Nat) : Nat → Int32 := fun j => if 32 ≤ j ∧ j < 32 + k then -1 else A j
theorem R_wipe_0 {A : Nat → Int32} : R_wipe A 0 = A := funext fun j => if_neg (by omega)
theorem R_wipe_s {A : Nat → Int32} {k : Nat} : upd (R_wipe A k) (32 + k) (-1) = R_wipe A (k + 1) := by
  funext j
  unfold upd R_wipe
  by_cases h : j = 32 + k
  · subst h; rw [if_pos rfl, if_pos (by omega)]
  · rw [if_neg h]
    by_cases h2 : 32 ≤ j ∧ j < 32 + k
    · rw [if_pos h2, if_pos (by omega)]
    · rw [if_neg h2, if_neg (by omega)]
def R_miss (A : Nat → Int32) : Nat → Int32 := upd A 27 (A 27 + 1)
def R_then (X : Nat → Int32) (m : Int32) : Int32 := if X 26 = -1 then m else X 26 + (m - X 26) / X 19
def R_tl (X : Nat → Int32) (m : Int32) : Int32 := if R_then X m = X 26 then m else R_then X m
def R_tells (A : Nat → Int32) : Nat → Int32 := if R_median A = -1 then (if R_miss A 27 = R_miss A 20 then R_wipe (upd (R_miss A) 26 (-1)) 9 else R_miss A) else upd (upd A 27 0) 26 (R_tl (upd A 27 0) (R_median A))
/-- alarms -/
def R_alt (A : Nat → Int32) : Nat → Int32 := if A 28 = 2 then (if A 22 - A 23 ≤ A 0 - A 26 then A else upd A 28 0) else A
def R_al (A : Nat → Int32) : Nat → Int32 := if A 26 = -1 then upd A 28 0 else if A 21 < A 0 - A 26 then (if A 0 - A 26 < A 22 then (if A 28 = 1 then (if A 21 + A 23 < A 0 - A 26 then upd A 28 0 else R_alt A) else R_alt A) else upd A 28 2) else upd A 28 1
def R_new (X : Nat → Int32) (was : Int32) : Int32 := if X 28 = 0 then 0 else if X 28 = was then 0 else 1
def R_alarms (A : Nat → Int32) : Nat → Int32 := upd (R_al A) 30 (R_al A 30 + R_new (R_al A) (A 28))
/-- a shot -/
def R_isp (p : Int32) : Int32 := if p = -1 then 0 else 1
def R_cnt (A : Nat → Int32) (p : Int32) : Nat → Int32 := upd (upd A 24 (A 24 + 1)) 25 (upd A 24 (A 24 + 1) 25 + R_isp p)
def R_sh4 (A : Nat → Int32) : (Nat → Int32) × Int32 := R_picks (R_remembers (R_looks (R_fires A)))
def R_shot (A : Nat → Int32) : (Nat → Int32) × Int32 := (R_alarms (R_tells (R_keeps (R_cnt (R_sh4 A).1 (R_sh4 A).2) (R_sh4 A).2)), R_isp (R_sh4 A).2)
