/-! the reference's methods that set -/
theorem nar_b {x : Int32} (h : x = 0 ∨ x = 1) : narrow .boolean (.int x) = .int x := by
  rcases h with h | h <;> rw [h] <;> rfl
theorem in01 (x lo hi : Int32) : R_in x lo hi = 0 ∨ R_in x lo hi = 1 := by
  unfold R_in
  split
  · exact Or.inl rfl
  · split
    · exact Or.inl rfl
    · exact Or.inr rfl
theorem in_1 {x lo hi : Int32} (h : R_in x lo hi = 1) : ¬ x < lo ∧ ¬ hi < x := by
  unfold R_in at h
  by_cases h1 : x < lo
  · rw [if_pos h1] at h; exact absurd h (by decide)
  · rw [if_neg h1] at h
    by_cases h2 : hi < x
    · rw [if_pos h2] at h; exact absurd h (by decide)
    · exact ⟨h1, h2⟩
theorem nlt_le {x y : Int32} (h : ¬ x < y) : y ≤ x := Int32.not_lt.mp h
theorem in_ex {x lo hi : Int32} {a b : Nat} (h : R_in x lo hi = 1) (hlo : lo = nI a) (hhi : hi = nI b) (ha : a < 2 ^ 31) (hb : b < 2 ^ 31) : ∃ w, x = nI w ∧ a ≤ w ∧ w ≤ b := by
  obtain ⟨h1, h2⟩ := in_1 h
  have h3 : 0 ≤ x := Int32.le_trans (by rw [hlo]; exact nI_pos' ha) (nlt_le h1)
  obtain ⟨k, hk, e⟩ := nn_ex h3
  refine ⟨k, e, ?_, ?_⟩
  · have := nlt_le h1
    rw [hlo, e] at this
    exact (nI_leI ha hk).mp this
  · have := nlt_le h2
    rw [hhi, e] at this
    exact (nI_leI hk hb).mp this
def R_cThing (d s : Int32) : Int32 := if R_in d 0 10000 = 0 then 0 else if R_in s 1 100 = 0 then 0 else 1
def R_cStir (b u w sp be : Int32) : Int32 := if R_in b 0 6 = 0 then 0 else if R_in u 0 10000 = 0 then 0 else if R_in w 0 10000 = 0 then 0 else if w ≤ u then 0 else if R_in sp 0 359 = 0 then 0 else if R_in be 0 90 = 0 then 0 else 1
def R_least (x : Int32) : Int32 := if x = 2 then 1 else if x < 6 then 0 else if 8 < x then 0 else 1
def R_most (w : Nat) : Int32 := if w = 0 then 100 else if w = 1 then 20 else if w = 2 then 100 else if w = 3 then 20 else if w = 4 then 1 else if w = 5 then 2 else if w = 6 then 9 else if w = 7 then 20 else if w = 8 then 99 else if w = 11 then 500 else 10000
def R_cSet2 (A : Nat → Int32) (x v : Int32) : Int32 := if x = 9 then (if A 22 < v then 0 else 1) else if x = 10 then (if v < A 21 then 0 else 1) else 1
def R_cSet (A : Nat → Int32) (x v : Int32) : Int32 := if R_in x 0 11 = 0 then 0 else if R_in v (R_least x) (R_most (cl x)) = 0 then 0 else R_cSet2 A x v
def R_adds (A : Nat → Int32) (k : Nat) (d s : Int32) : Nat → Int32 := upd (upd (upd A (134 + 2 * k) d) (134 + 2 * k + 1) s) 4 (upd (upd A (134 + 2 * k) d) (134 + 2 * k + 1) s 4 + 1)
def R_stirs (A : Nat → Int32) (b u w sp be : Int32) : Nat → Int32 := upd (upd (upd (upd (upd A 5 b) 6 u) 7 w) 9 sp) 10 be
def R_cut (X : Nat → Int32) : Int32 := if X 31 ≤ X 18 then X 31 else X 18
def R_sets (A : Nat → Int32) (k : Nat) (x : Int32) : Nat → Int32 := upd (upd A (12 + k) x) 31 (R_cut (upd A (12 + k) x))
def R_lrb (k : Nat) (X : Nat → Int32) : Nat → Int32 := if 2 ≤ X (42 + 4 * k) then X else if X 0 < X (42 + 4 * k + 1) then X else upd X (146 + cl (X (42 + 4 * k + 1)) / 20) 1
def R_lr (A : Nat → Int32) : Nat → Int32 := itN R_lrb (cl (R_fires A 41)) (R_fires A)
def R_learns (A : Nat → Int32) (k : Nat) : Nat → Int32 := itN (fun _ X => R_lr X) k A
def R_shb (p : (Nat → Int32) × Int32) : (Nat → Int32) × Int32 := ((R_shot p.1).1, p.2 + R_one (R_shot p.1).2)
def R_shoots (A : Nat → Int32) (k : Nat) : (Nat → Int32) × Int32 := itN (fun _ p => R_shb p) k (A, 0)
