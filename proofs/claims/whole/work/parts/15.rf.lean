/-! what the reference's methods do to its row s, as functions -/
def b2i (p : Prop) [Decidable p] : Int32 := if p then 1 else 0
def R_lcg (s : Int32) : Int32 := (1103515245 * s.toInt64 + 12345 - (1103515245 * s.toInt64 + 12345) / 2147483648 * 2147483648).toInt32
def R_in (v lo hi : Int32) : Int32 := if v < lo then 0 else if hi < v then 0 else 1
def R_greater (x y : Int32) : Int32 := if x ≤ y then y else x
def R_apart (x y : Int32) : Int32 := if x ≤ y then y - x else x - y
def R_d1 (A : Nat → Int32) : Nat → Int32 := upd A 11 (R_lcg (A 11))
def R_d2 (A : Nat → Int32) (below : Int32) : Int32 := R_lcg (A 11) / 65536 - R_lcg (A 11) / 65536 / below * below
def R_angle (A : Nat → Int32) (b : Int32) : Int32 := (A 8 + 360 * b / A 5) - (A 8 + 360 * b / A 5) / 360 * 360
def R_mk4 (A : Nat → Int32) (e : Nat) (k d s : Int32) : Nat → Int32 := upd (upd (upd (upd A (42 + 4 * e) k) (42 + 4 * e + 1) d) (42 + 4 * e + 2) s) (42 + 4 * e + 3) 0
def R_makes (A : Nat → Int32) (e : Nat) (k d s : Int32) : Nat → Int32 := upd (R_mk4 A e k d s) 41 (R_mk4 A e k d s 41 + 1)
theorem upd_s {f : Nat → Int32} {k : Nat} {x : Int32} : upd f k x k = x := if_pos rfl
theorem upd_n {f : Nat → Int32} {k j : Nat} {x : Int32} (h : j ≠ k) : upd f k x j = f j := if_neg h
theorem nlt_iff {a b : Nat} (ha : a < 2 ^ 31) (hb : b < 2 ^ 31) : nI a < nI b ↔ a < b := nI_ltI ha hb
theorem nle_iff {a b : Nat} (ha : a < 2 ^ 31) (hb : b < 2 ^ 31) : nI a ≤ nI b ↔ a ≤ b := nI_leI ha hb
/-- comparisons by numbers -/
theorem c_get {x y : Int32} {a b : Nat} (hx : x = nI a) (hy : y = nI b) (ha : a < 2 ^ 31) (hb : b < 2 ^ 31) (h : b ≤ a) : y ≤ x := by rw [hx, hy]; exact (nI_leI hb ha).mpr h
theorem c_gef {x y : Int32} {a b : Nat} (hx : x = nI a) (hy : y = nI b) (ha : a < 2 ^ 31) (hb : b < 2 ^ 31) (h : a < b) : ¬ y ≤ x := by rw [hx, hy]; exact fun z => absurd ((nI_leI hb ha).mp z) (by omega)
theorem c_ltt {x y : Int32} {a b : Nat} (hx : x = nI a) (hy : y = nI b) (ha : a < 2 ^ 31) (hb : b < 2 ^ 31) (h : a < b) : x < y := by rw [hx, hy]; exact (nI_ltI ha hb).mpr h
theorem c_ltf {x y : Int32} {a b : Nat} (hx : x = nI a) (hy : y = nI b) (ha : a < 2 ^ 31) (hb : b < 2 ^ 31) (h : b ≤ a) : ¬ x < y := by rw [hx, hy]; exact fun z => absurd ((nI_ltI ha hb).mp z) (by omega)
theorem c_gtt {x y : Int32} {a b : Nat} (hx : x = nI a) (hy : y = nI b) (ha : a < 2 ^ 31) (hb : b < 2 ^ 31) (h : b < a) : y < x := c_ltt hy hx hb ha h
theorem c_gtf {x y : Int32} {a b : Nat} (hx : x = nI a) (hy : y = nI b) (ha : a < 2 ^ 31) (hb : b < 2 ^ 31) (h : a ≤ b) : ¬ y < x := c_ltf hy hx hb ha h
theorem c_let {x y : Int32} {a b : Nat} (hx : x = nI a) (hy : y = nI b) (ha : a < 2 ^ 31) (hb : b < 2 ^ 31) (h : a ≤ b) : x ≤ y := c_get hy hx hb ha h
theorem c_lef {x y : Int32} {a b : Nat} (hx : x = nI a) (hy : y = nI b) (ha : a < 2 ^ 31) (hb : b < 2 ^ 31) (h : b < a) : ¬ x ≤ y := c_gef hy hx hb ha h
theorem c_eqt {x y : Int32} {a b : Nat} (hx : x = nI a) (hy : y = nI b) (_ : a < 2 ^ 31) (_ : b < 2 ^ 31) (h : a = b) : x = y := by rw [hx, hy, h]
theorem c_eqf {x y : Int32} {a b : Nat} (hx : x = nI a) (hy : y = nI b) (ha : a < 2 ^ 31) (hb : b < 2 ^ 31) (h : a ≠ b) : ¬ x = y := by rw [hx, hy]; exact fun z => h ((nI_eq ha hb).mp z)
/-- fewer known locals -/
def wk : List (Option Value) → List (Option Value) → Prop
  | [], _ => True
  | none :: a, _ :: b => wk a b
  | some x :: a, some y :: b => x = y ∧ wk a b
  | _ :: _, _ => False
theorem wk_ok : ∀ {L' L : List (Option Value)}, wk L' L → ∀ (i : Nat) (v : Value), L'[i]? = some (some v) → L[i]? = some (some v)
  | [], _, _, i, v, h => by simp at h
  | none :: a, [], h, i, v, h2 => h.elim
  | none :: a, _ :: b, h, i, v, h2 => by
    cases i with
    | zero => simp at h2
    | succ i =>
      rw [List.getElem?_cons_succ] at h2 ⊢
      exact wk_ok (show wk a b from h) i v h2
  | some x :: a, some y :: b, h, i, v, h2 => by
    obtain ⟨h1, h3⟩ : x = y ∧ wk a b := h
    cases i with
    | zero => rw [← h1]; exact h2
    | succ i =>
      rw [List.getElem?_cons_succ] at h2 ⊢
      exact wk_ok h3 i v h2
  | some x :: a, none :: b, h, _, _, _ => h.elim
  | some x :: a, [], h, _, _, _ => h.elim
theorem r_wk {om : OM} {l : Launch} {M : MI} {B : Nat × Nat} {pc : Nat} {L : List (Option Value)} {S : List Value} {h : Hp} {Post : Out → Hp → Prop} (L' : List (Option Value)) (hw : wk L' L) (k : Runs om l M B pc L' S h Post) : Runs om l M B pc L S h Post := r_weak L' (wk_ok hw) k
/-- the first k from f, the rest from g; on a stretch -/
def cpT (f g : Nat → Int32) (k : Nat) : Nat → Int32 := fun j => if j < k then f j else g j
theorem cpT_0 {f g : Nat → Int32} : cpT f g 0 = g := funext fun j => if_neg (Nat.not_lt_zero j)
theorem cpT_s {f g : Nat → Int32} {k : Nat} : upd (cpT f g k) k (f k) = cpT f g (k + 1) := by
  funext j
  unfold upd cpT
  by_cases h : j = k
  · subst h; rw [if_pos rfl, if_pos (by omega)]
  · rw [if_neg h]
    by_cases h2 : j < k
    · rw [if_pos h2, if_pos (by omega)]
    · rw [if_neg h2, if_neg (by omega)]
theorem cpT_ge {f g : Nat → Int32} {k j : Nat} (h : k ≤ j) : cpT f g k j = g j := if_neg (by omega)
theorem cpT_lt {f g : Nat → Int32} {k j : Nat} (h : j < k) : cpT f g k j = f j := if_pos h
def cpR (f g : Nat → Int32) (b k : Nat) : Nat → Int32 := fun j => if b ≤ j ∧ j < b + k then f (j - b) else g j
theorem cpR_0 {f g : Nat → Int32} {b : Nat} : cpR f g b 0 = g := funext fun j => if_neg (by omega)
theorem cpR_s {f g : Nat → Int32} {b k : Nat} : upd (cpR f g b k) (b + k) (f k) = cpR f g b (k + 1) := by
  funext j
  unfold upd cpR
  by_cases h : j = b + k
  · subst h; rw [if_pos rfl, if_pos (by omega), Nat.add_sub_cancel_left]
  · rw [if_neg h]
    by_cases h2 : b ≤ j ∧ j < b + k
    · rw [if_pos h2, if_pos (by omega)]
    · rw [if_neg h2, if_neg (by omega)]
