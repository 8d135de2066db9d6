/-! what the reference's methods do to its row s, as functions -/
def R_lcg (s : Int32) : Int32 := (1103515245 * s.toInt64 + 12345 - (1103515245 * s.toInt64 + 12345) / 2147483648 * 2147483648).toInt32
def R_in (v lo hi : Int32) : Int32 := if v < lo then 0 else if hi < v then 0 else 1
def R_greater (x y : Int32) : Int32 := if x ≤ y then y else x
def R_apart (x y : Int32) : Int32 := if x ≤ y then y - x else x - y
def R_d1 (A : Nat → Int32) : Nat → Int32 := upd A 11 (R_lcg (A 11))
def R_d2 (A : Nat → Int32) (below : Int32) : Int32 := R_lcg (A 11) / 65536 - R_lcg (A 11) / 65536 / below * below
def R_angle (A : Nat → Int32) (b : Int32) : Int32 := (A 8 + 360 * b / A 5) - (A 8 + 360 * b / A 5) / 360 * 360
def R_mk4 (A : Nat → Int32) (e : Nat) (k d s : Int32) : Nat → Int32 := upd (upd (upd (upd A (42 + 4 * e) k) (42 + 4 * e + 1) d) (42 + 4 * e + 2) s) (42 + 4 * e + 3) 0
def R_makes (A : Nat → Int32) (e : Nat) (k d s : Int32) : Nat → Int32 := upd (R_mk4 A e k d s) 41 (R_mk4 A e k d s 41 + 1)
theorem upd_s {f : Nat → Int32} {k : Nat} {x : Int32} : upd f k x k = x := if_pos rfl
theorem upd_n {f : Nat → Int32} {k j : Nat} {x : Int32} (h : j ≠ k) : upd f k x j = f j := if_neg h
/-- comparisons by numbers -/
theorem c_get {x y : Int32} {a b : Nat} (hx : x = nI a) (hy : y = nI b) (ha : a < 2 ^ 31) (hb : b < 2 ^ 31) (h : b ≤ a) : y ≤ x := by rw [hx, hy]; exact (nI_leI hb ha).mpr h
theorem c_gef {x y : Int32} {a b : Nat} (hx : x = nI a) (hy : y = nI b) (ha : a < 2 ^ 31) (hb : b < 2 ^ 31) (h : a < b) : ¬ y ≤ x := by rw [hx, hy]; exact fun z => absurd ((nI_leI hb ha).mp z) (by omega)
theorem c_ltt {x y : Int32} {a b : Nat} (hx : x = nI a) (hy : y = nI b) (ha : a < 2 ^ 31) (hb : b < 2 ^ 31) (h : a < b) : x < y := by rw [hx, hy]; exact (nI_ltI ha hb).mpr h
theorem c_ltf {x y : Int32} {a b : Nat} (hx : x = nI a) (hy : y = nI b) (ha : a < 2 ^ 31) (hb : b < 2 ^ 31) (h : b ≤ a) : ¬ x < y := by rw [hx, hy]; exact fun z => absurd ((nI_ltI ha hb).mp z) (by omega)
theorem c_let {x y : Int32} {a b : Nat} (hx : x = nI a) (hy : y = nI b) (ha : a < 2 ^ 31) (hb : b < 2 ^ 31) (h : a ≤ b) : x ≤ y := c_get hy hx hb ha h
theorem c_lef {x y : Int32} {a b : Nat} (hx : x = nI a) (hy : y = nI b) (ha : a < 2 ^ 31) (hb : b < 2 ^ 31) (h : b < a) : ¬ x ≤ y := c_gef hy hx hb ha h
theorem c_eqt {x y : Int32} {a b : Nat} (hx : x = nI a) (hy : y = nI b) (_ : a < 2 ^ 31) (_ : b < 2 ^ 31) (h : a = b) : x = y := by rw [hx, hy, h]
theorem c_eqf {x y : Int32} {a b : Nat} (hx : x = nI a) (hy : y = nI b) (ha : a < 2 ^ 31) (hb : b < 2 ^ 31) (h : a ≠ b) : ¬ x = y := by rw [hx, hy]; exact fun z => h ((nI_eq ha hb).mp z)
/-- fewer known locals -/
def wk : List (Option Value) → List (Option Value) → Prop
  | [], _ => True
  | none :: a, _ :: b => wk a b
  | some x :: a, some y :: b => x = y ∧ wk a b
  | _ :: _, _ => False
theorem wk_ok : ∀ {L' L : List (Option Value)}, wk L' L → ∀ (i : Nat) (v : Value), L'[i]? = some (some v) → L[i]? = some (some v)
  | [], _, _, i, v, h => by simp at h
  | none :: a, [], h, i, v, h2 => h.elim
  | none :: a, _ :: b, h, i, v, h2 => by
    cases i with
    | zero => simp at h2
    | succ i =>
      rw [List.getElem?_cons_succ] at h2 ⊢
      exact wk_ok (show wk a b from h) i v h2
  | some x :: a, some y :: b, h, i, v, h2 => by
    obtain ⟨h1, h3⟩ : x = y ∧ wk a b := h
    cases i with
    | zero => rw [← h1]; exact h2
    | succ i =>
      rw [List.getElem?_cons_succ] at h2 ⊢
      exact wk_ok h3 i v h2
  | some x :: a, none :: b, h, _, _, _ => h.elim
  | some x :: a, [], h, _, _, _ => h.elim
theorem r_wk {om : OM} {l : Launch} {M : MI} {B : Nat × Nat} {pc : Nat} {L : List (Option Value)} {S : List Value} {h : Hp} {Post : Out → Hp → Prop} (L' : List (Option Value)) (hw : wk L' L) (k : Runs om l M B pc L' S h Post) : Runs om l M B pc L S h Post := r_weak L' (wk_ok hw) k
/-- the first k from f, the rest from g; on a stretch -/
def cpT (f g : Nat → Int32) (k : Nat) : Nat → Int32 := fun j => if j < k then f j else g j
def cpR (f g : Nat → Int32) (b k : Nat) : Nat → Int32 := fun j => if b ≤ j ∧ j < b + k then f (j - b) else g j
def itN {α : Type} (f : Nat → α → α) : Nat → α → α
  | 0, x => x
  | k + 1, x => f k (itN f k x)
theorem itN_s {α : Type} {f : Nat → α → α} {k : Nat} {x : α} : itN f (k + 1) x = f k (itN f k x) := rfl
abbrev cl (x : Int32) : Nat := x.toNatClampNeg
theorem cl_nI {x : Int32} {k : Nat} (h : x = nI k) (hk : k < 2 ^ 31) : cl x = k := by rw [h]; exact nI_clamp hk
/-- saved: what stands 647 further on -/
def shf (v : Nat → Int32) (k : Nat) : Nat → Int32 := fun j => if j < k then v (j + 647) else v j
/-- picks move by one, from the far end: k are left -/
def shk (A : Nat → Int32) (k : Nat) : Nat → Int32 := fun j => if 32 + k < j ∧ j ≤ 40 then A (j - 1) else A j
def R_kp (A : Nat → Int32) : Nat → Int32
  | 0 => 0
  | k + 1 => R_kp A k + (if A (32 + k) = -1 then 0 else 1)
def R_mkd (A : Nat → Int32) : Nat → Int32
  | 0 => 0
  | k + 1 => R_mkd A k + A (146 + k)
def R_saveI (I : Nat → Int32) : Nat → Int32 := if I 4 = 4 then upd (upd I 4 (I 4 - 1)) 4 (upd I 4 (I 4 - 1) 4 + 1) else upd I 4 (I 4 + 1)
def R_savev (c : Nat) (A v : Nat → Int32) : Nat → Int32 := if c = 4 then cpR A (shf v 1941) (647 * 3) 647 else cpR A v (647 * c) 647
def R_begins (A : Nat → Int32) (depth : Int32) : Nat → Int32 := upd (upd (upd (upd (upd (upd (upd (upd (upd (upd (upd (upd (upd (upd (upd (upd (cpT (fun _ => 0) A 647) 11 (A 11)) 0 depth) 1 500) 6 300) 7 600) 9 47) 10 20) 14 20) 15 2) 18 5) 19 4) 20 10) 21 200) 22 1800) 23 20) 26 (-1)
def R_keeps (A : Nat → Int32) (p : Int32) : Nat → Int32 := upd (upd (shk A 0) 32 p) 31 (if upd (shk A 0) 32 p 18 ≤ upd (shk A 0) 32 p 31 then upd (shk A 0) 32 p 18 else upd (shk A 0) 32 p 31 + 1)
def R_mk (X : Nat → Int32) (kd d s : Int32) : Nat → Int32 := R_makes X (cl (X 41)) kd d s
def R_e1b (d : Int32) (k : Nat) (X : Nat → Int32) : Nat → Int32 := if d ≤ X (134 + 2 * k) then X else R_mk X 0 (X (134 + 2 * k)) (X (134 + 2 * k + 1))
def R_isIn (X : Nat → Int32) (k : Nat) : Int32 := if R_angle X (nI k) ≤ X 10 then 1 else if R_angle X (nI k) < 360 - X 10 then 0 else 1
def R_bd (X : Nat → Int32) (k : Nat) : Int32 := if nI k - nI k / 2 * 2 = 0 then X 6 else X 7
def R_e2b (d : Int32) (k : Nat) (p : (Nat → Int32) × Int32) : (Nat → Int32) × Int32 := if R_isIn p.1 k = 0 then p else if d ≤ R_bd p.1 k then p else (R_mk p.1 1 (R_bd p.1 k) 60, 1)
def R_e3 (d : Int32) (X : Nat → Int32) : Nat → Int32 := if X 3 ≤ 0 then X else R_mk X 2 (R_greater 0 (d - X 3)) (R_greater 10 (70 - X 3 / 10))
def R_e4 (d hides : Int32) (X : Nat → Int32) : Nat → Int32 := if hides = 0 then R_mk (R_mk X 3 d (R_greater 0 (80 - X 3 / 5))) 4 (2 * d) (R_greater 0 (80 - X 3 / 5) / 2) else X
def R_e12 (A : Nat → Int32) : (Nat → Int32) × Int32 := itN (R_e2b (A 0 - A 1)) (cl (A 5)) (itN (R_e1b (A 0 - A 1)) (cl (A 4)) (upd A 41 0), 0)
def R_echoes (A : Nat → Int32) : Nat → Int32 := R_e4 (A 0 - A 1) (R_e12 A).2 (R_e3 (A 0 - A 1) (R_e12 A).1)
/-- echoes so far: their number, all else as in A -/
def EI (e0 : Nat) (A X : Nat → Int32) : Prop := ∃ e, X 41 = nI e ∧ e ≤ e0 ∧ ∀ j, (j < 41 ∨ 102 ≤ j) → X j = A j
theorem EI.weak {e0 e1 : Nat} {A X : Nat → Int32} (h : EI e0 A X) (h1 : e0 ≤ e1) : EI e1 A X := by
  obtain ⟨e, h2, h3, h4⟩ := h
  exact ⟨e, h2, by omega, h4⟩
theorem mk4_out {X : Nat → Int32} {e j : Nat} {kd d s : Int32} (h : j < 42 + 4 * e ∨ 42 + 4 * e + 4 ≤ j) : R_mk4 X e kd d s j = X j := by
  unfold R_mk4
  rw [upd_n (by omega), upd_n (by omega), upd_n (by omega), upd_n (by omega)]
theorem EI_mk {e0 : Nat} {A X : Nat → Int32} (kd d s : Int32) (h : EI e0 A X) (h1 : e0 ≤ 14) : EI (e0 + 1) A (R_mk X kd d s) := by
  obtain ⟨e, h2, h3, h4⟩ := h
  have hc : cl (X 41) = e := cl_nI h2 (by omega)
  refine ⟨e + 1, ?_, by omega, fun j hj => ?_⟩
  · unfold R_mk R_makes
    rw [hc, upd_s, mk4_out (by omega), h2]
    exact (nI_succ e).symm
  · unfold R_mk R_makes
    rw [hc, upd_n (by omega), mk4_out (by omega), h4 j hj]
theorem EI_e1 {A X : Nat → Int32} {d : Int32} (h : EI 0 A X) : ∀ k, k ≤ 6 → EI k A (itN (R_e1b d) k X)
  | 0, _ => h
  | k + 1, hk => by
    have ih := EI_e1 (d := d) h k (by omega)
    show EI (k + 1) A (R_e1b d k (itN (R_e1b d) k X))
    unfold R_e1b
    split
    · exact ih.weak (by omega)
    · exact EI_mk _ _ _ ih (by omega)
theorem EI_e2 {A X : Nat → Int32} {d hd : Int32} (h : EI 6 A X) : ∀ k, k ≤ 6 → EI (6 + k) A (itN (R_e2b d) k (X, hd)).1
  | 0, _ => h
  | k + 1, hk => by
    have ih := EI_e2 (d := d) (hd := hd) h k (by omega)
    show EI (6 + (k + 1)) A (R_e2b d k (itN (R_e2b d) k (X, hd))).1
    unfold R_e2b
    split
    · exact ih.weak (by omega)
    · split
      · exact ih.weak (by omega)
      · exact EI_mk _ _ _ ih (show 6 + k ≤ 14 by omega)
theorem EI_e12 {A : Nat → Int32} (h4 : cl (A 4) ≤ 6) (h5 : cl (A 5) ≤ 6) : EI 12 A (R_e12 A).1 := by
  have h0 : EI 0 A (upd A 41 0) := ⟨0, upd_s, by omega, fun j hj => upd_n (by omega)⟩
  exact (EI_e2 ((EI_e1 h0 _ h4).weak h4) _ h5).weak (by omega)
theorem EI_e3 {A X : Nat → Int32} {d : Int32} (h : EI 12 A X) : EI 13 A (R_e3 d X) := by
  unfold R_e3
  split
  · exact h.weak (by omega)
  · exact EI_mk _ _ _ h (by omega)
theorem EI_e4 {A X : Nat → Int32} {d hd : Int32} (h : EI 13 A X) : EI 15 A (R_e4 d hd X) := by
  unfold R_e4
  split
  · exact EI_mk _ _ _ (EI_mk _ _ _ h (by omega)) (by omega)
  · exact h.weak (by omega)
theorem EI_echoes {A : Nat → Int32} (h4 : cl (A 4) ≤ 6) (h5 : cl (A 5) ≤ 6) : EI 15 A (R_echoes A) := EI_e4 (EI_e3 (EI_e12 h4 h5))
/-- chance -/
def R_chm (X : Nat → Int32) (mv : Int32) : (Nat → Int32) × Int32 := if X 13 ≤ 0 then (X, mv) else (R_d1 X, R_greater 0 (mv + R_d2 X (2 * X 13 + 1) - R_d1 X 13))
def R_lost (X : Nat → Int32) : Int32 := if R_d1 X 12 ≤ R_d2 X 100 then 0 else 1
def R_chm1 (k : Nat) (X : Nat → Int32) : (Nat → Int32) × Int32 := R_chm (R_d1 X) (R_d1 X (42 + 4 * k + 1))
def R_chb (k : Nat) (p : (Nat → Int32) × Nat) : (Nat → Int32) × Nat := if R_lost p.1 = 0 then (upd (cpR (fun i => (R_chm1 k p.1).1 (42 + 4 * k + i)) (R_chm1 k p.1).1 (42 + 4 * p.2) 4) (42 + 4 * p.2 + 1) (R_chm1 k p.1).2, p.2 + 1) else (R_d1 p.1, p.2)
def R_chance (A : Nat → Int32) : Nat → Int32 := upd (itN R_chb (cl (A 41)) (A, 0)).1 41 (nI (itN R_chb (cl (A 41)) (A, 0)).2)
theorem chm_out {X : Nat → Int32} {mv : Int32} {j : Nat} (h : j ≠ 11) : (R_chm X mv).1 j = X j := by
  unfold R_chm
  split
  · rfl
  · exact upd_n h
/-- all but chance's s and the echoes themselves stay -/
def CI (A X : Nat → Int32) : Prop := ∀ j, (j < 11 ∨ (11 < j ∧ j < 42) ∨ 102 ≤ j) → X j = A j
theorem CI_chb {A : Nat → Int32} {k : Nat} {p : (Nat → Int32) × Nat} (h : CI A p.1) (h2 : p.2 ≤ k) (hk : k < 15) : CI A (R_chb k p).1 ∧ (R_chb k p).2 ≤ k + 1 := by
  unfold R_chb
  split
  · refine ⟨fun j hj => ?_, by show p.2 + 1 ≤ k + 1; omega⟩
    show upd (cpR _ _ _ _) _ _ j = A j
    rw [upd_n (by omega)]
    unfold cpR R_chm1
    rw [if_neg (by omega), chm_out (by omega)]
    unfold R_d1
    rw [upd_n (by omega)]
    exact h j hj
  · exact ⟨fun j hj => by show R_d1 p.1 j = A j; unfold R_d1; rw [upd_n (by omega)]; exact h j hj, by show p.2 ≤ k + 1; omega⟩
theorem CI_ch {A : Nat → Int32} (k : Nat) : k ≤ 15 → CI A (itN R_chb k (A, 0)).1 ∧ (itN R_chb k (A, 0)).2 ≤ k := by
  induction k with
  | zero => exact fun _ => ⟨fun _ _ => rfl, Nat.le_refl _⟩
  | succ k ih =>
    intro hk
    obtain ⟨h1, h2⟩ := ih (by omega)
    rw [itN_s]
    exact CI_chb h1 h2 (by omega)
/-- order -/
def R_ahead (X : Nat → Int32) (p : Nat) : Int32 := if X (p + 1) = X (p - 3) then (if X (p + 2) = X (p - 2) then (if X (p - 4) ≤ X p then 0 else 1) else (if X (p + 2) ≤ X (p - 2) then 0 else 1)) else (if X (p - 3) ≤ X (p + 1) then 0 else 1)
def R_sw (X : Nat → Int32) (p q : Nat) : Nat → Int32 := fun j => if p ≤ j ∧ j < p + q then X (j - 4) else if p - 4 ≤ j ∧ j < p - 4 + q then X (j + 4) else X j
def R_in1 : Nat → (Nat → Int32) → (Nat → Int32)
  | 0, X => X
  | i + 1, X => if R_ahead X (42 + 4 * (i + 1)) = 0 then X else R_in1 i (R_sw X (42 + 4 * (i + 1)) 4)
def R_orders (A : Nat → Int32) : Nat → Int32 := itN R_in1 (max (cl (A 41)) 1) A
theorem in1_out : ∀ (i : Nat) (X : Nat → Int32) (j : Nat), (j < 42 ∨ 42 + 4 * i + 4 ≤ j) → R_in1 i X j = X j
  | 0, _, _, _ => rfl
  | i + 1, X, j, h => by
    unfold R_in1
    split
    · rfl
    · rw [in1_out i _ j (by omega)]
      unfold R_sw
      rw [if_neg (by omega), if_neg (by omega)]
theorem ord_out {A : Nat → Int32} {j : Nat} : ∀ (k : Nat), (j < 42 ∨ 42 + 4 * k ≤ j) → itN R_in1 k A j = A j
  | 0, _ => rfl
  | k + 1, h => by
    show R_in1 k (itN R_in1 k A) j = A j
    rw [in1_out k _ j (by omega), ord_out k (by omega)]
def R_lev (A : Nat → Int32) : Int32 := if 0 ≤ A 1 + A 2 then (if A 1 + A 2 ≤ A 0 then A 1 + A 2 else A 0) else 0
def R_move (A : Nat → Int32) : Nat → Int32 := upd (upd A 1 (R_lev A)) 8 (upd A 1 (R_lev A) 8 + upd A 1 (R_lev A) 9 - (upd A 1 (R_lev A) 8 + upd A 1 (R_lev A) 9) / 360 * 360)
def R_fires (A : Nat → Int32) : Nat → Int32 := R_orders (R_chance (R_echoes (R_move A)))
