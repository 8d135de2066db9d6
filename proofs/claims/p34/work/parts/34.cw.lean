/-! the class's world: a state of 19 cells from b on, out of C (numbered as the reference's row is; 647 the count of masked bins) and W (the masks' bits) -/
def tr (n : Nat) (f : Nat → Int32) : Nat → Int32 := fun j => if j < n then f j else 0
def trL (n : Nat) (f : Nat → Int64) : Nat → Int64 := fun j => if j < n then f j else 0
abbrev ar (n : Nat) (f : Nat → Int32) : va_E := .inl (0, n, .inl (tr n f))
abbrev stf (b : Nat) : List Value := [.ref (b + 1), .ref (b + 4), .ref (b + 6), .ref (b + 8), .ref (b + 13), .ref (b + 15), .ref (b + 17)]
abbrev tkf (b : Nat) (C : Nat → Int32) : List Value := [.int (C 0), .int (C 1), .int (C 2), .int (C 3), .int (C 4), .ref (b + 2), .ref (b + 3), .int (C 5), .int (C 6), .int (C 7), .int (C 8), .int (C 9), .int (C 10), .int (C 11)]
abbrev ecf (b : Nat) (C : Nat → Int32) : List Value := [.int (C 41), .ref (b + 9), .ref (b + 10), .ref (b + 11), .ref (b + 12)]
abbrev hyf (b : Nat) (C : Nat → Int32) : List Value := [.ref (b + 14), .int (C 31), .int (C 26), .int (C 27), .int (C 28), .int (C 24), .int (C 25), .int (C 29), .int (C 30)]
def sc (b : Nat) (C : Nat → Int32) (W : Nat → Int64) : Nat → va_E
  | 0 => .inr (6, stf b)
  | 1 => .inr (7, tkf b C)
  | 2 => ar 6 (fun j => C (134 + 2 * j))
  | 3 => ar 6 (fun j => C (134 + 2 * j + 1))
  | 4 => .inr (5, [.ref (b + 5)])
  | 5 => ar 12 (fun j => C (12 + j))
  | 6 => .inr (4, [.ref (b + 7), .int (C 647)])
  | 7 => .inl (2, 8, .inr (.inl (trL 8 W)))
  | 8 => .inr (2, ecf b C)
  | 9 => ar 15 (fun j => C (42 + 4 * j))
  | 10 => ar 15 (fun j => C (42 + 4 * j + 1))
  | 11 => ar 15 (fun j => C (42 + 4 * j + 2))
  | 12 => ar 15 (fun j => C (42 + 4 * j + 3))
  | 13 => .inr (3, hyf b C)
  | 14 => ar 9 (fun j => C (32 + j))
  | 15 => .inr (1, [.int (C 102), .ref (b + 16)])
  | 16 => ar 15 (fun j => C (103 + j))
  | 17 => .inr (1, [.int (C 118), .ref (b + 18)])
  | 18 => ar 15 (fun j => C (119 + j))
  | _ => dead
def ownc (k : Nat) : Nat := if k ≤ 11 then 1 else if k < 24 then 5 else if k ≤ 31 then 13 else if k ≤ 40 then 14 else if k = 41 then 8 else if k < 102 then 9 + (k - 42) % 4 else if k = 102 then 15 else if k < 118 then 16 else if k = 118 then 17 else if k < 134 then 18 else if k < 146 then 2 + k % 2 else if k = 647 then 6 else 99
theorem own_1 {j : Nat} (h : j ≤ 11) : ownc j = 1 := if_pos h
theorem own_5 {j : Nat} (h : 12 ≤ j ∧ j < 24) : ownc j = 5 := by unfold ownc; rw [if_neg (by omega), if_pos (by omega)]
theorem own_13 {j : Nat} (h : 24 ≤ j ∧ j ≤ 31) : ownc j = 13 := by unfold ownc; rw [if_neg (by omega), if_neg (by omega), if_pos (by omega)]
theorem own_14 {j : Nat} (h : 32 ≤ j ∧ j ≤ 40) : ownc j = 14 := by unfold ownc; rw [if_neg (by omega), if_neg (by omega), if_neg (by omega), if_pos (by omega)]
theorem own_16 {j : Nat} (h : 103 ≤ j ∧ j < 118) : ownc j = 16 := by unfold ownc; rw [if_neg (by omega), if_neg (by omega), if_neg (by omega), if_neg (by omega), if_neg (by omega), if_neg (by omega), if_neg (by omega), if_pos (by omega)]
theorem own_18 {j : Nat} (h : 119 ≤ j ∧ j < 134) : ownc j = 18 := by unfold ownc; rw [if_neg (by omega), if_neg (by omega), if_neg (by omega), if_neg (by omega), if_neg (by omega), if_neg (by omega), if_neg (by omega), if_neg (by omega), if_neg (by omega), if_pos (by omega)]
theorem own_e {j : Nat} (h : 42 ≤ j ∧ j < 102) : ownc j = 9 + (j - 42) % 4 := by unfold ownc; rw [if_neg (by omega), if_neg (by omega), if_neg (by omega), if_neg (by omega), if_neg (by omega), if_pos (by omega)]
theorem own_t {j : Nat} (h : 134 ≤ j ∧ j < 146) : ownc j = 2 + j % 2 := by unfold ownc; rw [if_neg (by omega), if_neg (by omega), if_neg (by omega), if_neg (by omega), if_neg (by omega), if_neg (by omega), if_neg (by omega), if_neg (by omega), if_neg (by omega), if_neg (by omega), if_pos (by omega)]
theorem ow_2 {k : Nat} (h : k < 6) : ownc (134 + 2 * k) = 2 := by rw [own_t (by omega)]; omega
theorem ow_3 {k : Nat} (h : k < 6) : ownc (134 + 2 * k + 1) = 3 := by rw [own_t (by omega)]; omega
theorem ow_5 {k : Nat} (h : k < 12) : ownc (12 + k) = 5 := own_5 (by omega)
theorem ow_9 {k : Nat} (h : k < 15) : ownc (42 + 4 * k) = 9 := by rw [own_e (by omega)]; omega
theorem ow_10 {k : Nat} (h : k < 15) : ownc (42 + 4 * k + 1) = 10 := by rw [own_e (by omega)]; omega
theorem ow_11 {k : Nat} (h : k < 15) : ownc (42 + 4 * k + 2) = 11 := by rw [own_e (by omega)]; omega
theorem ow_12 {k : Nat} (h : k < 15) : ownc (42 + 4 * k + 3) = 12 := by rw [own_e (by omega)]; omega
theorem ow_14 {k : Nat} (h : k < 9) : ownc (32 + k) = 14 := own_14 (by omega)
theorem ow_16 {k : Nat} (h : k < 15) : ownc (103 + k) = 16 := own_16 (by omega)
theorem ow_18 {k : Nat} (h : k < 15) : ownc (119 + k) = 18 := own_18 (by omega)
theorem ar_congr {n : Nat} {f g : Nat → Int32} (h : ∀ j, j < n → f j = g j) : ar n f = ar n g := by
  have : tr n f = tr n g := by
    funext j
    unfold tr
    split
    · exact h j (by assumption)
    · rfl
  unfold ar
  rw [this]
theorem ar_upd {n k : Nat} {f : Nat → Int32} {x : Int32} (h : k < n) : (.inl (0, n, .inl (upd (tr n f) k x)) : va_E) = ar n (upd f k x) := by
  have : upd (tr n f) k x = tr n (upd f k x) := by
    funext j
    by_cases hj : j = k
    · subst hj; simp only [upd, tr, if_pos h, if_true]
    · simp only [upd, tr, if_neg hj]
  rw [this]
theorem ar_cpy {n : Nat} {f g : Nat → Int32} : (.inl (0, n, .inl (va_cpy (tr n f) (tr n g) 0 0 n)) : va_E) = ar n f := by
  have : va_cpy (tr n f) (tr n g) 0 0 n = tr n f := by
    funext j
    unfold va_cpy tr
    by_cases hj : j < n
    · rw [if_pos (by omega), if_pos (by omega), if_pos hj]
      congr 1
      omega
    · rw [if_neg (by omega), if_neg hj, if_neg hj]
  rw [this]
theorem trL_upd {n k : Nat} {f : Nat → Int64} {x : Int64} (h : k < n) : vp_updL (trL n f) k x = trL n (vp_updL f k x) := by
  funext j
  by_cases hj : j = k
  · subst hj; simp only [vp_updL, trL, if_pos h, if_true]
  · simp only [vp_updL, trL, if_neg hj]
theorem trL_cpy {n : Nat} {f g : Nat → Int64} : va_cpy (trL n f) (trL n g) 0 0 n = trL n f := by
  funext j
  unfold va_cpy trL
  by_cases hj : j < n
  · rw [if_pos (by omega), if_pos (by omega), if_pos hj]
    congr 1
    omega
  · rw [if_neg (by omega), if_neg hj, if_neg hj]
theorem tr_lt {n k : Nat} {f : Nat → Int32} (h : k < n) : tr n f k = f k := if_pos h
theorem trL_lt {n k : Nat} {f : Nat → Int64} (h : k < n) : trL n f k = f k := if_pos h
theorem sc_congr {b : Nat} {C C' : Nat → Int32} {W : Nat → Int64} : ∀ m, (∀ j, ownc j = m → C' j = C j) → sc b C' W m = sc b C W m
  | 0, _ => rfl
  | 1, h => by
    show (.inr (7, tkf b C') : va_E) = .inr (7, tkf b C)
    unfold tkf
    rw [h 0 rfl, h 1 rfl, h 2 rfl, h 3 rfl, h 4 rfl, h 5 rfl, h 6 rfl, h 7 rfl, h 8 rfl, h 9 rfl, h 10 rfl, h 11 rfl]
  | 2, h => ar_congr fun j hj => h _ (ow_2 hj)
  | 3, h => ar_congr fun j hj => h _ (ow_3 hj)
  | 4, _ => rfl
  | 5, h => ar_congr fun j hj => h _ (ow_5 hj)
  | 6, h => by
    show (.inr (4, [.ref (b + 7), .int (C' 647)]) : va_E) = .inr (4, [.ref (b + 7), .int (C 647)])
    rw [h 647 rfl]
  | 7, _ => rfl
  | 8, h => by
    show (.inr (2, ecf b C') : va_E) = .inr (2, ecf b C)
    unfold ecf
    rw [h 41 rfl]
  | 9, h => ar_congr fun j hj => h _ (ow_9 hj)
  | 10, h => ar_congr fun j hj => h _ (ow_10 hj)
  | 11, h => ar_congr fun j hj => h _ (ow_11 hj)
  | 12, h => ar_congr fun j hj => h _ (ow_12 hj)
  | 13, h => by
    show (.inr (3, hyf b C') : va_E) = .inr (3, hyf b C)
    unfold hyf
    rw [h 24 rfl, h 25 rfl, h 26 rfl, h 27 rfl, h 28 rfl, h 29 rfl, h 30 rfl, h 31 rfl]
  | 14, h => ar_congr fun j hj => h _ (ow_14 hj)
  | 15, h => by
    show (.inr (1, [.int (C' 102), .ref (b + 16)]) : va_E) = .inr (1, [.int (C 102), .ref (b + 16)])
    rw [h 102 rfl]
  | 16, h => ar_congr fun j hj => h _ (ow_16 hj)
  | 17, h => by
    show (.inr (1, [.int (C' 118), .ref (b + 18)]) : va_E) = .inr (1, [.int (C 118), .ref (b + 18)])
    rw [h 118 rfl]
  | 18, h => ar_congr fun j hj => h _ (ow_18 hj)
  | _ + 19, _ => rfl
def sH (h0 : Hp) (b : Nat) (C : Nat → Int32) (W : Nat → Int64) : Hp := (fun j => if b ≤ j ∧ j < b + 19 then sc b C W (j - b) else h0.1 j, h0.2)
section CW
variable {h0 : Hp} {b : Nat} {C : Nat → Int32} {W : Nat → Int64}
theorem sH_at {i : Nat} (hi : i < 19) : (sH h0 b C W).1 (b + i) = sc b C W i := by
  show (if b ≤ b + i ∧ b + i < b + 19 then sc b C W (b + i - b) else h0.1 (b + i)) = _
  rw [if_pos (by omega), Nat.add_sub_cancel_left]
theorem sH_22 {C' : Nat → Int32} {W' : Nat → Int64} : (sH h0 b C W).2 = (sH h0 b C' W').2 := rfl
theorem sH_0 : (sH h0 b C W).1 b = .inr (6, stf b) := sH_at (i := 0) (by decide)
theorem sH_out {j : Nat} (h : j < b ∨ b + 19 ≤ j) : (sH h0 b C W).1 j = h0.1 j := if_neg (by omega)
theorem sH_hs {C' : Nat → Int32} {W' : Nat → Int64} {i : Nat} {e : va_E} (hi : i < 19) (he : sc b C' W' i = e) (hc : ∀ m, m ≠ i → sc b C' W' m = sc b C W m) : hs (sH h0 b C W) (b + i) e = sH h0 b C' W' := by
  refine hp_ext (fun j => ?_) rfl
  show (if j = b + i then e else (sH h0 b C W).1 j) = (sH h0 b C' W').1 j
  by_cases hj : j = b + i
  · subst hj; rw [if_pos rfl, sH_at hi, he]
  · rw [if_neg hj]
    show (if b ≤ j ∧ j < b + 19 then sc b C W (j - b) else h0.1 j) = (if b ≤ j ∧ j < b + 19 then sc b C' W' (j - b) else h0.1 j)
    split
    · exact (hc _ (by omega)).symm
    · rfl
theorem sH_upd {k i : Nat} {x : Int32} {e : va_E} (hi : i < 19) (hk : ownc k = i) (he : sc b (upd C k x) W i = e) : hs (sH h0 b C W) (b + i) e = sH h0 b (upd C k x) W :=
  sH_hs hi he fun m hm => sc_congr m fun j hj => upd_n fun e => hm (by rw [← hj, e]; exact hk)
theorem sH_eq {C' : Nat → Int32} {W' : Nat → Int64} (h : ∀ m, m < 19 → sc b C' W' m = sc b C W m) : sH h0 b C' W' = sH h0 b C W := by
  refine hp_ext (fun j => ?_) rfl
  show (if b ≤ j ∧ j < b + 19 then sc b C' W' (j - b) else h0.1 j) = (if b ≤ j ∧ j < b + 19 then sc b C W (j - b) else h0.1 j)
  split
  · exact h _ (by omega)
  · rfl
theorem sH_self (h : ∀ i, i < 19 → h0.1 (b + i) = sc b C W i) : sH h0 b C W = h0 := by
  refine hp_ext (fun j => ?_) rfl
  show (if b ≤ j ∧ j < b + 19 then sc b C W (j - b) else h0.1 j) = h0.1 j
  split
  · rw [← h _ (by omega), show b + (j - b) = j by omega]
  · rfl
theorem sH_comm {b2 : Nat} {C2 : Nat → Int32} {W2 : Nat → Int64} (hd : b + 19 ≤ b2 ∨ b2 + 19 ≤ b) : sH (sH h0 b2 C2 W2) b C W = sH (sH h0 b C W) b2 C2 W2 := by
  refine hp_ext (fun j => ?_) rfl
  show (if b ≤ j ∧ j < b + 19 then sc b C W (j - b) else (if b2 ≤ j ∧ j < b2 + 19 then sc b2 C2 W2 (j - b2) else h0.1 j)) = (if b2 ≤ j ∧ j < b2 + 19 then sc b2 C2 W2 (j - b2) else (if b ≤ j ∧ j < b + 19 then sc b C W (j - b) else h0.1 j))
  by_cases h1 : b ≤ j ∧ j < b + 19
  · rw [if_pos h1, if_neg (by omega), if_pos h1]
  · rw [if_neg h1, if_neg h1]
theorem sH_far {b2 i : Nat} {C2 : Nat → Int32} {W2 : Nat → Int64} (hd : b + 19 ≤ b2 ∨ b2 + 19 ≤ b) (hi : i < 19) : (sH (sH h0 b2 C2 W2) b C W).1 (b2 + i) = sc b2 C2 W2 i := by
  rw [sH_out (by omega), sH_at hi]
variable {om : OM} {l : Launch} {M : MI} {B : Nat × Nat} {pc : Nat} {L : List (Option Value)} {S : List Value} {Post : Out → Hp → Prop}
theorem cs_get0 {own : String} {idx f : Nat} {fin : Bool} {ty : FieldType} {v : Value} (d : decode (mi_by M) pc = .ok (.getfield idx, 3)) (ho : (mi_nm M).cls = own) (hF : FLD own idx 6 f fin ty) (hv : (stf b)[f]? = some v) (k : Runs om l M B (pc + 3) L (v :: S) (sH h0 b C W) Post) : Runs om l M B pc L (.ref b :: S) (sH h0 b C W) Post := r_getfield d ho hF sH_0 hv k
theorem cs_get {own : String} {idx ci f i : Nat} {fin : Bool} {ty : FieldType} {fs : List Value} {v : Value} (d : decode (mi_by M) pc = .ok (.getfield idx, 3)) (ho : (mi_nm M).cls = own) (hF : FLD own idx ci f fin ty) (hi : i < 19) (ha : sc b C W i = .inr (ci, fs)) (hv : fs[f]? = some v) (k : Runs om l M B (pc + 3) L (v :: S) (sH h0 b C W) Post) : Runs om l M B pc L (.ref (b + i) :: S) (sH h0 b C W) Post := r_getfield d ho hF ((sH_at hi).trans ha) hv k
theorem cs_put {own : String} {idx ci f i : Nat} (k : Nat) {fs : List Value} {x : Int32} (d : decode (mi_by M) pc = .ok (.putfield idx, 3)) (ho : (mi_nm M).cls = own) (hF : FLD own idx ci f false .int) (hi : i < 19) (ha : sc b C W i = .inr (ci, fs)) (hl : f < fs.length) (hk : ownc k = i) (he : sc b (upd C k x) W i = .inr (ci, fs.set f (.int x))) (kk : Runs om l M B (pc + 3) L S (sH h0 b (upd C k x) W) Post) : Runs om l M B pc L (.int x :: .ref (b + i) :: S) (sH h0 b C W) Post :=
  r_putfield d ho hF ((sH_at hi).trans ha) (fun _ => rfl) (fun _ => rfl) hl (by rw [sH_upd hi hk he]; exact kk)
theorem cs_ld {i n k : Nat} {f : Nat → Int32} {x : Int32} (d : decode (mi_by M) pc = .ok (.iaload, 1)) (hi : i < 19) (ha : sc b C W i = ar n f) (hk : x = nI k) (hl : k < n) (hn : n ≤ 15) (kk : Runs om l M B (pc + 1) L (.int (f k) :: S) (sH h0 b C W) Post) : Runs om l M B pc L (.int x :: .ref (b + i) :: S) (sH h0 b C W) Post :=
  r_iaload (n := n) (f := tr n f) d ((sH_at hi).trans ha) (vin_n hk hl (by omega)) (by rw [cl_n hk hl (by omega), tr_lt hl]; exact kk)
theorem cs_st {i n k : Nat} (q : Nat) {f : Nat → Int32} {x y : Int32} (d : decode (mi_by M) pc = .ok (.iastore, 1)) (hi : i < 19) (ha : sc b C W i = ar n f) (hk : y = nI k) (hl : k < n) (hn : n ≤ 15) (hq : ownc q = i) (he : sc b (upd C q x) W i = ar n (upd f k x)) (kk : Runs om l M B (pc + 1) L S (sH h0 b (upd C q x) W) Post) : Runs om l M B pc L (.int x :: .int y :: .ref (b + i) :: S) (sH h0 b C W) Post :=
  r_iastore (n := n) (f := tr n f) d ((sH_at hi).trans ha) (vin_n hk hl (by omega)) (by rw [cl_n hk hl (by omega), ar_upd hl, sH_upd hi hq he]; exact kk)
theorem cs_len {i n : Nat} {f : Nat → Int32} (d : decode (mi_by M) pc = .ok (.arraylength, 1)) (hi : i < 19) (ha : sc b C W i = ar n f) (kk : Runs om l M B (pc + 1) L (.int (nI n) :: S) (sH h0 b C W) Post) : Runs om l M B pc L (.ref (b + i) :: S) (sH h0 b C W) Post :=
  r_alen d ((sH_at hi).trans ha) (by decide) rfl kk
theorem cs_lenL (d : decode (mi_by M) pc = .ok (.arraylength, 1)) (kk : Runs om l M B (pc + 1) L (.int (nI 8) :: S) (sH h0 b C W) Post) : Runs om l M B pc L (.ref (b + 7) :: S) (sH h0 b C W) Post :=
  r_alen (t := 2) (n := 8) d (sH_at (by decide)) (by decide) rfl kk
theorem cs_ldL {k : Nat} {x : Int32} (d : decode (mi_by M) pc = .ok (.laload, 1)) (hk : x = nI k) (hl : k < 8) (kk : Runs om l M B (pc + 1) L (.long (W k) :: S) (sH h0 b C W) Post) : Runs om l M B pc L (.int x :: .ref (b + 7) :: S) (sH h0 b C W) Post :=
  r_laload (n := 8) (f := trL 8 W) d (sH_at (by decide)) (vin_n hk hl (by decide)) (by rw [cl_n hk hl (by decide), trL_lt hl]; exact kk)
theorem sH_W {W2 : Nat → Int64} : hs (sH h0 b C W) (b + 7) (.inl (2, 8, .inr (.inl (trL 8 W2)))) = sH h0 b C W2 :=
  sH_hs (C' := C) (W' := W2) (i := 7) (by decide) rfl (fun m hm => by
      match m, hm with
      | 0, _ => rfl | 1, _ => rfl | 2, _ => rfl | 3, _ => rfl | 4, _ => rfl | 5, _ => rfl | 6, _ => rfl
      | 8, _ => rfl | 9, _ => rfl | 10, _ => rfl | 11, _ => rfl | 12, _ => rfl | 13, _ => rfl | 14, _ => rfl | 15, _ => rfl | 16, _ => rfl | 17, _ => rfl | 18, _ => rfl
      | m + 19, _ => rfl)
theorem cs_stL {k : Nat} {x : Int64} {y : Int32} (d : decode (mi_by M) pc = .ok (.lastore, 1)) (hk : y = nI k) (hl : k < 8) (kk : Runs om l M B (pc + 1) L S (sH h0 b C (vp_updL W k x)) Post) : Runs om l M B pc L (.long x :: .int y :: .ref (b + 7) :: S) (sH h0 b C W) Post :=
  r_lastore (n := 8) (f := trL 8 W) d (sH_at (by decide)) (vin_n hk hl (by decide)) (by
    rw [cl_n hk hl (by decide), trL_upd hl]
    rw [sH_W]
    exact kk)
theorem st_2 {k : Nat} {x : Int32} : sc b (upd C (134 + 2 * k) x) W 2 = ar 6 (upd (fun j => C (134 + 2 * j)) k x) := ar_congr fun j _ => by
  unfold upd
  by_cases hj : j = k
  · subst hj; rw [if_pos rfl, if_pos rfl]
  · rw [if_neg (by omega), if_neg hj]
theorem st_3 {k : Nat} {x : Int32} : sc b (upd C (134 + 2 * k + 1) x) W 3 = ar 6 (upd (fun j => C (134 + 2 * j + 1)) k x) := ar_congr fun j _ => by
  unfold upd
  by_cases hj : j = k
  · subst hj; rw [if_pos rfl, if_pos rfl]
  · rw [if_neg (by omega), if_neg hj]
theorem st_5 {k : Nat} {x : Int32} : sc b (upd C (12 + k) x) W 5 = ar 12 (upd (fun j => C (12 + j)) k x) := ar_congr fun j _ => by
  unfold upd
  by_cases hj : j = k
  · subst hj; rw [if_pos rfl, if_pos rfl]
  · rw [if_neg (by omega), if_neg hj]
theorem st_9 {k : Nat} {x : Int32} : sc b (upd C (42 + 4 * k) x) W 9 = ar 15 (upd (fun j => C (42 + 4 * j)) k x) := ar_congr fun j _ => by
  unfold upd
  by_cases hj : j = k
  · subst hj; rw [if_pos rfl, if_pos rfl]
  · rw [if_neg (by omega), if_neg hj]
theorem st_10 {k : Nat} {x : Int32} : sc b (upd C (42 + 4 * k + 1) x) W 10 = ar 15 (upd (fun j => C (42 + 4 * j + 1)) k x) := ar_congr fun j _ => by
  unfold upd
  by_cases hj : j = k
  · subst hj; rw [if_pos rfl, if_pos rfl]
  · rw [if_neg (by omega), if_neg hj]
theorem st_11 {k : Nat} {x : Int32} : sc b (upd C (42 + 4 * k + 2) x) W 11 = ar 15 (upd (fun j => C (42 + 4 * j + 2)) k x) := ar_congr fun j _ => by
  unfold upd
  by_cases hj : j = k
  · subst hj; rw [if_pos rfl, if_pos rfl]
  · rw [if_neg (by omega), if_neg hj]
theorem st_12 {k : Nat} {x : Int32} : sc b (upd C (42 + 4 * k + 3) x) W 12 = ar 15 (upd (fun j => C (42 + 4 * j + 3)) k x) := ar_congr fun j _ => by
  unfold upd
  by_cases hj : j = k
  · subst hj; rw [if_pos rfl, if_pos rfl]
  · rw [if_neg (by omega), if_neg hj]
theorem st_14 {k : Nat} {x : Int32} : sc b (upd C (32 + k) x) W 14 = ar 9 (upd (fun j => C (32 + j)) k x) := ar_congr fun j _ => by
  unfold upd
  by_cases hj : j = k
  · subst hj; rw [if_pos rfl, if_pos rfl]
  · rw [if_neg (by omega), if_neg hj]
theorem st_16 {k : Nat} {x : Int32} : sc b (upd C (103 + k) x) W 16 = ar 15 (upd (fun j => C (103 + j)) k x) := ar_congr fun j _ => by
  unfold upd
  by_cases hj : j = k
  · subst hj; rw [if_pos rfl, if_pos rfl]
  · rw [if_neg (by omega), if_neg hj]
end CW
