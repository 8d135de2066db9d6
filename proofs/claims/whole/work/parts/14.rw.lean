/-! the reference's world: object 119, its rows 120 s, 121 aside, 122 saved, 123 text, 124 numbers -/
def mfs (I : Nat → Int32) (J : Nat → Int64) : List Value := [.int (I 0), .ref 120, .ref 121, .ref 122, .int (I 4), .ref 123, .int (I 6), .int (I 7), .long (J 8), .ref 124, .long (J 10)]
/-- I: whole fields by place; J: long fields; A: s; a: aside; v: saved; t: text; n: numbers; over a heap h0 -/
def rH (h0 : Hp) (I : Nat → Int32) (J : Nat → Int64) (A a v t n : Nat → Int32) : Hp := (fun j => if j = 119 then .inr (9, mfs I J) else if j = 120 then .inl (0, 647, .inl A) else if j = 121 then .inl (0, 647, .inl a) else if j = 122 then .inl (0, 2588, .inl v) else if j = 123 then .inl (1, 150, .inl t) else if j = 124 then .inl (0, 5, .inl n) else h0.1 j, h0.2)
section RW
variable {h0 : Hp} {I : Nat → Int32} {J : Nat → Int64} {A a v t n : Nat → Int32}
theorem hp_ext {h1 h2 : Hp} (e1 : ∀ j, h1.1 j = h2.1 j) (e2 : h1.2 = h2.2) : h1 = h2 := by
  obtain ⟨f, x⟩ := h1
  obtain ⟨g, y⟩ := h2
  have e3 : f = g := funext e1
  subst e3
  cases e2
  rfl
theorem rH_A (A' : Nat → Int32) : hs (rH h0 I J A a v t n) 120 (.inl (0, 647, .inl A')) = rH h0 I J A' a v t n := by
  refine hp_ext (fun j => ?_) rfl
  show (if j = 120 then _ else (rH h0 I J A a v t n).1 j) = (rH h0 I J A' a v t n).1 j
  by_cases hj : j = 120
  · subst hj; rfl
  · rw [if_neg hj]; simp only [rH, if_neg hj]
theorem rH_a (a' : Nat → Int32) : hs (rH h0 I J A a v t n) 121 (.inl (0, 647, .inl a')) = rH h0 I J A a' v t n := by
  refine hp_ext (fun j => ?_) rfl
  show (if j = 121 then _ else (rH h0 I J A a v t n).1 j) = (rH h0 I J A a' v t n).1 j
  by_cases hj : j = 121
  · subst hj; rfl
  · rw [if_neg hj]; simp only [rH, if_neg hj]
theorem rH_v (v' : Nat → Int32) : hs (rH h0 I J A a v t n) 122 (.inl (0, 2588, .inl v')) = rH h0 I J A a v' t n := by
  refine hp_ext (fun j => ?_) rfl
  show (if j = 122 then _ else (rH h0 I J A a v t n).1 j) = (rH h0 I J A a v' t n).1 j
  by_cases hj : j = 122
  · subst hj; rfl
  · rw [if_neg hj]; simp only [rH, if_neg hj]
theorem rH_t (t' : Nat → Int32) : hs (rH h0 I J A a v t n) 123 (.inl (1, 150, .inl t')) = rH h0 I J A a v t' n := by
  refine hp_ext (fun j => ?_) rfl
  show (if j = 123 then _ else (rH h0 I J A a v t n).1 j) = (rH h0 I J A a v t' n).1 j
  by_cases hj : j = 123
  · subst hj; rfl
  · rw [if_neg hj]; simp only [rH, if_neg hj]
theorem rH_n (n' : Nat → Int32) : hs (rH h0 I J A a v t n) 124 (.inl (0, 5, .inl n')) = rH h0 I J A a v t n' := by
  refine hp_ext (fun j => ?_) rfl
  show (if j = 124 then _ else (rH h0 I J A a v t n).1 j) = (rH h0 I J A a v t n').1 j
  by_cases hj : j = 124
  · subst hj; rfl
  · rw [if_neg hj]; simp only [rH, if_neg hj]
theorem rH_o (I' : Nat → Int32) (J' : Nat → Int64) : hs (rH h0 I J A a v t n) 119 (.inr (9, mfs I' J')) = rH h0 I' J' A a v t n := by
  refine hp_ext (fun j => ?_) rfl
  show (if j = 119 then _ else (rH h0 I J A a v t n).1 j) = (rH h0 I' J' A a v t n).1 j
  by_cases hj : j = 119
  · subst hj; rfl
  · rw [if_neg hj]; simp only [rH, if_neg hj]
/-- a long field given -/
def updJ (J : Nat → Int64) (k : Nat) (x : Int64) : Nat → Int64 := fun j => if j = k then x else J j
theorem mfs_0 (x : Int32) : (mfs I J).set 0 (.int x) = mfs (upd I 0 x) J := rfl
theorem mfs_4 (x : Int32) : (mfs I J).set 4 (.int x) = mfs (upd I 4 x) J := rfl
theorem mfs_6 (x : Int32) : (mfs I J).set 6 (.int x) = mfs (upd I 6 x) J := rfl
theorem mfs_7 (x : Int32) : (mfs I J).set 7 (.int x) = mfs (upd I 7 x) J := rfl
theorem mfs_8 (x : Int64) : (mfs I J).set 8 (.long x) = mfs I (updJ J 8 x) := rfl
theorem mfs_10 (x : Int64) : (mfs I J).set 10 (.long x) = mfs I (updJ J 10 x) := rfl
variable {om : OM} {l : Launch} {M : MI} {B : Nat × Nat} {pc : Nat} {L : List (Option Value)} {S : List Value} {Post : Out → Hp → Prop}
theorem rs_get {own : String} {idx f : Nat} {fin : Bool} {ty : FieldType} {x : Value} (d : decode (mi_by M) pc = .ok (.getfield idx, 3)) (ho : (mi_nm M).cls = own) (hF : FLD own idx 9 f fin ty) (hv : (mfs I J)[f]? = some x) (k : Runs om l M B (pc + 3) L (x :: S) (rH h0 I J A a v t n) Post) : Runs om l M B pc L (.ref 119 :: S) (rH h0 I J A a v t n) Post := r_getfield d ho hF rfl hv k
theorem rs_putI {own : String} {idx f : Nat} {x : Int32} (I' : Nat → Int32) (d : decode (mi_by M) pc = .ok (.putfield idx, 3)) (ho : (mi_nm M).cls = own) (hF : FLD own idx 9 f false .int) (hl : f < 11) (hm : (mfs I J).set f (.int x) = mfs I' J) (k : Runs om l M B (pc + 3) L S (rH h0 I' J A a v t n) Post) : Runs om l M B pc L (.int x :: .ref 119 :: S) (rH h0 I J A a v t n) Post :=
  r_putfield (fs := mfs I J) d ho hF rfl (fun _ => rfl) (fun _ => rfl) hl (by rw [hm, rH_o]; exact k)
theorem rs_putJ {own : String} {idx f : Nat} {x : Int64} (J' : Nat → Int64) (d : decode (mi_by M) pc = .ok (.putfield idx, 3)) (ho : (mi_nm M).cls = own) (hF : FLD own idx 9 f false .long) (hl : f < 11) (hm : (mfs I J).set f (.long x) = mfs I J') (k : Runs om l M B (pc + 3) L S (rH h0 I J' A a v t n) Post) : Runs om l M B pc L (.long x :: .ref 119 :: S) (rH h0 I J A a v t n) Post :=
  r_putfield (fs := mfs I J) d ho hF rfl (fun _ => rfl) (fun _ => rfl) hl (by rw [hm, rH_o]; exact k)
theorem rs_ld {i : Int32} (k : Nat) (d : decode (mi_by M) pc = .ok (.iaload, 1)) (hk : i = nI k) (hl : k < 647) (kk : Runs om l M B (pc + 1) L (.int (A k) :: S) (rH h0 I J A a v t n) Post) : Runs om l M B pc L (.int i :: .ref 120 :: S) (rH h0 I J A a v t n) Post :=
  r_iaload (n := 647) (f := A) d rfl (vin_n hk hl (by decide)) (by rw [cl_n hk hl (by decide)]; exact kk)
theorem rs_st {i x : Int32} (k : Nat) (d : decode (mi_by M) pc = .ok (.iastore, 1)) (hk : i = nI k) (hl : k < 647) (kk : Runs om l M B (pc + 1) L S (rH h0 I J (upd A k x) a v t n) Post) : Runs om l M B pc L (.int x :: .int i :: .ref 120 :: S) (rH h0 I J A a v t n) Post :=
  r_iastore (n := 647) (f := A) d rfl (vin_n hk hl (by decide)) (by rw [cl_n hk hl (by decide), rH_A]; exact kk)
theorem rs_lda {i : Int32} (k : Nat) (d : decode (mi_by M) pc = .ok (.iaload, 1)) (hk : i = nI k) (hl : k < 647) (kk : Runs om l M B (pc + 1) L (.int (a k) :: S) (rH h0 I J A a v t n) Post) : Runs om l M B pc L (.int i :: .ref 121 :: S) (rH h0 I J A a v t n) Post :=
  r_iaload (n := 647) (f := a) d rfl (vin_n hk hl (by decide)) (by rw [cl_n hk hl (by decide)]; exact kk)
theorem rs_sta {i x : Int32} (k : Nat) (d : decode (mi_by M) pc = .ok (.iastore, 1)) (hk : i = nI k) (hl : k < 647) (kk : Runs om l M B (pc + 1) L S (rH h0 I J A (upd a k x) v t n) Post) : Runs om l M B pc L (.int x :: .int i :: .ref 121 :: S) (rH h0 I J A a v t n) Post :=
  r_iastore (n := 647) (f := a) d rfl (vin_n hk hl (by decide)) (by rw [cl_n hk hl (by decide), rH_a]; exact kk)
theorem rs_ldv {i : Int32} (k : Nat) (d : decode (mi_by M) pc = .ok (.iaload, 1)) (hk : i = nI k) (hl : k < 2588) (kk : Runs om l M B (pc + 1) L (.int (v k) :: S) (rH h0 I J A a v t n) Post) : Runs om l M B pc L (.int i :: .ref 122 :: S) (rH h0 I J A a v t n) Post :=
  r_iaload (n := 2588) (f := v) d rfl (vin_n hk hl (by decide)) (by rw [cl_n hk hl (by decide)]; exact kk)
theorem rs_stv {i x : Int32} (k : Nat) (d : decode (mi_by M) pc = .ok (.iastore, 1)) (hk : i = nI k) (hl : k < 2588) (kk : Runs om l M B (pc + 1) L S (rH h0 I J A a (upd v k x) t n) Post) : Runs om l M B pc L (.int x :: .int i :: .ref 122 :: S) (rH h0 I J A a v t n) Post :=
  r_iastore (n := 2588) (f := v) d rfl (vin_n hk hl (by decide)) (by rw [cl_n hk hl (by decide), rH_v]; exact kk)
theorem rs_ldt {i : Int32} (k : Nat) (d : decode (mi_by M) pc = .ok (.baload, 1)) (hk : i = nI k) (hl : k < 150) (kk : Runs om l M B (pc + 1) L (.int (t k) :: S) (rH h0 I J A a v t n) Post) : Runs om l M B pc L (.int i :: .ref 123 :: S) (rH h0 I J A a v t n) Post :=
  r_baload (n := 150) (f := t) d rfl (vin_n hk hl (by decide)) (by rw [cl_n hk hl (by decide)]; exact kk)
theorem rs_stt {i x : Int32} (k : Nat) (d : decode (mi_by M) pc = .ok (.bastore, 1)) (hk : i = nI k) (hl : k < 150) (kk : Runs om l M B (pc + 1) L S (rH h0 I J A a v (upd t k (vp_nar .byte x)) n) Post) : Runs om l M B pc L (.int x :: .int i :: .ref 123 :: S) (rH h0 I J A a v t n) Post :=
  r_bastore (n := 150) (f := t) d rfl (vin_n hk hl (by decide)) (by rw [cl_n hk hl (by decide), rH_t]; exact kk)
theorem rs_ldn {i : Int32} (k : Nat) (d : decode (mi_by M) pc = .ok (.iaload, 1)) (hk : i = nI k) (hl : k < 5) (kk : Runs om l M B (pc + 1) L (.int (n k) :: S) (rH h0 I J A a v t n) Post) : Runs om l M B pc L (.int i :: .ref 124 :: S) (rH h0 I J A a v t n) Post :=
  r_iaload (n := 5) (f := n) d rfl (vin_n hk hl (by decide)) (by rw [cl_n hk hl (by decide)]; exact kk)
theorem rs_stn {i x : Int32} (k : Nat) (d : decode (mi_by M) pc = .ok (.iastore, 1)) (hk : i = nI k) (hl : k < 5) (kk : Runs om l M B (pc + 1) L S (rH h0 I J A a v t (upd n k x)) Post) : Runs om l M B pc L (.int x :: .int i :: .ref 124 :: S) (rH h0 I J A a v t n) Post :=
  r_iastore (n := 5) (f := n) d rfl (vin_n hk hl (by decide)) (by rw [cl_n hk hl (by decide), rH_n]; exact kk)
theorem rs_call {own : String} {idx n9 : Nat} {z : MI} {vs : List Value} {r : Option Value} {h2 : Hp} (d : decode (mi_by M) pc = .ok (.invokevirtual idx, 3)) (ho : (mi_nm M).cls = own) (hz : CLV own idx z n9) (hc : (mi_nm z).cls = RX11) (hh : mi_hh z = []) (hfit : fitsIn z M) (hlen : vs.length = n9) (hal : (argL (.ref 119 :: vs)).length ≤ mi_ml z) (hl : l.stackTraces = false) (hst : (S.map fun v => v.category).sum ≤ 8)
    (kz : Runs om l z (0, 0) 0 (entL (mi_ml z) (.ref 119 :: vs)) [] (rH h0 I J A a v t n) (Det r h2)) (h22 : h2.2 = h0.2)
    (k : Runs om l M B (pc + 3) L (r.toList ++ S) h2 Post) : Runs om l M B pc L (vs.reverse ++ .ref 119 :: S) (rH h0 I J A a v t n) Post :=
  q_callV (ci := 9) (fs := mfs I J) (T := TX11) (N := 11) d ho hz hh hfit hlen hal hl rfl (by rw [hc]; rfl) hst kz h22 k
end RW
