/-! the digest -/
def R_mx (h : Int64) (x : Int32) : Int64 := 31 * h + x.toInt64
def R_mixN (f : Nat → Int32) (k : Nat) (h : Int64) : Int64 := itN (fun j x => R_mx x (f j)) k h
theorem mixN_0 {f : Nat → Int32} {h : Int64} : R_mixN f 0 h = h := rfl
theorem mixN_s {f : Nat → Int32} {k : Nat} {h : Int64} : R_mixN f (k + 1) h = R_mx (R_mixN f k h) (f k) := by simp only [R_mixN, itN_s]
def R_pv (A : Nat → Int32) (k : Nat) : Int32 := if A 31 ≤ nI k then -1 else A (32 + k)
def R_ev (A : Nat → Int32) (j : Nat) : Int32 := R_echoOf A (j / 6) (j % 6) (nI (j % 6))
def R_dig (I A : Nat → Int32) (K4 K5 K41 L : Nat) : Int64 := R_mixN (fun j => A (146 + j)) 501 (R_mixN (R_pv A) L (R_mixN (R_ev A) (6 * K41) (R_mixN (fun j => R_angle A (nI j)) K5 (R_mixN (fun j => A (134 + j)) (2 * K4) (R_mixN (R_gauge A) 13 (R_mixN (fun j => A j) 24 (R_mx (R_mx 18907 (I 4)) (I 6))))))))
