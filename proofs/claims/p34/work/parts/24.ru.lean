/-! the reference's methods that ask -/
def R_sft (x : Int32) : Int32 := if x = 3 then 0 else if x = 4 then 1 else 2
def R_echoOf (A : Nat → Int32) (e w : Nat) (x : Int32) : Int32 := if 3 ≤ x then (A (42 + 4 * e + 3) >>> (R_sft x &&& 31)) &&& 1 else A (42 + 4 * e + w)
def R_isM (A : Nat → Int32) (k : Nat) : Int32 := if A (146 + k / 20) = 1 then 1 else 0
def R_gl (A : Nat → Int32) : Int32 := if A 26 = -1 then -1 else A 0 - A 26
def R_gauge (A : Nat → Int32) (k : Nat) : Int32 := if k = 0 then A 24 else if k = 1 then A 25 else if k = 2 then A 26 else if k = 3 then R_gl A else if k = 4 then A 27 else if k = 5 then A 28 else if k = 6 then R_mkd A 501 else if k = 7 then A 41 else if k = 8 then A 31 else if k = 9 then R_kp A (cl (A 31)) else if k = 10 then R_median A else if k = 11 then A 29 else A 30
