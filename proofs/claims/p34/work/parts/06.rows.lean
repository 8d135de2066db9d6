theorem r_iconst {om : OM} {l : Launch} {M : MI} {B : Nat × Nat} {pc : Nat} {L : List (Option Value)} {S : List Value} {h : Hp} {Post : Out → Hp → Prop} {n : Int} {v : Int32} (d : decode (mi_by M) pc = .ok (.iconst n, 1)) (hv : Int32.ofInt n = v) (k : Runs om l M B (pc + 1) L (.int v :: S) h Post) : Runs om l M B (pc) L (S) h Post := by
  intro p e R s m args below meth c H locs cells slots Q ls C hS hL hc hs KR KX
  exact lv_iconst C.1 C.2.1 d hv (k p e R s m args below meth c H locs cells slots Q ls C hS hL hc hs KR KX)
theorem r_bipush {om : OM} {l : Launch} {M : MI} {B : Nat × Nat} {pc : Nat} {L : List (Option Value)} {S : List Value} {h : Hp} {Post : Out → Hp → Prop} {n : Int} {v : Int32} (d : decode (mi_by M) pc = .ok (.bipush n, 2)) (hv : (Int8.ofInt n).toInt32 = v) (k : Runs om l M B (pc + 2) L (.int v :: S) h Post) : Runs om l M B (pc) L (S) h Post := by
  intro p e R s m args below meth c H locs cells slots Q ls C hS hL hc hs KR KX
  exact lv_bipush C.1 C.2.1 d hv (k p e R s m args below meth c H locs cells slots Q ls C hS hL hc hs KR KX)
theorem r_sipush {om : OM} {l : Launch} {M : MI} {B : Nat × Nat} {pc : Nat} {L : List (Option Value)} {S : List Value} {h : Hp} {Post : Out → Hp → Prop} {n : Int} {v : Int32} (d : decode (mi_by M) pc = .ok (.sipush n, 3)) (hv : (Int16.ofInt n).toInt32 = v) (k : Runs om l M B (pc + 3) L (.int v :: S) h Post) : Runs om l M B (pc) L (S) h Post := by
  intro p e R s m args below meth c H locs cells slots Q ls C hS hL hc hs KR KX
  exact lv_sipush C.1 C.2.1 d hv (k p e R s m args below meth c H locs cells slots Q ls C hS hL hc hs KR KX)
theorem r_lconst {om : OM} {l : Launch} {M : MI} {B : Nat × Nat} {pc : Nat} {L : List (Option Value)} {S : List Value} {h : Hp} {Post : Out → Hp → Prop} {n : Fin 2} {v : Int64} (d : decode (mi_by M) pc = .ok (.lconst n, 1)) (hv : Int64.ofNat (n : Nat) = v) (k : Runs om l M B (pc + 1) L (.long v :: S) h Post) : Runs om l M B (pc) L (S) h Post := by
  intro p e R s m args below meth c H locs cells slots Q ls C hS hL hc hs KR KX
  exact lv_lconst C.1 C.2.1 d hv (k p e R s m args below meth c H locs cells slots Q ls C hS hL hc hs KR KX)
theorem r_null {om : OM} {l : Launch} {M : MI} {B : Nat × Nat} {pc : Nat} {L : List (Option Value)} {S : List Value} {h : Hp} {Post : Out → Hp → Prop}  (d : decode (mi_by M) pc = .ok (.aconst_null, 1))  (k : Runs om l M B (pc + 1) L (.null :: S) h Post) : Runs om l M B (pc) L (S) h Post := by
  intro p e R s m args below meth c H locs cells slots Q ls C hS hL hc hs KR KX
  exact lv_null C.1 C.2.1 d  (k p e R s m args below meth c H locs cells slots Q ls C hS hL hc hs KR KX)
theorem r_iadd {om : OM} {l : Launch} {M : MI} {B : Nat × Nat} {pc : Nat} {L : List (Option Value)} {S : List Value} {h : Hp} {Post : Out → Hp → Prop} {x y : Int32} (d : decode (mi_by M) pc = .ok (.iadd, 1))  (k : Runs om l M B (pc + 1) L (.int (x + y) :: S) h Post) : Runs om l M B (pc) L (.int y :: .int x :: S) h Post := by
  intro p e R s m args below meth c H locs cells slots Q ls C hS hL hc hs KR KX
  exact lv_iadd C.1 C.2.1 d  (k p e R s m args below meth c H locs cells slots Q ls C hS hL hc hs KR KX)
theorem r_isub {om : OM} {l : Launch} {M : MI} {B : Nat × Nat} {pc : Nat} {L : List (Option Value)} {S : List Value} {h : Hp} {Post : Out → Hp → Prop} {x y : Int32} (d : decode (mi_by M) pc = .ok (.isub, 1))  (k : Runs om l M B (pc + 1) L (.int (x - y) :: S) h Post) : Runs om l M B (pc) L (.int y :: .int x :: S) h Post := by
  intro p e R s m args below meth c H locs cells slots Q ls C hS hL hc hs KR KX
  exact lv_isub C.1 C.2.1 d  (k p e R s m args below meth c H locs cells slots Q ls C hS hL hc hs KR KX)
theorem r_imul {om : OM} {l : Launch} {M : MI} {B : Nat × Nat} {pc : Nat} {L : List (Option Value)} {S : List Value} {h : Hp} {Post : Out → Hp → Prop} {x y : Int32} (d : decode (mi_by M) pc = .ok (.imul, 1))  (k : Runs om l M B (pc + 1) L (.int (x * y) :: S) h Post) : Runs om l M B (pc) L (.int y :: .int x :: S) h Post := by
  intro p e R s m args below meth c H locs cells slots Q ls C hS hL hc hs KR KX
  exact lv_imul C.1 C.2.1 d  (k p e R s m args below meth c H locs cells slots Q ls C hS hL hc hs KR KX)
theorem r_iand {om : OM} {l : Launch} {M : MI} {B : Nat × Nat} {pc : Nat} {L : List (Option Value)} {S : List Value} {h : Hp} {Post : Out → Hp → Prop} {x y : Int32} (d : decode (mi_by M) pc = .ok (.iand, 1))  (k : Runs om l M B (pc + 1) L (.int (x &&& y) :: S) h Post) : Runs om l M B (pc) L (.int y :: .int x :: S) h Post := by
  intro p e R s m args below meth c H locs cells slots Q ls C hS hL hc hs KR KX
  exact lv_iand C.1 C.2.1 d  (k p e R s m args below meth c H locs cells slots Q ls C hS hL hc hs KR KX)
theorem r_ior {om : OM} {l : Launch} {M : MI} {B : Nat × Nat} {pc : Nat} {L : List (Option Value)} {S : List Value} {h : Hp} {Post : Out → Hp → Prop} {x y : Int32} (d : decode (mi_by M) pc = .ok (.ior, 1))  (k : Runs om l M B (pc + 1) L (.int (x ||| y) :: S) h Post) : Runs om l M B (pc) L (.int y :: .int x :: S) h Post := by
  intro p e R s m args below meth c H locs cells slots Q ls C hS hL hc hs KR KX
  exact lv_ior C.1 C.2.1 d  (k p e R s m args below meth c H locs cells slots Q ls C hS hL hc hs KR KX)
theorem r_ishr {om : OM} {l : Launch} {M : MI} {B : Nat × Nat} {pc : Nat} {L : List (Option Value)} {S : List Value} {h : Hp} {Post : Out → Hp → Prop} {x y : Int32} (d : decode (mi_by M) pc = .ok (.ishr, 1))  (k : Runs om l M B (pc + 1) L (.int (x >>> (y &&& 31)) :: S) h Post) : Runs om l M B (pc) L (.int y :: .int x :: S) h Post := by
  intro p e R s m args below meth c H locs cells slots Q ls C hS hL hc hs KR KX
  exact lv_ishr C.1 C.2.1 d  (k p e R s m args below meth c H locs cells slots Q ls C hS hL hc hs KR KX)
theorem r_ishl {om : OM} {l : Launch} {M : MI} {B : Nat × Nat} {pc : Nat} {L : List (Option Value)} {S : List Value} {h : Hp} {Post : Out → Hp → Prop} {x y : Int32} (d : decode (mi_by M) pc = .ok (.ishl, 1))  (k : Runs om l M B (pc + 1) L (.int (x <<< (y &&& 31)) :: S) h Post) : Runs om l M B (pc) L (.int y :: .int x :: S) h Post := by
  intro p e R s m args below meth c H locs cells slots Q ls C hS hL hc hs KR KX
  exact lv_ishl C.1 C.2.1 d  (k p e R s m args below meth c H locs cells slots Q ls C hS hL hc hs KR KX)
theorem r_ixor {om : OM} {l : Launch} {M : MI} {B : Nat × Nat} {pc : Nat} {L : List (Option Value)} {S : List Value} {h : Hp} {Post : Out → Hp → Prop} {x y : Int32} (d : decode (mi_by M) pc = .ok (.ixor, 1))  (k : Runs om l M B (pc + 1) L (.int (x ^^^ y) :: S) h Post) : Runs om l M B (pc) L (.int y :: .int x :: S) h Post := by
  intro p e R s m args below meth c H locs cells slots Q ls C hS hL hc hs KR KX
  exact lv_ixor C.1 C.2.1 d  (k p e R s m args below meth c H locs cells slots Q ls C hS hL hc hs KR KX)
theorem r_idiv {om : OM} {l : Launch} {M : MI} {B : Nat × Nat} {pc : Nat} {L : List (Option Value)} {S : List Value} {h : Hp} {Post : Out → Hp → Prop} {x y : Int32} (d : decode (mi_by M) pc = .ok (.idiv, 1)) (hne : ¬ y = 0) (k : Runs om l M B (pc + 1) L (.int (x / y) :: S) h Post) : Runs om l M B (pc) L (.int y :: .int x :: S) h Post := by
  intro p e R s m args below meth c H locs cells slots Q ls C hS hL hc hs KR KX
  exact lv_idiv C.1 C.2.1 d hne (k p e R s m args below meth c H locs cells slots Q ls C hS hL hc hs KR KX)
theorem r_irem {om : OM} {l : Launch} {M : MI} {B : Nat × Nat} {pc : Nat} {L : List (Option Value)} {S : List Value} {h : Hp} {Post : Out → Hp → Prop} {x y : Int32} (d : decode (mi_by M) pc = .ok (.irem, 1)) (hne : ¬ y = 0) (k : Runs om l M B (pc + 1) L (.int (x - x / y * y) :: S) h Post) : Runs om l M B (pc) L (.int y :: .int x :: S) h Post := by
  intro p e R s m args below meth c H locs cells slots Q ls C hS hL hc hs KR KX
  exact lv_irem C.1 C.2.1 d hne (k p e R s m args below meth c H locs cells slots Q ls C hS hL hc hs KR KX)
theorem r_ladd {om : OM} {l : Launch} {M : MI} {B : Nat × Nat} {pc : Nat} {L : List (Option Value)} {S : List Value} {h : Hp} {Post : Out → Hp → Prop} {x y : Int64} (d : decode (mi_by M) pc = .ok (.ladd, 1))  (k : Runs om l M B (pc + 1) L (.long (x + y) :: S) h Post) : Runs om l M B (pc) L (.long y :: .long x :: S) h Post := by
  intro p e R s m args below meth c H locs cells slots Q ls C hS hL hc hs KR KX
  exact lv_ladd C.1 C.2.1 d  (k p e R s m args below meth c H locs cells slots Q ls C hS hL hc hs KR KX)
theorem r_lsub {om : OM} {l : Launch} {M : MI} {B : Nat × Nat} {pc : Nat} {L : List (Option Value)} {S : List Value} {h : Hp} {Post : Out → Hp → Prop} {x y : Int64} (d : decode (mi_by M) pc = .ok (.lsub, 1))  (k : Runs om l M B (pc + 1) L (.long (x - y) :: S) h Post) : Runs om l M B (pc) L (.long y :: .long x :: S) h Post := by
  intro p e R s m args below meth c H locs cells slots Q ls C hS hL hc hs KR KX
  exact lv_lsub C.1 C.2.1 d  (k p e R s m args below meth c H locs cells slots Q ls C hS hL hc hs KR KX)
theorem r_lmul {om : OM} {l : Launch} {M : MI} {B : Nat × Nat} {pc : Nat} {L : List (Option Value)} {S : List Value} {h : Hp} {Post : Out → Hp → Prop} {x y : Int64} (d : decode (mi_by M) pc = .ok (.lmul, 1))  (k : Runs om l M B (pc + 1) L (.long (x * y) :: S) h Post) : Runs om l M B (pc) L (.long y :: .long x :: S) h Post := by
  intro p e R s m args below meth c H locs cells slots Q ls C hS hL hc hs KR KX
  exact lv_lmul C.1 C.2.1 d  (k p e R s m args below meth c H locs cells slots Q ls C hS hL hc hs KR KX)
theorem r_land {om : OM} {l : Launch} {M : MI} {B : Nat × Nat} {pc : Nat} {L : List (Option Value)} {S : List Value} {h : Hp} {Post : Out → Hp → Prop} {x y : Int64} (d : decode (mi_by M) pc = .ok (.land, 1))  (k : Runs om l M B (pc + 1) L (.long (x &&& y) :: S) h Post) : Runs om l M B (pc) L (.long y :: .long x :: S) h Post := by
  intro p e R s m args below meth c H locs cells slots Q ls C hS hL hc hs KR KX
  exact lv_land C.1 C.2.1 d  (k p e R s m args below meth c H locs cells slots Q ls C hS hL hc hs KR KX)
theorem r_lor {om : OM} {l : Launch} {M : MI} {B : Nat × Nat} {pc : Nat} {L : List (Option Value)} {S : List Value} {h : Hp} {Post : Out → Hp → Prop} {x y : Int64} (d : decode (mi_by M) pc = .ok (.lor, 1))  (k : Runs om l M B (pc + 1) L (.long (x ||| y) :: S) h Post) : Runs om l M B (pc) L (.long y :: .long x :: S) h Post := by
  intro p e R s m args below meth c H locs cells slots Q ls C hS hL hc hs KR KX
  exact lv_lor C.1 C.2.1 d  (k p e R s m args below meth c H locs cells slots Q ls C hS hL hc hs KR KX)
theorem r_lxor {om : OM} {l : Launch} {M : MI} {B : Nat × Nat} {pc : Nat} {L : List (Option Value)} {S : List Value} {h : Hp} {Post : Out → Hp → Prop} {x y : Int64} (d : decode (mi_by M) pc = .ok (.lxor, 1))  (k : Runs om l M B (pc + 1) L (.long (x ^^^ y) :: S) h Post) : Runs om l M B (pc) L (.long y :: .long x :: S) h Post := by
  intro p e R s m args below meth c H locs cells slots Q ls C hS hL hc hs KR KX
  exact lv_lxor C.1 C.2.1 d  (k p e R s m args below meth c H locs cells slots Q ls C hS hL hc hs KR KX)
theorem r_ldiv {om : OM} {l : Launch} {M : MI} {B : Nat × Nat} {pc : Nat} {L : List (Option Value)} {S : List Value} {h : Hp} {Post : Out → Hp → Prop} {x y : Int64} (d : decode (mi_by M) pc = .ok (.ldiv, 1)) (hne : ¬ y = 0) (k : Runs om l M B (pc + 1) L (.long (x / y) :: S) h Post) : Runs om l M B (pc) L (.long y :: .long x :: S) h Post := by
  intro p e R s m args below meth c H locs cells slots Q ls C hS hL hc hs KR KX
  exact lv_ldiv C.1 C.2.1 d hne (k p e R s m args below meth c H locs cells slots Q ls C hS hL hc hs KR KX)
theorem r_lrem {om : OM} {l : Launch} {M : MI} {B : Nat × Nat} {pc : Nat} {L : List (Option Value)} {S : List Value} {h : Hp} {Post : Out → Hp → Prop} {x y : Int64} (d : decode (mi_by M) pc = .ok (.lrem, 1)) (hne : ¬ y = 0) (k : Runs om l M B (pc + 1) L (.long (x - x / y * y) :: S) h Post) : Runs om l M B (pc) L (.long y :: .long x :: S) h Post := by
  intro p e R s m args below meth c H locs cells slots Q ls C hS hL hc hs KR KX
  exact lv_lrem C.1 C.2.1 d hne (k p e R s m args below meth c H locs cells slots Q ls C hS hL hc hs KR KX)
theorem r_lcmp {om : OM} {l : Launch} {M : MI} {B : Nat × Nat} {pc : Nat} {L : List (Option Value)} {S : List Value} {h : Hp} {Post : Out → Hp → Prop} {x y : Int64} (d : decode (mi_by M) pc = .ok (.lcmp, 1))  (k : Runs om l M B (pc + 1) L (.int (lg_cmp x y) :: S) h Post) : Runs om l M B (pc) L (.long y :: .long x :: S) h Post := by
  intro p e R s m args below meth c H locs cells slots Q ls C hS hL hc hs KR KX
  exact W.lcmp C.1 C.2.1 d  (k p e R s m args below meth c H locs cells slots Q ls C hS hL hc hs KR KX)
theorem r_i2l {om : OM} {l : Launch} {M : MI} {B : Nat × Nat} {pc : Nat} {L : List (Option Value)} {S : List Value} {h : Hp} {Post : Out → Hp → Prop} {x : Int32} (d : decode (mi_by M) pc = .ok (.i2l, 1))  (k : Runs om l M B (pc + 1) L (.long x.toInt64 :: S) h Post) : Runs om l M B (pc) L (.int x :: S) h Post := by
  intro p e R s m args below meth c H locs cells slots Q ls C hS hL hc hs KR KX
  exact lv_i2l C.1 C.2.1 d rfl (k p e R s m args below meth c H locs cells slots Q ls C hS hL hc hs KR KX)
theorem r_l2i {om : OM} {l : Launch} {M : MI} {B : Nat × Nat} {pc : Nat} {L : List (Option Value)} {S : List Value} {h : Hp} {Post : Out → Hp → Prop} {x : Int64} (d : decode (mi_by M) pc = .ok (.l2i, 1))  (k : Runs om l M B (pc + 1) L (.int x.toInt32 :: S) h Post) : Runs om l M B (pc) L (.long x :: S) h Post := by
  intro p e R s m args below meth c H locs cells slots Q ls C hS hL hc hs KR KX
  exact lv_l2i C.1 C.2.1 d rfl (k p e R s m args below meth c H locs cells slots Q ls C hS hL hc hs KR KX)
theorem r_i2b {om : OM} {l : Launch} {M : MI} {B : Nat × Nat} {pc : Nat} {L : List (Option Value)} {S : List Value} {h : Hp} {Post : Out → Hp → Prop} {x : Int32} (d : decode (mi_by M) pc = .ok (.i2b, 1))  (k : Runs om l M B (pc + 1) L (.int x.toInt8.toInt32 :: S) h Post) : Runs om l M B (pc) L (.int x :: S) h Post := by
  intro p e R s m args below meth c H locs cells slots Q ls C hS hL hc hs KR KX
  exact lv_i2b C.1 C.2.1 d rfl (k p e R s m args below meth c H locs cells slots Q ls C hS hL hc hs KR KX)
theorem r_i2c {om : OM} {l : Launch} {M : MI} {B : Nat × Nat} {pc : Nat} {L : List (Option Value)} {S : List Value} {h : Hp} {Post : Out → Hp → Prop} {x : Int32} (d : decode (mi_by M) pc = .ok (.i2c, 1))  (k : Runs om l M B (pc + 1) L (.int (x.toUInt32 % 65536).toInt32 :: S) h Post) : Runs om l M B (pc) L (.int x :: S) h Post := by
  intro p e R s m args below meth c H locs cells slots Q ls C hS hL hc hs KR KX
  exact lv_i2c C.1 C.2.1 d rfl (k p e R s m args below meth c H locs cells slots Q ls C hS hL hc hs KR KX)
theorem r_i2d {om : OM} {l : Launch} {M : MI} {B : Nat × Nat} {pc : Nat} {L : List (Option Value)} {S : List Value} {h : Hp} {Post : Out → Hp → Prop} {x : Int32} (d : decode (mi_by M) pc = .ok (.i2d, 1))  (k : Runs om l M B (pc + 1) L (.double (FP.i2d x) :: S) h Post) : Runs om l M B (pc) L (.int x :: S) h Post := by
  intro p e R s m args below meth c H locs cells slots Q ls C hS hL hc hs KR KX
  exact lv_i2d C.1 C.2.1 d  (k p e R s m args below meth c H locs cells slots Q ls C hS hL hc hs KR KX)
theorem r_lshl {om : OM} {l : Launch} {M : MI} {B : Nat × Nat} {pc : Nat} {L : List (Option Value)} {S : List Value} {h : Hp} {Post : Out → Hp → Prop} {x : Int64} {y : Int32} (d : decode (mi_by M) pc = .ok (.lshl, 1))  (k : Runs om l M B (pc + 1) L (.long (x <<< (y.toInt64 &&& 63)) :: S) h Post) : Runs om l M B (pc) L (.int y :: .long x :: S) h Post := by
  intro p e R s m args below meth c H locs cells slots Q ls C hS hL hc hs KR KX
  exact lv_lshl C.1 C.2.1 d rfl (k p e R s m args below meth c H locs cells slots Q ls C hS hL hc hs KR KX)
theorem r_lshr {om : OM} {l : Launch} {M : MI} {B : Nat × Nat} {pc : Nat} {L : List (Option Value)} {S : List Value} {h : Hp} {Post : Out → Hp → Prop} {x : Int64} {y : Int32} (d : decode (mi_by M) pc = .ok (.lshr, 1))  (k : Runs om l M B (pc + 1) L (.long (x >>> (y.toInt64 &&& 63)) :: S) h Post) : Runs om l M B (pc) L (.int y :: .long x :: S) h Post := by
  intro p e R s m args below meth c H locs cells slots Q ls C hS hL hc hs KR KX
  exact lv_lshr C.1 C.2.1 d rfl (k p e R s m args below meth c H locs cells slots Q ls C hS hL hc hs KR KX)
theorem r_ddiv {om : OM} {l : Launch} {M : MI} {B : Nat × Nat} {pc : Nat} {L : List (Option Value)} {S : List Value} {h : Hp} {Post : Out → Hp → Prop} {x y : UInt64} (d : decode (mi_by M) pc = .ok (.ddiv, 1)) (hne : vf_n64 (FP.ddiv x y)) (k : Runs om l M B (pc + 1) L (.double (FP.ddiv x y) :: S) h Post) : Runs om l M B (pc) L (.double y :: .double x :: S) h Post := by
  intro p e R s m args below meth c H locs cells slots Q ls C hS hL hc hs KR KX
  exact lv_ddiv C.1 C.2.1 d hne (k p e R s m args below meth c H locs cells slots Q ls C hS hL hc hs KR KX)
theorem r_dcmp {om : OM} {l : Launch} {M : MI} {B : Nat × Nat} {pc : Nat} {L : List (Option Value)} {S : List Value} {h : Hp} {Post : Out → Hp → Prop} {x y : UInt64} {op : CmpOp} (d : decode (mi_by M) pc = .ok (.dcmp op, 1))  (k : Runs om l M B (pc + 1) L (.int (Op.cmpValue (FP.dcmp x y) op) :: S) h Post) : Runs om l M B (pc) L (.double y :: .double x :: S) h Post := by
  intro p e R s m args below meth c H locs cells slots Q ls C hS hL hc hs KR KX
  exact lv_dcmp C.1 C.2.1 d  (k p e R s m args below meth c H locs cells slots Q ls C hS hL hc hs KR KX)
theorem r_dup {om : OM} {l : Launch} {M : MI} {B : Nat × Nat} {pc : Nat} {L : List (Option Value)} {S : List Value} {h : Hp} {Post : Out → Hp → Prop} {v : Value} (d : decode (mi_by M) pc = .ok (.dup, 1)) (hv : v.category = 1) (k : Runs om l M B (pc + 1) L (v :: v :: S) h Post) : Runs om l M B (pc) L (v :: S) h Post := by
  intro p e R s m args below meth c H locs cells slots Q ls C hS hL hc hs KR KX
  exact lv_dup C.1 C.2.1 d ((cv_cat om v).trans hv) (k p e R s m args below meth c H locs cells slots Q ls C hS hL hc hs KR KX)
theorem r_pop {om : OM} {l : Launch} {M : MI} {B : Nat × Nat} {pc : Nat} {L : List (Option Value)} {S : List Value} {h : Hp} {Post : Out → Hp → Prop} {v : Value} (d : decode (mi_by M) pc = .ok (.pop, 1)) (hv : v.category = 1) (k : Runs om l M B (pc + 1) L (S) h Post) : Runs om l M B (pc) L (v :: S) h Post := by
  intro p e R s m args below meth c H locs cells slots Q ls C hS hL hc hs KR KX
  exact lv_pop C.1 C.2.1 d ((cv_cat om v).trans hv) (k p e R s m args below meth c H locs cells slots Q ls C hS hL hc hs KR KX)
theorem r_dup2 {om : OM} {l : Launch} {M : MI} {B : Nat × Nat} {pc : Nat} {L : List (Option Value)} {S : List Value} {h : Hp} {Post : Out → Hp → Prop} {v w : Value} (d : decode (mi_by M) pc = .ok (.dup2, 1)) (hv : v.category = 1) (hw : w.category = 1) (k : Runs om l M B (pc + 1) L (v :: w :: v :: w :: S) h Post) : Runs om l M B (pc) L (v :: w :: S) h Post := by
  intro p e R s m args below meth c H locs cells slots Q ls C hS hL hc hs KR KX
  exact lv_dup2_11 C.1 C.2.1 d ((cv_cat om v).trans hv) ((cv_cat om w).trans hw) (k p e R s m args below meth c H locs cells slots Q ls C hS hL hc hs KR KX)
theorem r_dup_x1 {om : OM} {l : Launch} {M : MI} {B : Nat × Nat} {pc : Nat} {L : List (Option Value)} {S : List Value} {h : Hp} {Post : Out → Hp → Prop} {v w : Value} (d : decode (mi_by M) pc = .ok (.dup_x1, 1)) (hv : v.category = 1) (hw : w.category = 1) (k : Runs om l M B (pc + 1) L (v :: w :: v :: S) h Post) : Runs om l M B (pc) L (v :: w :: S) h Post := by
  intro p e R s m args below meth c H locs cells slots Q ls C hS hL hc hs KR KX
  exact lv_dup_x1 C.1 C.2.1 d ((cv_cat om v).trans hv) ((cv_cat om w).trans hw) (k p e R s m args below meth c H locs cells slots Q ls C hS hL hc hs KR KX)
theorem r_iload_n {om : OM} {l : Launch} {M : MI} {B : Nat × Nat} {pc : Nat} {L : List (Option Value)} {S : List Value} {h : Hp} {Post : Out → Hp → Prop} {k0 : Fin 4} {i : Nat} {x : Int32} (d : decode (mi_by M) pc = .ok (.iload_n k0, 1)) (hi : (k0 : Nat) = i) (hl : L[i]? = some (some (.int x))) (k : Runs om l M B (pc + 1) L (.int x :: S) h Post) : Runs om l M B (pc) L (S) h Post := by
  intro p e R s m args below meth c H locs cells slots Q ls C hS hL hc hs KR KX
  exact lv_iload_n C.1 C.2.1 d hi (loc_at hL hl) (k p e R s m args below meth c H locs cells slots Q ls C hS hL hc hs KR KX)
theorem r_iload {om : OM} {l : Launch} {M : MI} {B : Nat × Nat} {pc : Nat} {L : List (Option Value)} {S : List Value} {h : Hp} {Post : Out → Hp → Prop} {i : Nat} {x : Int32} (d : decode (mi_by M) pc = .ok (.iload i, 2)) (hl : L[i]? = some (some (.int x))) (k : Runs om l M B (pc + 2) L (.int x :: S) h Post) : Runs om l M B (pc) L (S) h Post := by
  intro p e R s m args below meth c H locs cells slots Q ls C hS hL hc hs KR KX
  exact lv_iload C.1 C.2.1 d (loc_at hL hl) (k p e R s m args below meth c H locs cells slots Q ls C hS hL hc hs KR KX)
theorem r_lload_n {om : OM} {l : Launch} {M : MI} {B : Nat × Nat} {pc : Nat} {L : List (Option Value)} {S : List Value} {h : Hp} {Post : Out → Hp → Prop} {k0 : Fin 4} {i : Nat} {x : Int64} (d : decode (mi_by M) pc = .ok (.lload_n k0, 1)) (hi : (k0 : Nat) = i) (hl : L[i]? = some (some (.long x))) (k : Runs om l M B (pc + 1) L (.long x :: S) h Post) : Runs om l M B (pc) L (S) h Post := by
  intro p e R s m args below meth c H locs cells slots Q ls C hS hL hc hs KR KX
  exact lv_lload_n C.1 C.2.1 d hi (loc_at hL hl) (k p e R s m args below meth c H locs cells slots Q ls C hS hL hc hs KR KX)
theorem r_lload {om : OM} {l : Launch} {M : MI} {B : Nat × Nat} {pc : Nat} {L : List (Option Value)} {S : List Value} {h : Hp} {Post : Out → Hp → Prop} {i : Nat} {x : Int64} (d : decode (mi_by M) pc = .ok (.lload i, 2)) (hl : L[i]? = some (some (.long x))) (k : Runs om l M B (pc + 2) L (.long x :: S) h Post) : Runs om l M B (pc) L (S) h Post := by
  intro p e R s m args below meth c H locs cells slots Q ls C hS hL hc hs KR KX
  exact lv_lload C.1 C.2.1 d (loc_at hL hl) (k p e R s m args below meth c H locs cells slots Q ls C hS hL hc hs KR KX)
theorem r_dload_n {om : OM} {l : Launch} {M : MI} {B : Nat × Nat} {pc : Nat} {L : List (Option Value)} {S : List Value} {h : Hp} {Post : Out → Hp → Prop} {k0 : Fin 4} {i : Nat} {x : UInt64} (d : decode (mi_by M) pc = .ok (.dload_n k0, 1)) (hi : (k0 : Nat) = i) (hl : L[i]? = some (some (.double x))) (k : Runs om l M B (pc + 1) L (.double x :: S) h Post) : Runs om l M B (pc) L (S) h Post := by
  intro p e R s m args below meth c H locs cells slots Q ls C hS hL hc hs KR KX
  exact lv_dload_n C.1 C.2.1 d hi (loc_at hL hl) (k p e R s m args below meth c H locs cells slots Q ls C hS hL hc hs KR KX)
theorem r_dload {om : OM} {l : Launch} {M : MI} {B : Nat × Nat} {pc : Nat} {L : List (Option Value)} {S : List Value} {h : Hp} {Post : Out → Hp → Prop} {i : Nat} {x : UInt64} (d : decode (mi_by M) pc = .ok (.dload i, 2)) (hl : L[i]? = some (some (.double x))) (k : Runs om l M B (pc + 2) L (.double x :: S) h Post) : Runs om l M B (pc) L (S) h Post := by
  intro p e R s m args below meth c H locs cells slots Q ls C hS hL hc hs KR KX
  exact lv_dload C.1 C.2.1 d (loc_at hL hl) (k p e R s m args below meth c H locs cells slots Q ls C hS hL hc hs KR KX)
theorem r_aload_n {om : OM} {l : Launch} {M : MI} {B : Nat × Nat} {pc : Nat} {L : List (Option Value)} {S : List Value} {h : Hp} {Post : Out → Hp → Prop} {k0 : Fin 4} {i : Nat} {x : Nat} (d : decode (mi_by M) pc = .ok (.aload_n k0, 1)) (hi : (k0 : Nat) = i) (hl : L[i]? = some (some (.ref x))) (k : Runs om l M B (pc + 1) L (.ref x :: S) h Post) : Runs om l M B (pc) L (S) h Post := by
  intro p e R s m args below meth c H locs cells slots Q ls C hS hL hc hs KR KX
  exact lv_aload_n C.1 C.2.1 d hi (loc_at hL hl) (k p e R s m args below meth c H locs cells slots Q ls C hS hL hc hs KR KX)
theorem r_aload {om : OM} {l : Launch} {M : MI} {B : Nat × Nat} {pc : Nat} {L : List (Option Value)} {S : List Value} {h : Hp} {Post : Out → Hp → Prop} {i : Nat} {x : Nat} (d : decode (mi_by M) pc = .ok (.aload i, 2)) (hl : L[i]? = some (some (.ref x))) (k : Runs om l M B (pc + 2) L (.ref x :: S) h Post) : Runs om l M B (pc) L (S) h Post := by
  intro p e R s m args below meth c H locs cells slots Q ls C hS hL hc hs KR KX
  exact lv_aload C.1 C.2.1 d (loc_at hL hl) (k p e R s m args below meth c H locs cells slots Q ls C hS hL hc hs KR KX)
theorem r_aload_nN {om : OM} {l : Launch} {M : MI} {B : Nat × Nat} {pc : Nat} {L : List (Option Value)} {S : List Value} {h : Hp} {Post : Out → Hp → Prop} {k0 : Fin 4} {i : Nat} (d : decode (mi_by M) pc = .ok (.aload_n k0, 1)) (hi : (k0 : Nat) = i) (hl : L[i]? = some (some .null)) (k : Runs om l M B (pc + 1) L (.null :: S) h Post) : Runs om l M B (pc) L (S) h Post := by
  intro p e R s m args below meth c H locs cells slots Q ls C hS hL hc hs KR KX
  exact lv_aload_nN C.1 C.2.1 d hi (loc_at hL hl) (k p e R s m args below meth c H locs cells slots Q ls C hS hL hc hs KR KX)
theorem r_aloadN {om : OM} {l : Launch} {M : MI} {B : Nat × Nat} {pc : Nat} {L : List (Option Value)} {S : List Value} {h : Hp} {Post : Out → Hp → Prop} {i : Nat} (d : decode (mi_by M) pc = .ok (.aload i, 2)) (hl : L[i]? = some (some .null)) (k : Runs om l M B (pc + 2) L (.null :: S) h Post) : Runs om l M B (pc) L (S) h Post := by
  intro p e R s m args below meth c H locs cells slots Q ls C hS hL hc hs KR KX
  exact lv_aloadN C.1 C.2.1 d (loc_at hL hl) (k p e R s m args below meth c H locs cells slots Q ls C hS hL hc hs KR KX)
theorem r_istore_n {om : OM} {l : Launch} {M : MI} {B : Nat × Nat} {pc : Nat} {L : List (Option Value)} {S : List Value} {h : Hp} {Post : Out → Hp → Prop} {k0 : Fin 4} {i : Nat} {x : Int32} (d : decode (mi_by M) pc = .ok (.istore_n k0, 1)) (hi : (k0 : Nat) = i) (hn : i < mi_ml M) (k : Runs om l M B (pc + 1) (st1 L i (.int x)) S h Post) : Runs om l M B (pc) L ((.int x) :: S) h Post := by
  intro p e R s m args below meth c H locs cells slots Q ls C hS hL hc hs KR KX
  exact lv_istore_n C.1 C.2.1 d hi hL hn rfl (fun ls9 h9 => k p e R s m args below meth c H locs cells slots Q ls9 C hS (loc_st1 h9) hc hs KR KX)
theorem r_istore {om : OM} {l : Launch} {M : MI} {B : Nat × Nat} {pc : Nat} {L : List (Option Value)} {S : List Value} {h : Hp} {Post : Out → Hp → Prop} {i : Nat} {x : Int32} (d : decode (mi_by M) pc = .ok (.istore i, 2)) (hn : i < mi_ml M) (k : Runs om l M B (pc + 2) (st1 L i (.int x)) S h Post) : Runs om l M B (pc) L ((.int x) :: S) h Post := by
  intro p e R s m args below meth c H locs cells slots Q ls C hS hL hc hs KR KX
  exact lv_istore C.1 C.2.1 d hL hn rfl (fun ls9 h9 => k p e R s m args below meth c H locs cells slots Q ls9 C hS (loc_st1 h9) hc hs KR KX)
theorem r_lstore_n {om : OM} {l : Launch} {M : MI} {B : Nat × Nat} {pc : Nat} {L : List (Option Value)} {S : List Value} {h : Hp} {Post : Out → Hp → Prop} {k0 : Fin 4} {i : Nat} {x : Int64} (d : decode (mi_by M) pc = .ok (.lstore_n k0, 1)) (hi : (k0 : Nat) = i) (hn : i + 1 < mi_ml M) (k : Runs om l M B (pc + 1) (st2 L i (.long x)) S h Post) : Runs om l M B (pc) L ((.long x) :: S) h Post := by
  intro p e R s m args below meth c H locs cells slots Q ls C hS hL hc hs KR KX
  exact lv_lstore_n C.1 C.2.1 d hi hL hn rfl (fun ls9 h9 => k p e R s m args below meth c H locs cells slots Q ls9 C hS (loc_st2 h9) hc hs KR KX)
theorem r_lstore {om : OM} {l : Launch} {M : MI} {B : Nat × Nat} {pc : Nat} {L : List (Option Value)} {S : List Value} {h : Hp} {Post : Out → Hp → Prop} {i : Nat} {x : Int64} (d : decode (mi_by M) pc = .ok (.lstore i, 2)) (hn : i + 1 < mi_ml M) (k : Runs om l M B (pc + 2) (st2 L i (.long x)) S h Post) : Runs om l M B (pc) L ((.long x) :: S) h Post := by
  intro p e R s m args below meth c H locs cells slots Q ls C hS hL hc hs KR KX
  exact lv_lstore C.1 C.2.1 d hL hn rfl (fun ls9 h9 => k p e R s m args below meth c H locs cells slots Q ls9 C hS (loc_st2 h9) hc hs KR KX)
theorem r_dstore_n {om : OM} {l : Launch} {M : MI} {B : Nat × Nat} {pc : Nat} {L : List (Option Value)} {S : List Value} {h : Hp} {Post : Out → Hp → Prop} {k0 : Fin 4} {i : Nat} {x : UInt64} (d : decode (mi_by M) pc = .ok (.dstore_n k0, 1)) (hi : (k0 : Nat) = i) (hn : i + 1 < mi_ml M) (k : Runs om l M B (pc + 1) (st2 L i (.double x)) S h Post) : Runs om l M B (pc) L ((.double x) :: S) h Post := by
  intro p e R s m args below meth c H locs cells slots Q ls C hS hL hc hs KR KX
  exact lv_dstore_n C.1 C.2.1 d hi hL hn rfl (fun ls9 h9 => k p e R s m args below meth c H locs cells slots Q ls9 C hS (loc_st2 h9) hc hs KR KX)
theorem r_dstore {om : OM} {l : Launch} {M : MI} {B : Nat × Nat} {pc : Nat} {L : List (Option Value)} {S : List Value} {h : Hp} {Post : Out → Hp → Prop} {i : Nat} {x : UInt64} (d : decode (mi_by M) pc = .ok (.dstore i, 2)) (hn : i + 1 < mi_ml M) (k : Runs om l M B (pc + 2) (st2 L i (.double x)) S h Post) : Runs om l M B (pc) L ((.double x) :: S) h Post := by
  intro p e R s m args below meth c H locs cells slots Q ls C hS hL hc hs KR KX
  exact lv_dstore C.1 C.2.1 d hL hn rfl (fun ls9 h9 => k p e R s m args below meth c H locs cells slots Q ls9 C hS (loc_st2 h9) hc hs KR KX)
theorem r_astore_n {om : OM} {l : Launch} {M : MI} {B : Nat × Nat} {pc : Nat} {L : List (Option Value)} {S : List Value} {h : Hp} {Post : Out → Hp → Prop} {k0 : Fin 4} {i : Nat} {x : Nat} (d : decode (mi_by M) pc = .ok (.astore_n k0, 1)) (hi : (k0 : Nat) = i) (hn : i < mi_ml M) (k : Runs om l M B (pc + 1) (st1 L i (.ref x)) S h Post) : Runs om l M B (pc) L ((.ref x) :: S) h Post := by
  intro p e R s m args below meth c H locs cells slots Q ls C hS hL hc hs KR KX
  exact lv_astore_n C.1 C.2.1 d hi hL hn rfl (fun ls9 h9 => k p e R s m args below meth c H locs cells slots Q ls9 C hS (loc_st1 h9) hc hs KR KX)
theorem r_astore {om : OM} {l : Launch} {M : MI} {B : Nat × Nat} {pc : Nat} {L : List (Option Value)} {S : List Value} {h : Hp} {Post : Out → Hp → Prop} {i : Nat} {x : Nat} (d : decode (mi_by M) pc = .ok (.astore i, 2)) (hn : i < mi_ml M) (k : Runs om l M B (pc + 2) (st1 L i (.ref x)) S h Post) : Runs om l M B (pc) L ((.ref x) :: S) h Post := by
  intro p e R s m args below meth c H locs cells slots Q ls C hS hL hc hs KR KX
  exact lv_astore C.1 C.2.1 d hL hn rfl (fun ls9 h9 => k p e R s m args below meth c H locs cells slots Q ls9 C hS (loc_st1 h9) hc hs KR KX)
theorem r_astore_nN {om : OM} {l : Launch} {M : MI} {B : Nat × Nat} {pc : Nat} {L : List (Option Value)} {S : List Value} {h : Hp} {Post : Out → Hp → Prop} {k0 : Fin 4} {i : Nat} (d : decode (mi_by M) pc = .ok (.astore_n k0, 1)) (hi : (k0 : Nat) = i) (hn : i < mi_ml M) (k : Runs om l M B (pc + 1) (st1 L i (.null)) S h Post) : Runs om l M B (pc) L ((.null) :: S) h Post := by
  intro p e R s m args below meth c H locs cells slots Q ls C hS hL hc hs KR KX
  exact lv_astore_nN C.1 C.2.1 d hi hL hn rfl (fun ls9 h9 => k p e R s m args below meth c H locs cells slots Q ls9 C hS (loc_st1 h9) hc hs KR KX)
theorem r_astoreN {om : OM} {l : Launch} {M : MI} {B : Nat × Nat} {pc : Nat} {L : List (Option Value)} {S : List Value} {h : Hp} {Post : Out → Hp → Prop} {i : Nat} (d : decode (mi_by M) pc = .ok (.astore i, 2)) (hn : i < mi_ml M) (k : Runs om l M B (pc + 2) (st1 L i (.null)) S h Post) : Runs om l M B (pc) L ((.null) :: S) h Post := by
  intro p e R s m args below meth c H locs cells slots Q ls C hS hL hc hs KR KX
  exact lv_astoreN C.1 C.2.1 d hL hn rfl (fun ls9 h9 => k p e R s m args below meth c H locs cells slots Q ls9 C hS (loc_st1 h9) hc hs KR KX)
theorem r_iinc {om : OM} {l : Launch} {M : MI} {B : Nat × Nat} {pc : Nat} {L : List (Option Value)} {S : List Value} {h : Hp} {Post : Out → Hp → Prop} {i : Nat} {n : Int} {x : Int32} (d : decode (mi_by M) pc = .ok (.iinc i n, 3)) (hl : L[i]? = some (some (.int x))) (hn : i < mi_ml M) (k : Runs om l M B (pc + 3) (st1 L i (.int (x + Int32.ofInt n))) S h Post) : Runs om l M B (pc) L (S) h Post := by
  intro p e R s m args below meth c H locs cells slots Q ls C hS hL hc hs KR KX
  obtain ⟨k0, hk0⟩ := List.getElem?_of_mem ((ent_mem (om := om) L 0 (i, .int x)).mpr ⟨i, .int x, by rw [Nat.zero_add]; rfl, hl⟩)
  exact lv_iinc C.1 C.2.1 d hL hk0 rfl hn rfl (fun ls9 h9 => k p e R s m args below meth c H locs cells slots Q ls9 C hS (loc_st1 h9) hc hs KR KX)
theorem r_weak {om : OM} {l : Launch} {M : MI} {B : Nat × Nat} {pc : Nat} {L : List (Option Value)} {S : List Value} {h : Hp} {Post : Out → Hp → Prop} (L' : List (Option Value)) (hw : ∀ (i : Nat) (v : Value), L'[i]? = some (some v) → L[i]? = some (some v)) (k : Runs om l M B pc L' S h Post) : Runs om l M B (pc) L (S) h Post := by
  intro p e R s m args below meth c H locs cells slots Q ls C hS hL hc hs KR KX
  exact k p e R s m args below meth c H locs cells slots Q ls C hS (loc_weak hL hw) hc hs KR KX
theorem r_if_eq {om : OM} {l : Launch} {M : MI} {B : Nat × Nat} {pc : Nat} {L : List (Option Value)} {S : List Value} {h : Hp} {Post : Out → Hp → Prop} {x : Int32} {off : Int} (tgt : Nat) (d : decode (mi_by M) pc = .ok (.ifCond .eq off, 3)) (ht : (pc : Int) + off = (tgt : Int)) (kt : (x = 0) → Runs om l M B (tgt) L (S) h Post) (kf : ¬ (x = 0) → Runs om l M B (pc + 3) L (S) h Post) : Runs om l M B (pc) L (.int x :: S) h Post := by
  intro p e R s m args below meth c H locs cells slots Q ls C hS hL hc hs KR KX
  exact lv_if_eq C.1 C.2.1 d ht (fun z => kt z p e R s m args below meth c H locs cells slots Q ls C hS hL hc hs KR KX) (fun z => kf z p e R s m args below meth c H locs cells slots Q ls C hS hL hc hs KR KX)
theorem r_icmp_eq {om : OM} {l : Launch} {M : MI} {B : Nat × Nat} {pc : Nat} {L : List (Option Value)} {S : List Value} {h : Hp} {Post : Out → Hp → Prop} {x y : Int32} {off : Int} (tgt : Nat) (d : decode (mi_by M) pc = .ok (.if_icmp .eq off, 3)) (ht : (pc : Int) + off = (tgt : Int)) (kt : (x = y) → Runs om l M B (tgt) L (S) h Post) (kf : ¬ (x = y) → Runs om l M B (pc + 3) L (S) h Post) : Runs om l M B (pc) L (.int y :: .int x :: S) h Post := by
  intro p e R s m args below meth c H locs cells slots Q ls C hS hL hc hs KR KX
  exact lv_icmp_eq C.1 C.2.1 d ht (fun z => kt z p e R s m args below meth c H locs cells slots Q ls C hS hL hc hs KR KX) (fun z => kf z p e R s m args below meth c H locs cells slots Q ls C hS hL hc hs KR KX)
theorem r_if_ne {om : OM} {l : Launch} {M : MI} {B : Nat × Nat} {pc : Nat} {L : List (Option Value)} {S : List Value} {h : Hp} {Post : Out → Hp → Prop} {x : Int32} {off : Int} (tgt : Nat) (d : decode (mi_by M) pc = .ok (.ifCond .ne off, 3)) (ht : (pc : Int) + off = (tgt : Int)) (kt : (¬ x = 0) → Runs om l M B (tgt) L (S) h Post) (kf : (x = 0) → Runs om l M B (pc + 3) L (S) h Post) : Runs om l M B (pc) L (.int x :: S) h Post := by
  intro p e R s m args below meth c H locs cells slots Q ls C hS hL hc hs KR KX
  exact lv_if_ne C.1 C.2.1 d ht (fun z => kt z p e R s m args below meth c H locs cells slots Q ls C hS hL hc hs KR KX) (fun z => kf z p e R s m args below meth c H locs cells slots Q ls C hS hL hc hs KR KX)
theorem r_icmp_ne {om : OM} {l : Launch} {M : MI} {B : Nat × Nat} {pc : Nat} {L : List (Option Value)} {S : List Value} {h : Hp} {Post : Out → Hp → Prop} {x y : Int32} {off : Int} (tgt : Nat) (d : decode (mi_by M) pc = .ok (.if_icmp .ne off, 3)) (ht : (pc : Int) + off = (tgt : Int)) (kt : (¬ x = y) → Runs om l M B (tgt) L (S) h Post) (kf : (x = y) → Runs om l M B (pc + 3) L (S) h Post) : Runs om l M B (pc) L (.int y :: .int x :: S) h Post := by
  intro p e R s m args below meth c H locs cells slots Q ls C hS hL hc hs KR KX
  exact lv_icmp_ne C.1 C.2.1 d ht (fun z => kt z p e R s m args below meth c H locs cells slots Q ls C hS hL hc hs KR KX) (fun z => kf z p e R s m args below meth c H locs cells slots Q ls C hS hL hc hs KR KX)
theorem r_if_lt {om : OM} {l : Launch} {M : MI} {B : Nat × Nat} {pc : Nat} {L : List (Option Value)} {S : List Value} {h : Hp} {Post : Out → Hp → Prop} {x : Int32} {off : Int} (tgt : Nat) (d : decode (mi_by M) pc = .ok (.ifCond .lt off, 3)) (ht : (pc : Int) + off = (tgt : Int)) (kt : (x < 0) → Runs om l M B (tgt) L (S) h Post) (kf : ¬ (x < 0) → Runs om l M B (pc + 3) L (S) h Post) : Runs om l M B (pc) L (.int x :: S) h Post := by
  intro p e R s m args below meth c H locs cells slots Q ls C hS hL hc hs KR KX
  exact lv_if_lt C.1 C.2.1 d ht (fun z => kt z p e R s m args below meth c H locs cells slots Q ls C hS hL hc hs KR KX) (fun z => kf z p e R s m args below meth c H locs cells slots Q ls C hS hL hc hs KR KX)
theorem r_icmp_lt {om : OM} {l : Launch} {M : MI} {B : Nat × Nat} {pc : Nat} {L : List (Option Value)} {S : List Value} {h : Hp} {Post : Out → Hp → Prop} {x y : Int32} {off : Int} (tgt : Nat) (d : decode (mi_by M) pc = .ok (.if_icmp .lt off, 3)) (ht : (pc : Int) + off = (tgt : Int)) (kt : (x < y) → Runs om l M B (tgt) L (S) h Post) (kf : ¬ (x < y) → Runs om l M B (pc + 3) L (S) h Post) : Runs om l M B (pc) L (.int y :: .int x :: S) h Post := by
  intro p e R s m args below meth c H locs cells slots Q ls C hS hL hc hs KR KX
  exact lv_icmp_lt C.1 C.2.1 d ht (fun z => kt z p e R s m args below meth c H locs cells slots Q ls C hS hL hc hs KR KX) (fun z => kf z p e R s m args below meth c H locs cells slots Q ls C hS hL hc hs KR KX)
theorem r_if_ge {om : OM} {l : Launch} {M : MI} {B : Nat × Nat} {pc : Nat} {L : List (Option Value)} {S : List Value} {h : Hp} {Post : Out → Hp → Prop} {x : Int32} {off : Int} (tgt : Nat) (d : decode (mi_by M) pc = .ok (.ifCond .ge off, 3)) (ht : (pc : Int) + off = (tgt : Int)) (kt : (0 ≤ x) → Runs om l M B (tgt) L (S) h Post) (kf : ¬ (0 ≤ x) → Runs om l M B (pc + 3) L (S) h Post) : Runs om l M B (pc) L (.int x :: S) h Post := by
  intro p e R s m args below meth c H locs cells slots Q ls C hS hL hc hs KR KX
  exact lv_if_ge C.1 C.2.1 d ht (fun z => kt z p e R s m args below meth c H locs cells slots Q ls C hS hL hc hs KR KX) (fun z => kf z p e R s m args below meth c H locs cells slots Q ls C hS hL hc hs KR KX)
theorem r_icmp_ge {om : OM} {l : Launch} {M : MI} {B : Nat × Nat} {pc : Nat} {L : List (Option Value)} {S : List Value} {h : Hp} {Post : Out → Hp → Prop} {x y : Int32} {off : Int} (tgt : Nat) (d : decode (mi_by M) pc = .ok (.if_icmp .ge off, 3)) (ht : (pc : Int) + off = (tgt : Int)) (kt : (y ≤ x) → Runs om l M B (tgt) L (S) h Post) (kf : ¬ (y ≤ x) → Runs om l M B (pc + 3) L (S) h Post) : Runs om l M B (pc) L (.int y :: .int x :: S) h Post := by
  intro p e R s m args below meth c H locs cells slots Q ls C hS hL hc hs KR KX
  exact lv_icmp_ge C.1 C.2.1 d ht (fun z => kt z p e R s m args below meth c H locs cells slots Q ls C hS hL hc hs KR KX) (fun z => kf z p e R s m args below meth c H locs cells slots Q ls C hS hL hc hs KR KX)
theorem r_if_gt {om : OM} {l : Launch} {M : MI} {B : Nat × Nat} {pc : Nat} {L : List (Option Value)} {S : List Value} {h : Hp} {Post : Out → Hp → Prop} {x : Int32} {off : Int} (tgt : Nat) (d : decode (mi_by M) pc = .ok (.ifCond .gt off, 3)) (ht : (pc : Int) + off = (tgt : Int)) (kt : (0 < x) → Runs om l M B (tgt) L (S) h Post) (kf : ¬ (0 < x) → Runs om l M B (pc + 3) L (S) h Post) : Runs om l M B (pc) L (.int x :: S) h Post := by
  intro p e R s m args below meth c H locs cells slots Q ls C hS hL hc hs KR KX
  exact lv_if_gt C.1 C.2.1 d ht (fun z => kt z p e R s m args below meth c H locs cells slots Q ls C hS hL hc hs KR KX) (fun z => kf z p e R s m args below meth c H locs cells slots Q ls C hS hL hc hs KR KX)
theorem r_icmp_gt {om : OM} {l : Launch} {M : MI} {B : Nat × Nat} {pc : Nat} {L : List (Option Value)} {S : List Value} {h : Hp} {Post : Out → Hp → Prop} {x y : Int32} {off : Int} (tgt : Nat) (d : decode (mi_by M) pc = .ok (.if_icmp .gt off, 3)) (ht : (pc : Int) + off = (tgt : Int)) (kt : (y < x) → Runs om l M B (tgt) L (S) h Post) (kf : ¬ (y < x) → Runs om l M B (pc + 3) L (S) h Post) : Runs om l M B (pc) L (.int y :: .int x :: S) h Post := by
  intro p e R s m args below meth c H locs cells slots Q ls C hS hL hc hs KR KX
  exact lv_icmp_gt C.1 C.2.1 d ht (fun z => kt z p e R s m args below meth c H locs cells slots Q ls C hS hL hc hs KR KX) (fun z => kf z p e R s m args below meth c H locs cells slots Q ls C hS hL hc hs KR KX)
theorem r_if_le {om : OM} {l : Launch} {M : MI} {B : Nat × Nat} {pc : Nat} {L : List (Option Value)} {S : List Value} {h : Hp} {Post : Out → Hp → Prop} {x : Int32} {off : Int} (tgt : Nat) (d : decode (mi_by M) pc = .ok (.ifCond .le off, 3)) (ht : (pc : Int) + off = (tgt : Int)) (kt : (x ≤ 0) → Runs om l M B (tgt) L (S) h Post) (kf : ¬ (x ≤ 0) → Runs om l M B (pc + 3) L (S) h Post) : Runs om l M B (pc) L (.int x :: S) h Post := by
  intro p e R s m args below meth c H locs cells slots Q ls C hS hL hc hs KR KX
  exact lv_if_le C.1 C.2.1 d ht (fun z => kt z p e R s m args below meth c H locs cells slots Q ls C hS hL hc hs KR KX) (fun z => kf z p e R s m args below meth c H locs cells slots Q ls C hS hL hc hs KR KX)
theorem r_icmp_le {om : OM} {l : Launch} {M : MI} {B : Nat × Nat} {pc : Nat} {L : List (Option Value)} {S : List Value} {h : Hp} {Post : Out → Hp → Prop} {x y : Int32} {off : Int} (tgt : Nat) (d : decode (mi_by M) pc = .ok (.if_icmp .le off, 3)) (ht : (pc : Int) + off = (tgt : Int)) (kt : (x ≤ y) → Runs om l M B (tgt) L (S) h Post) (kf : ¬ (x ≤ y) → Runs om l M B (pc + 3) L (S) h Post) : Runs om l M B (pc) L (.int y :: .int x :: S) h Post := by
  intro p e R s m args below meth c H locs cells slots Q ls C hS hL hc hs KR KX
  exact lv_icmp_le C.1 C.2.1 d ht (fun z => kt z p e R s m args below meth c H locs cells slots Q ls C hS hL hc hs KR KX) (fun z => kf z p e R s m args below meth c H locs cells slots Q ls C hS hL hc hs KR KX)
theorem r_goto {om : OM} {l : Launch} {M : MI} {B : Nat × Nat} {pc : Nat} {L : List (Option Value)} {S : List Value} {h : Hp} {Post : Out → Hp → Prop} {off : Int} (tgt : Nat) (d : decode (mi_by M) pc = .ok (.goto off, 3)) (ht : (pc : Int) + off = (tgt : Int)) (k : Runs om l M B (tgt) L (S) h Post) : Runs om l M B (pc) L (S) h Post := by
  intro p e R s m args below meth c H locs cells slots Q ls C hS hL hc hs KR KX
  exact lv_goto C.1 C.2.1 d ht (k p e R s m args below meth c H locs cells slots Q ls C hS hL hc hs KR KX)
theorem r_ifnonnull {om : OM} {l : Launch} {M : MI} {B : Nat × Nat} {pc : Nat} {L : List (Option Value)} {S : List Value} {h : Hp} {Post : Out → Hp → Prop} {x : Nat} {off : Int} (tgt : Nat) (d : decode (mi_by M) pc = .ok (.ifnonnull off, 3)) (ht : (pc : Int) + off = (tgt : Int)) (k : Runs om l M B (tgt) L (S) h Post) : Runs om l M B (pc) L (.ref x :: S) h Post := by
  intro p e R s m args below meth c H locs cells slots Q ls C hS hL hc hs KR KX
  exact lv_ifnonnull C.1 C.2.1 d ht (k p e R s m args below meth c H locs cells slots Q ls C hS hL hc hs KR KX)
theorem r_ifnull {om : OM} {l : Launch} {M : MI} {B : Nat × Nat} {pc : Nat} {L : List (Option Value)} {S : List Value} {h : Hp} {Post : Out → Hp → Prop} {x : Nat} {off : Int} (d : decode (mi_by M) pc = .ok (.ifnull off, 3)) (k : Runs om l M B (pc + 3) L (S) h Post) : Runs om l M B (pc) L (.ref x :: S) h Post := by
  intro p e R s m args below meth c H locs cells slots Q ls C hS hL hc hs KR KX
  exact lv_ifnull C.1 C.2.1 d (k p e R s m args below meth c H locs cells slots Q ls C hS hL hc hs KR KX)
theorem r_ifnullN {om : OM} {l : Launch} {M : MI} {B : Nat × Nat} {pc : Nat} {L : List (Option Value)} {S : List Value} {h : Hp} {Post : Out → Hp → Prop} {off : Int} (tgt : Nat) (d : decode (mi_by M) pc = .ok (.ifnull off, 3)) (ht : (pc : Int) + off = (tgt : Int)) (k : Runs om l M B (tgt) L (S) h Post) : Runs om l M B (pc) L (.null :: S) h Post := by
  intro p e R s m args below meth c H locs cells slots Q ls C hS hL hc hs KR KX
  exact lv_ifnullN C.1 C.2.1 d ht (k p e R s m args below meth c H locs cells slots Q ls C hS hL hc hs KR KX)
theorem r_ifnonnullN {om : OM} {l : Launch} {M : MI} {B : Nat × Nat} {pc : Nat} {L : List (Option Value)} {S : List Value} {h : Hp} {Post : Out → Hp → Prop} {off : Int} (d : decode (mi_by M) pc = .ok (.ifnonnull off, 3)) (k : Runs om l M B (pc + 3) L (S) h Post) : Runs om l M B (pc) L (.null :: S) h Post := by
  intro p e R s m args below meth c H locs cells slots Q ls C hS hL hc hs KR KX
  exact lv_ifnonnullN C.1 C.2.1 d (k p e R s m args below meth c H locs cells slots Q ls C hS hL hc hs KR KX)
theorem r_tableOut {om : OM} {l : Launch} {M : MI} {B : Nat × Nat} {pc : Nat} {L : List (Option Value)} {S : List Value} {h : Hp} {Post : Out → Hp → Prop} {dflt lo hi : Int} {offs : Array Int} {len : Nat} {x : Int32} (tgt : Nat) (d : decode (mi_by M) pc = .ok (.tableswitch dflt lo hi offs, len)) (h0 : x.toInt < lo ∨ hi < x.toInt) (ht : (pc : Int) + dflt = (tgt : Int)) (k : Runs om l M B (tgt) L (S) h Post) : Runs om l M B (pc) L (.int x :: S) h Post := by
  intro p e R s m args below meth c H locs cells slots Q ls C hS hL hc hs KR KX
  exact lv_tableOut C.1 C.2.1 d h0 ht (k p e R s m args below meth c H locs cells slots Q ls C hS hL hc hs KR KX)
theorem r_tableIn {om : OM} {l : Launch} {M : MI} {B : Nat × Nat} {pc : Nat} {L : List (Option Value)} {S : List Value} {h : Hp} {Post : Out → Hp → Prop} {dflt lo hi : Int} {offs : Array Int} {len : Nat} {x : Int32} {off : Int} (tgt : Nat) (d : decode (mi_by M) pc = .ok (.tableswitch dflt lo hi offs, len)) (h1 : ¬ x.toInt < lo) (h2 : ¬ hi < x.toInt) (ho : offs[(x.toInt - lo).toNat]? = some off) (ht : (pc : Int) + off = (tgt : Int)) (k : Runs om l M B (tgt) L (S) h Post) : Runs om l M B (pc) L (.int x :: S) h Post := by
  intro p e R s m args below meth c H locs cells slots Q ls C hS hL hc hs KR KX
  exact lv_tableIn C.1 C.2.1 d h1 h2 ho ht (k p e R s m args below meth c H locs cells slots Q ls C hS hL hc hs KR KX)
theorem r_ldc {om : OM} {l : Launch} {M : MI} {B : Nat × Nat} {pc : Nat} {L : List (Option Value)} {S : List Value} {h : Hp} {Post : Out → Hp → Prop} {own : String} {idx : Nat} {v : Int32} (d : decode (mi_by M) pc = .ok (.ldc idx, 2)) (ho : (mi_nm M).cls = own) (hw : Cond.constant own idx v ∈ GW) (k : Runs om l M B (pc + 2) L (.int v :: S) h Post) : Runs om l M B (pc) L (S) h Post := by
  intro p e R s m args below meth c H locs cells slots Q ls C hS hL hc hs KR KX
  subst ho
  exact lv_ldc C.1 C.2.1 C.2.2.2.1 (C.2.2.2.2.1 _ hw) d (k p e R s m args below meth c H locs cells slots Q ls C hS hL hc hs KR KX)
theorem r_ldcw {om : OM} {l : Launch} {M : MI} {B : Nat × Nat} {pc : Nat} {L : List (Option Value)} {S : List Value} {h : Hp} {Post : Out → Hp → Prop} {own : String} {idx : Nat} {v : Int32} (d : decode (mi_by M) pc = .ok (.ldc_w idx, 3)) (ho : (mi_nm M).cls = own) (hw : Cond.constant own idx v ∈ GW) (k : Runs om l M B (pc + 3) L (.int v :: S) h Post) : Runs om l M B (pc) L (S) h Post := by
  intro p e R s m args below meth c H locs cells slots Q ls C hS hL hc hs KR KX
  subst ho
  exact lv_ldcw C.1 C.2.1 C.2.2.2.1 (C.2.2.2.2.1 _ hw) d (k p e R s m args below meth c H locs cells slots Q ls C hS hL hc hs KR KX)
theorem r_ldc2 {om : OM} {l : Launch} {M : MI} {B : Nat × Nat} {pc : Nat} {L : List (Option Value)} {S : List Value} {h : Hp} {Post : Out → Hp → Prop} {own : String} {idx : Nat} {v : Int64} (d : decode (mi_by M) pc = .ok (.ldc2_w idx, 3)) (ho : (mi_nm M).cls = own) (hw : Cond.constantLong own idx v ∈ GW) (k : Runs om l M B (pc + 3) L (.long v :: S) h Post) : Runs om l M B (pc) L (S) h Post := by
  intro p e R s m args below meth c H locs cells slots Q ls C hS hL hc hs KR KX
  subst ho
  exact lv_ldc2 C.1 C.2.1 C.2.2.2.1 (C.2.2.2.2.1 _ hw) d (k p e R s m args below meth c H locs cells slots Q ls C hS hL hc hs KR KX)
theorem r_ldc2d {om : OM} {l : Launch} {M : MI} {B : Nat × Nat} {pc : Nat} {L : List (Option Value)} {S : List Value} {h : Hp} {Post : Out → Hp → Prop} {own : String} {idx : Nat} {v : UInt64} (d : decode (mi_by M) pc = .ok (.ldc2_w idx, 3)) (ho : (mi_nm M).cls = own) (hw : Cond.constantDouble own idx v ∈ GW) (k : Runs om l M B (pc + 3) L (.double v :: S) h Post) : Runs om l M B (pc) L (S) h Post := by
  intro p e R s m args below meth c H locs cells slots Q ls C hS hL hc hs KR KX
  subst ho
  exact lv_ldc2d C.1 C.2.1 C.2.2.2.1 (C.2.2.2.2.1 _ hw) d (k p e R s m args below meth c H locs cells slots Q ls C hS hL hc hs KR KX)
theorem r_mono {om : OM} {l : Launch} {M : MI} {B : Nat × Nat} {pc : Nat} {L : List (Option Value)} {S : List Value} {h : Hp} {Post : Out → Hp → Prop} {P2 : Out → Hp → Prop} (k : Runs om l M B pc L S h P2) (hp : ∀ o h1, P2 o h1 → Post o h1) : Runs om l M B pc L S h Post := by
  intro p e R s m args below meth c H locs cells slots Q ls C hS hL hc hs KR KX
  refine k p e R s m args below meth c H locs cells slots Q ls C hS hL hc hs (fun o h1 H1 locs1 c1 s1 pc1 ls1 z => KR o h1 H1 locs1 c1 s1 pc1 ls1 (hp _ _ z)) ?_
  rcases KX with ⟨Qc, XC, free, k1, k2, k3⟩ | k1
  · exact Or.inl ⟨Qc, XC, free, k1, k2, fun E h1 t z => k3 E h1 t (hp _ _ z)⟩
  · exact Or.inr (fun E h1 z => k1 E h1 (hp _ _ z))
theorem r_ireturn {om : OM} {l : Launch} {M : MI} {B : Nat × Nat} {pc : Nat} {L : List (Option Value)} {S : List Value} {h : Hp} {Post : Out → Hp → Prop} {x : Int32} {ty : FieldType} (d : decode (mi_by M) pc = .ok (.ireturn, 1)) (hr : mi_rt M = some ty) (hn : narrow ty (.int x) = .int x) (hp : Post (.inl (some (.int x))) h) : Runs om l M B (pc) L ([.int x]) h Post := by
  intro p e R s m args below meth c H locs cells slots Q ls C hS hL hc hs KR KX
  exact KR (some (.int x)) h H locs cells slots pc ls hp hS.1 hS.2.1 (by omega) (by omega) ⟨d, ty, hr, hn⟩
theorem r_lreturn {om : OM} {l : Launch} {M : MI} {B : Nat × Nat} {pc : Nat} {L : List (Option Value)} {S : List Value} {h : Hp} {Post : Out → Hp → Prop} {x : Int64} (d : decode (mi_by M) pc = .ok (.lreturn, 1)) (hr : mi_rt M = some .long) (hp : Post (.inl (some (.long x))) h) : Runs om l M B (pc) L ([.long x]) h Post := by
  intro p e R s m args below meth c H locs cells slots Q ls C hS hL hc hs KR KX
  exact KR (some (.long x)) h H locs cells slots pc ls hp hS.1 hS.2.1 (by omega) (by omega) ⟨d, hr⟩
theorem r_dreturn {om : OM} {l : Launch} {M : MI} {B : Nat × Nat} {pc : Nat} {L : List (Option Value)} {S : List Value} {h : Hp} {Post : Out → Hp → Prop} {x : UInt64} (d : decode (mi_by M) pc = .ok (.dreturn, 1)) (hr : mi_rt M = some .double) (hp : Post (.inl (some (.double x))) h) : Runs om l M B (pc) L ([.double x]) h Post := by
  intro p e R s m args below meth c H locs cells slots Q ls C hS hL hc hs KR KX
  exact KR (some (.double x)) h H locs cells slots pc ls hp hS.1 hS.2.1 (by omega) (by omega) ⟨d, hr⟩
theorem r_areturn {om : OM} {l : Launch} {M : MI} {B : Nat × Nat} {pc : Nat} {L : List (Option Value)} {S : List Value} {h : Hp} {Post : Out → Hp → Prop} {x : Nat} {C0 : String} (d : decode (mi_by M) pc = .ok (.areturn, 1)) (hr : mi_rt M = some (.object C0)) (hp : Post (.inl (some (.ref x))) h) : Runs om l M B (pc) L ([.ref x]) h Post := by
  intro p e R s m args below meth c H locs cells slots Q ls C hS hL hc hs KR KX
  exact KR (some (.ref x)) h H locs cells slots pc ls hp hS.1 hS.2.1 (by omega) (by omega) ⟨d, C0, hr⟩
theorem r_areturnN {om : OM} {l : Launch} {M : MI} {B : Nat × Nat} {pc : Nat} {L : List (Option Value)} {S : List Value} {h : Hp} {Post : Out → Hp → Prop} {C0 : String} (d : decode (mi_by M) pc = .ok (.areturn, 1)) (hr : mi_rt M = some (.object C0)) (hp : Post (.inl (some .null)) h) : Runs om l M B (pc) L ([.null]) h Post := by
  intro p e R s m args below meth c H locs cells slots Q ls C hS hL hc hs KR KX
  exact KR (some .null) h H locs cells slots pc ls hp hS.1 hS.2.1 (by omega) (by omega) ⟨d, C0, hr⟩
theorem r_return {om : OM} {l : Launch} {M : MI} {B : Nat × Nat} {pc : Nat} {L : List (Option Value)} {S : List Value} {h : Hp} {Post : Out → Hp → Prop} (d : decode (mi_by M) pc = .ok (.return_, 1)) (hr : mi_rt M = none) (hp : Post (.inl (none)) h) : Runs om l M B (pc) L ([]) h Post := by
  intro p e R s m args below meth c H locs cells slots Q ls C hS hL hc hs KR KX
  exact KR (none) h H locs cells slots pc ls hp hS.1 hS.2.1 (by omega) (by omega) ⟨d, hr⟩
