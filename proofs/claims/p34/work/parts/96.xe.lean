/-! what a deed leaves, by the row that goes with it -/
def DP (v : Int32) (m : Nat) (C C' : Nat → Int32) (W' : Nat → Int64) (x : Int32) : Prop := (0 ≤ x ∨ v &&& 15 = 1) ∧ ∃ A', AG C' W' A' ∧ OKA A' ∧ XA (m + 4) A' ∧ (11 < v &&& 15 → SF A' ∧ C' 24 = C 24 + (1 : Int32) + lw (v >>> ((4 : Int32) &&& 31)) 4)
theorem rin2 {x lo hi : Int32} {a j b : Nat} (hx : x = nI j) (hlo : lo = nI a) (hhi : hi = nI b) (h1 : a ≤ j) (h2 : j ≤ b) (hb : b < 2 ^ 31) : R_in x lo hi = 1 := by
  unfold R_in
  rw [if_neg (c_ltf hx hlo (by omega) (by omega) h1), if_neg (c_ltf hhi hx (by omega) (by omega) h2)]
theorem rin_flow {k : Nat} (hk : k ≤ 100) : R_in (nI k - 50) (-200) 200 = 1 := by
  have e : (nI k - 50).toInt = (k : Int) - 50 := pk_sub_toInt (a := k) (b := 50) (by omega) (by omega)
  have e1 : ((-200 : Int32)).toInt = -200 := by decide
  have e2 : ((200 : Int32)).toInt = 200 := by decide
  unfold R_in
  rw [if_neg (fun z => by have := Int32.lt_iff_toInt_lt.mp z; rw [e, e1] at this; omega), if_neg (fun z => by have := Int32.lt_iff_toInt_lt.mp z; rw [e, e2] at this; omega)]
theorem cset_ok {A : Nat → Int32} {x d : Int32} {k : Nat} (hx : x = nI k) (hk : k ≤ 8) (h : R_in d (R_least x) (R_most k) = 1) : R_cSet A x d = 1 := by
  have n9 : ¬ x = 9 := fun z => by
    have := nI_injL (a := k) (b := 9) (by omega) (by omega) (hx.symm.trans z)
    omega
  have n10 : ¬ x = 10 := fun z => by
    have := nI_injL (a := k) (b := 10) (by omega) (by omega) (hx.symm.trans z)
    omega
  have h11 : R_in x 0 11 = 1 := rin2 hx (a := 0) (b := 11) rfl rfl (by omega) (by omega) (by omega)
  unfold R_cSet R_cSet2
  rw [h11, if_neg (by decide), cl_nI hx (by omega), h, if_neg (by decide), if_neg n9, if_neg n10]
theorem mkd_ex {A : Nat → Int32} (h : B01 A) (k : Nat) : k ≤ 501 → ∃ n, n ≤ k ∧ R_mkd A k = nI n := by
  induction k with
  | zero => exact fun _ => ⟨0, Nat.le_refl _, rfl⟩
  | succ k ih =>
    intro hk
    obtain ⟨n, hn, e⟩ := ih (by omega)
    rcases h k (by omega) with z | z
    · exact ⟨n, by omega, by rw [R_mkd, e, z, Int32.add_zero]⟩
    · exact ⟨n + 1, by omega, by rw [R_mkd, e, z]; exact (nI_succ n).symm⟩
section DPS
variable {v : Int32} {m : Nat} {C A : Nat → Int32} {W : Nat → Int64}
theorem dp_n {C' A' : Nat → Int32} {W' : Nat → Int64} {x : Int32} (h0 : 0 ≤ x ∨ v &&& 15 = 1) (h1 : AG C' W' A') (h2 : OKA A') (h3 : XA m A') (h4 : ¬ 11 < v &&& 15) : DP v m C C' W' x := ⟨h0, A', h1, h2, h3.weak (by omega), fun z => absurd z h4⟩
theorem k41 (o : OKA A) : cl (A 41) ≤ 15 := (cls_le o.1).2.2.2.1
theorem dp_setLevel {d : Int32} (hA : AG C W A) (o : OKA A) (x : XA m A) (hd : R_in d 0 (A 0) = 1) (h4 : ¬ 11 < v &&& 15) : DP v m C (upd C 1 d) W (C 1) :=
  dp_n (Or.inl (by rw [hA.1.lo (j := 1) (by omega)]; exact o.1.l1)) (AG_put hA (by omega) (by omega)) (OKA_level o hd) (XA_put x (k41 o) (by omega) (fun z => absurd z (by omega))) h4
theorem dp_setFlow {d : Int32} (hA : AG C W A) (o : OKA A) (x : XA m A) (hv : v &&& 15 = 1) (h4 : ¬ 11 < v &&& 15) : DP v m C (upd C 2 d) W (C 2) :=
  dp_n (Or.inr hv) (AG_put hA (by omega) (by omega)) (OKA_put o (by omega)) (XA_put x (k41 o) (by omega) (fun z => absurd z (by omega))) h4
theorem dp_setFoam {d : Int32} (hA : AG C W A) (o : OKA A) (x : XA m A) (hd : 0 ≤ d) (h4 : ¬ 11 < v &&& 15) : DP v m C (upd C 3 d) W (C 3) :=
  dp_n (Or.inl (by rw [hA.1.lo (j := 3) (by omega)]; exact x.2.1.1)) (AG_put hA (by omega) (by omega)) (OKA_put o (by omega)) (XA_put x (k41 o) (by omega) (fun _ => hd)) h4
theorem dp_setS {d : Int32} (hA : AG C W A) (o : OKA A) (x : XA m A) (hd : 0 ≤ d) (h4 : ¬ 11 < v &&& 15) : DP v m C (upd C 11 d) W (C 11) :=
  dp_n (Or.inl (by rw [hA.1.lo (j := 11) (by omega)]; exact x.2.1.2.1)) (AG_put hA (by omega) (by omega)) (OKA_put o (by omega)) (XA_put x (k41 o) (by omega) (fun _ => hd)) h4
theorem dp_addThing {d s : Int32} {k : Nat} (hA : AG C W A) (o : OKA A) (x : XA m A) (c4 : C 4 = nI k) (hk : k < 6) (hc : R_cThing d s = 1) (h4 : ¬ 11 < v &&& 15) : DP v m C (R_adds C k d s) W (R_adds C k d s 4 - 1) := by
  have a4 : A 4 = nI k := (hA.1.lo (j := 4) (by omega)).symm.trans c4
  refine dp_n (Or.inl ?_) (AG_adds hA a4 hk) (OKA_adds o a4 hk (by rw [hc]; decide)) (XA_adds x (k41 o) hk) h4
  rw [adds_4, c4, show nI k + 1 = nI (k + 1) from (nI_succ k).symm, show nI (k + 1) - 1 = nI (k + 1 - 1) from nsub rfl rfl (by omega)]
  exact nI_pos' (by omega)
theorem dp_removeThing (hA : AG C W A) (o : OKA A) (x : XA m A) (c4 : C 4 = nI (5 + 1)) (h4 : ¬ 11 < v &&& 15) : DP v m C (upd (K_dr C 0 5) 4 (K_dr C 0 5 4 - 1)) W (upd (K_dr C 0 5) 4 (K_dr C 0 5 4 - 1) 4) := by
  have a4 : A 4 = nI (5 + 1) := (hA.1.lo (j := 4) (by omega)).symm.trans c4
  refine dp_n (Or.inl ?_) (AG_rm hA a4 (by omega) (by omega)) (OKA_rm o a4 (by omega) (by omega)) (XA_rm x (k41 o)) h4
  rw [upd_s, show K_dr C 0 5 4 = C 4 from if_neg (by omega), c4]
  decide
theorem dp_setStirrer {b u w sp be : Int32} (hA : AG C W A) (o : OKA A) (x : XA m A) (hc : R_cStir b u w sp be = 1) (h4 : ¬ 11 < v &&& 15) : DP v m C (R_stirs C b u w sp be) W (C 5) := by
  obtain ⟨K, h5, hK⟩ := o.1.K5
  refine dp_n (Or.inl ?_) (AG_stirs hA) (OKA_stirs o (by rw [hc]; decide)) (XA_stirs x (k41 o)) h4
  rw [hA.1.lo (j := 5) (by omega), h5]
  exact nI_pos' (by omega)
theorem set_nn (o : OKA A) (x : XA m A) {k : Nat} (hk : k = 0 ∨ k = 1 ∨ k = 4 ∨ k = 5 ∨ k = 6 ∨ k = 7 ∨ k = 8) : 0 ≤ A (12 + k) := by
  obtain ⟨n3, n11, n12, n16, n17, n20⟩ := x.2.1
  obtain ⟨⟨j, e13, hj⟩, ⟨L, e18, -, hL⟩, ⟨f, e19, -, hf⟩, -⟩ := o.2.1
  rcases hk with rfl | rfl | rfl | rfl | rfl | rfl | rfl
  · exact n12
  · show 0 ≤ A 13; rw [e13]; exact nI_pos' (by omega)
  · exact n16
  · exact n17
  · show 0 ≤ A 18; rw [e18]; exact nI_pos' (by omega)
  · show 0 ≤ A 19; rw [e19]; exact nI_pos' (by omega)
  · exact n20
theorem dp_set {x0 d : Int32} {k : Nat} (hA : AG C W A) (o : OKA A) (x : XA m A) (hx : x0 = nI k) (hk : k = 0 ∨ k = 1 ∨ k = 4 ∨ k = 5 ∨ k = 7 ∨ k = 8) (hc : R_cSet A x0 d = 1) (hd : 0 ≤ d) (h4 : ¬ 11 < v &&& 15) : DP v m C (upd C (12 + k) d) W (C (12 + k)) :=
  dp_n (Or.inl (by rw [hA.1.lo (j := 12 + k) (by omega)]; exact set_nn o x (by omega))) (AG_sets hA o (by omega) (by omega)) (OKA_sets o hx (by omega) (by rw [hc]; decide)) (XA_sets x (k41 o) (by omega) hd) h4
theorem dp_set6 {x0 d : Int32} {K L : Nat} (hA : AG C W A) (o : OKA A) (x : XA m A) (hx : x0 = nI 6) (h31 : A 31 = nI K) (hK : K ≤ 9) (hd : d = nI L) (hL : L ≤ 9) (hc : R_cSet A x0 d = 1) (h4 : ¬ 11 < v &&& 15) : DP v m C (upd (upd C (12 + 6) d) 31 (nI (min K L))) W (C (12 + 6)) :=
  dp_n (Or.inl (by rw [hA.1.lo (j := 12 + 6) (by omega)]; exact set_nn o x (by omega))) (AG_sets6 hA h31 hK hd hL) (OKA_sets o hx (by omega) (by rw [hc]; decide)) (XA_sets x (k41 o) (by omega) (by rw [hd]; exact nI_pos' (by omega))) h4
theorem dp_mask {y : Int32} {n : Nat} (hA : AG C W A) (o : OKA A) (x : XA m A) (hn : n ≤ 500) (hy : y = 0 ∨ y = 1) (h4 : ¬ 11 < v &&& 15) : DP v m C (K_mputC C W n y) (K_mputW W n y) (K_bin W n) := by
  refine dp_n (Or.inl ?_) (AG_mask hA o hn hy) (OKA_mask hA o hn hy) (XA_put x (k41 o) (by omega) (fun z => absurd z (by omega))) h4
  rw [hA.2.1 n hn]
  rcases o.2.1.b01 n hn with z | z <;> rw [z] <;> decide
theorem dp_learn {s : Nat} (hA : AG C W A) (o : OKA A) (x : XA m A) (h4 : ¬ 11 < v &&& 15) : DP v m C (K_learns C W s).1 (K_learns C W s).2 ((K_learns C W s).1 647) := by
  obtain ⟨g', o'⟩ := OKA_learns hA o s
  refine dp_n (Or.inl ?_) g' o' (XA_learns hA o x s) h4
  obtain ⟨n, hn, e⟩ := mkd_ex o'.2.1.b01 501 (Nat.le_refl _)
  rw [show (K_learns C W s).1 647 = R_mkd (R_learns A s) 501 from g'.2.2, e]
  exact nI_pos' (by omega)
theorem dp_forget (hA : AG C W A) (o : OKA A) (x : XA m A) (h4 : ¬ 11 < v &&& 15) : DP v m C (upd C 647 0) (K_zero W 8) (C 647) := by
  refine dp_n (Or.inl ?_) (AG_forget hA o.1) (OKA_forget o) (XA_unm x (k41 o)) h4
  obtain ⟨n, hn, e⟩ := mkd_ex o.2.1.b01 501 (Nat.le_refl _)
  rw [show C 647 = R_mkd A 501 from hA.2.2, e]
  exact nI_pos' (by omega)
theorem dp_begin {d : Int32} (hm : m ≤ 160) (hA : AG C W A) (o : OKA A) (x : XA m A) (hd : R_in d 500 10000 = 1) (h4 : ¬ 11 < v &&& 15) : DP v m C (K_start C d) (K_zero W 8) (C 24) := by
  refine dp_n (A' := R_begins A d) (Or.inl ?_) (AG_begins (hA.1.lo (by omega))) (OKA_begins hd) (XA_begins x.2.1.2.1) h4
  obtain ⟨⟨a, b, h1, h2, h3, h5⟩, -⟩ := x
  rw [hA.1.lo (j := 24) (by omega), h1]
  exact nI_pos' (by omega)
theorem dp_shoot {s j : Nat} (hA : AG C W A) (o : OKA A) (x : XA m A) (e : lw (v >>> ((4 : Int32) &&& 31)) 4 = nI j) (hs : s = 1 + j) (hj : j < 4) : DP v m C (K_shots W C s) W (K_shots W C s 25 - C 25) := by
  obtain ⟨g', o'⟩ := OKA_shoots hA o s
  obtain ⟨x1, x2, x3, q, hq, x4⟩ := shoots_x hA o x s
  refine ⟨Or.inl ?_, _, g', o', x1.weak (by omega), fun _ => ⟨x2 (by omega), ?_⟩⟩
  · rw [g'.1.lo (j := 25) (by omega), x4, hA.1.lo (j := 25) (by omega), show A 25 + nI q - A 25 = nI q by grind]
    exact nI_pos' (by omega)
  · rw [g'.1.lo (j := 24) (by omega), x3, hA.1.lo (j := 24) (by omega), e, hs, Int32.add_assoc, show (1 : Int32) + nI j = nI (1 + j) from nadd rfl rfl]
end DPS
