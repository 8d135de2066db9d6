/-! the class: rows copied, the tank, the settings -/
theorem nlt0 {n : Nat} (h : n < 2 ^ 31) : ¬ nI n < 0 := fun z => Nat.not_lt_zero n ((nI_ltI h (by omega)).mp z)
theorem ar_cpyF {n : Nat} {f g : Nat → Int32} : (.inl (0, n, .inl (va_cpy f (tr n g) 0 0 n)) : va_E) = ar n f := by
  have : va_cpy f (tr n g) 0 0 n = tr n f := by
    funext j
    unfold va_cpy tr
    by_cases hj : j < n
    · rw [if_pos (by omega), if_pos hj]
      congr 1
      omega
    · rw [if_neg (by omega), if_neg hj, if_neg hj]
  rw [this]
theorem s_copyRow {om : OM} {l : Launch} {B : Nat × Nat} {h : Hp} {p q n : Nat} {f g : Nat → Int32} (hn : n ≤ 15) (hp : h.1 p = ar n f) (hq : h.1 q = ar n g) : Runs om l M_X10_copyRow B 0 (entL 2 [.ref p, .ref q]) [] h (Det none (hs h q (ar n f))) := by
  show Runs om l M_X10_copyRow B 0 [some (.ref p), some (.ref q)] [] _ _
  refine r_aload_n (pc := 0) dX10_copyRow_0 rfl rfl ?_
  refine r_iconst (v := 0) (pc := 1) dX10_copyRow_1 (by decide) ?_
  refine r_aload_n (pc := 2) dX10_copyRow_2 rfl rfl ?_
  refine r_iconst (v := 0) (pc := 3) dX10_copyRow_3 (by decide) ?_
  refine r_aload_n (pc := 4) dX10_copyRow_4 rfl rfl ?_
  refine r_alen (v := nI n) (pc := 5) dX10_copyRow_5 hp (by decide) rfl ?_
  refine r_aload_n (pc := 6) dX10_copyRow_6 rfl rfl ?_
  refine r_alen (v := nI n) (pc := 7) dX10_copyRow_7 hq (by decide) rfl ?_
  refine r_min (pc := 8) dX10_copyRow_8 rfl l_RX10_360 (by decide) (Nat.le_of_ble_eq_true rfl) ?_
  rw [ite_self]
  have e : (nI n).toNatClampNeg = n := nI_clamp (by omega)
  refine r_copyI (f := tr n f) (g := tr n g) (pc := 11) dX10_copyRow_11 rfl l_RX10_365 (by decide) (Nat.le_of_ble_eq_true rfl) hp hq (by decide) (by decide) (nlt0 (by omega)) (by rw [e]; exact Nat.le_of_eq (Nat.zero_add n)) (by rw [e]; exact Nat.le_of_eq (Nat.zero_add n)) ?_
  rw [e, show (0 : Int32).toNatClampNeg = 0 from rfl, ar_cpy]
  exact r_return (S := []) (pc := 14) dX10_copyRow_14 rfl ⟨rfl, rfl⟩
theorem s_copyRowF {om : OM} {l : Launch} {B : Nat × Nat} {h : Hp} {q : Nat} {g : Nat → Int32} (hq : h.1 q = ar 12 g) : Runs om l M_X10_copyRow B 0 (entL 2 [.ref 100001, .ref q]) [] h (Det none (hs h q (ar 12 (fun j => c_first.getD j 0)))) := by
  show Runs om l M_X10_copyRow B 0 [some (.ref 100001), some (.ref q)] [] _ _
  refine r_aload_n (pc := 0) dX10_copyRow_0 rfl rfl ?_
  refine r_iconst (v := 0) (pc := 1) dX10_copyRow_1 (by decide) ?_
  refine r_aload_n (pc := 2) dX10_copyRow_2 rfl rfl ?_
  refine r_iconst (v := 0) (pc := 3) dX10_copyRow_3 (by decide) ?_
  refine r_aload_n (pc := 4) dX10_copyRow_4 rfl rfl ?_
  refine r_talen (v := nI 12) (pc := 5) dX10_copyRow_5 (.tail _ (.head _)) rfl ?_
  refine r_aload_n (pc := 6) dX10_copyRow_6 rfl rfl ?_
  refine r_alen (v := nI 12) (pc := 7) dX10_copyRow_7 hq (by decide) rfl ?_
  refine r_min (pc := 8) dX10_copyRow_8 rfl l_RX10_360 (by decide) (Nat.le_of_ble_eq_true rfl) ?_
  rw [ite_self]
  refine r_copyF (g := tr 12 g) (pc := 11) dX10_copyRow_11 rfl l_RX10_365 (by decide) (Nat.le_of_ble_eq_true rfl) hq (by decide) (by decide) (by decide) (by decide) (by decide) ?_
  rw [show (nI 12).toNatClampNeg = 12 from rfl, show (0 : Int32).toNatClampNeg = 0 from rfl, ar_cpyF]
  exact r_return (S := []) (pc := 14) dX10_copyRow_14 rfl ⟨rfl, rfl⟩
/-- the places of one cell, from elsewhere -/
def blk (i : Nat) (C2 C : Nat → Int32) : Nat → Int32 := fun j => if ownc j = i then C2 j else C j
theorem sH_blk {h0 : Hp} {b : Nat} {C C2 : Nat → Int32} {W : Nat → Int64} {i : Nat} {e : va_E} (hi : i < 19) (he : sc b C2 W i = e) : hs (sH h0 b C W) (b + i) e = sH h0 b (blk i C2 C) W :=
  sH_hs hi ((sc_congr i fun _ hj => if_pos hj).trans he) fun m hm => sc_congr m fun _ hj => if_neg fun z => hm (hj.symm.trans z)
def C_fst (C : Nat → Int32) : Nat → Int32 := blk 5 (fun j => c_first.getD (j - 12) 0) C
theorem s_copyRow5 {om : OM} {l : Launch} {B : Nat × Nat} {h0 : Hp} {b : Nat} {C : Nat → Int32} {W : Nat → Int64} : Runs om l M_X10_copyRow B 0 (entL 2 [.ref 100001, .ref (b + 5)]) [] (sH h0 b C W) (Det none (sH h0 b (C_fst C) W)) := by
  have h1 : hs (sH h0 b C W) (b + 5) (ar 12 (fun j => c_first.getD j 0)) = sH h0 b (C_fst C) W := sH_blk (by decide) (ar_congr fun j _ => by show c_first.getD (12 + j - 12) 0 = _; rw [Nat.add_sub_cancel_left])
  rw [← h1]
  exact s_copyRowF (sH_at (i := 5) (by decide))
theorem s_copyRowB {om : OM} {l : Launch} {B : Nat × Nat} {h0 : Hp} {b b2 : Nat} {C C2 : Nat → Int32} {W W2 : Nat → Int64} (i : Nat) {n : Nat} {f g : Nat → Int32} (hd : b + 19 ≤ b2 ∨ b2 + 19 ≤ b) (hi : i < 19) (hn : n ≤ 15) (h2 : sc b2 C2 W2 i = ar n f) (h3 : sc b C2 W i = ar n f) (h1 : sc b C W i = ar n g) : Runs om l M_X10_copyRow B 0 (entL 2 [.ref (b2 + i), .ref (b + i)]) [] (sH (sH h0 b2 C2 W2) b C W) (Det none (sH (sH h0 b2 C2 W2) b (blk i C2 C) W)) := by
  rw [← sH_blk hi h3]
  exact s_copyRow hn ((sH_far hd hi).trans h2) ((sH_at hi).trans h1)
theorem max_gr {x y : Int32} : (if x < y then y else x) = R_greater x y := by
  unfold R_greater
  by_cases h : x < y
  · rw [if_pos h, if_pos (Int32.le_of_lt h)]
  · rw [if_neg h]
    by_cases h2 : x ≤ y
    · rw [if_pos h2]; exact Int32.le_antisymm h2 (Int32.not_lt.mp h)
    · rw [if_neg h2]
def K_lev (C : Nat → Int32) : Int32 := if R_greater 0 (C 1 + C 2) < C 0 then R_greater 0 (C 1 + C 2) else C 0
def K_move (C : Nat → Int32) : Nat → Int32 := upd (upd C 1 (K_lev C)) 8 (upd C 1 (K_lev C) 8 + upd C 1 (K_lev C) 9 - (upd C 1 (K_lev C) 8 + upd C 1 (K_lev C) 9) / 360 * 360)
def K_lt (x y : Int32) : Int32 := if y ≤ x then 0 else 1
def K_has (x n : Int32) : Int32 := if x < 0 then 0 else if n ≤ x then 0 else 1
def K_hasT (x n : Int32) : Int32 := if x < 0 then 0 else if n ≤ x then 0 else if 6 ≤ x then 0 else 1
theorem hasT_has {x n : Int32} {k : Nat} (hn : n = nI k) (hk : k ≤ 6) : K_hasT x n = K_has x n := by
  unfold K_hasT K_has
  by_cases h : x < 0
  · rw [if_pos h, if_pos h]
  · rw [if_neg h, if_neg h]
    by_cases h2 : n ≤ x
    · rw [if_pos h2, if_pos h2]
    · rw [if_neg h2, if_neg h2]
      refine if_neg (fun h6 => h2 (Int32.le_trans ?_ h6))
      rw [hn]
      exact (nI_leI (a := k) (b := 6) (by omega) (by omega)).mpr hk
def K_tres (C : Nat → Int32) : Nat → Int32 := upd (upd (upd (upd (upd (upd (upd (upd (upd (upd (upd (upd C 0 2000) 1 500) 2 0) 3 0) 4 0) 5 0) 6 300) 7 600) 8 0) 9 47) 10 20) 11 1
def K_dr (C : Nat → Int32) (x k : Nat) : Nat → Int32 := fun j => if 134 + 2 * x ≤ j ∧ j < 134 + 2 * k then C (j + 2) else C j
theorem K_dr_0 {C : Nat → Int32} {x : Nat} : K_dr C x x = C := funext fun j => if_neg (by omega)
theorem K_dr_s {C : Nat → Int32} {x k : Nat} (h : x ≤ k) : upd (upd (K_dr C x k) (134 + 2 * k) (K_dr C x k (134 + 2 * (k + 1)))) (134 + 2 * k + 1) (upd (K_dr C x k) (134 + 2 * k) (K_dr C x k (134 + 2 * (k + 1))) (134 + 2 * (k + 1) + 1)) = K_dr C x (k + 1) := by
  funext j
  unfold upd K_dr
  by_cases h1 : j = 134 + 2 * k + 1
  · subst h1; rw [if_pos rfl, if_neg (by omega), if_neg (by omega), if_pos (by omega)]; congr 1
  · rw [if_neg h1]
    by_cases h2 : j = 134 + 2 * k
    · subst h2; rw [if_pos rfl, if_neg (by omega), if_pos (by omega)]; congr 1
    · rw [if_neg h2]
      by_cases h3 : 134 + 2 * x ≤ j ∧ j < 134 + 2 * k
      · rw [if_pos h3, if_pos (by omega)]
      · rw [if_neg h3, if_neg (by omega)]
theorem s_X8_reset {om : OM} {l : Launch} {B : Nat × Nat} {h0 : Hp} {b : Nat} {C : Nat → Int32} {W : Nat → Int64}  : Runs om l M_X8_reset B 0 (entL 1 [.ref (b + 1)]) [] (sH h0 b C W) (Det (none) (sH h0 b (K_tres C) W)) := by
  show Runs om l M_X8_reset B 0 [some (.ref (b + 1))] [] _ _
  refine r_aload_n (pc := 0) dX8_reset_0 rfl rfl ?_
  refine r_sipush (v := 2000) (pc := 1) dX8_reset_1 (by decide) ?_
  refine cs_put (i := 1) 0 (pc := 4) dX8_reset_4 rfl f_RX8_21 (by decide) rfl (Nat.le_of_ble_eq_true rfl) rfl rfl ?_
  refine r_aload_n (pc := 7) dX8_reset_7 rfl rfl ?_
  refine r_sipush (v := 500) (pc := 8) dX8_reset_8 (by decide) ?_
  refine cs_put (i := 1) 1 (pc := 11) dX8_reset_11 rfl f_RX8_25 (by decide) rfl (Nat.le_of_ble_eq_true rfl) rfl rfl ?_
  refine r_aload_n (pc := 14) dX8_reset_14 rfl rfl ?_
  refine r_iconst (v := 0) (pc := 15) dX8_reset_15 (by decide) ?_
  refine cs_put (i := 1) 2 (pc := 16) dX8_reset_16 rfl f_RX8_28 (by decide) rfl (Nat.le_of_ble_eq_true rfl) rfl rfl ?_
  refine r_aload_n (pc := 19) dX8_reset_19 rfl rfl ?_
  refine r_iconst (v := 0) (pc := 20) dX8_reset_20 (by decide) ?_
  refine cs_put (i := 1) 3 (pc := 21) dX8_reset_21 rfl f_RX8_31 (by decide) rfl (Nat.le_of_ble_eq_true rfl) rfl rfl ?_
  refine r_aload_n (pc := 24) dX8_reset_24 rfl rfl ?_
  refine r_iconst (v := 0) (pc := 25) dX8_reset_25 (by decide) ?_
  refine cs_put (i := 1) 4 (pc := 26) dX8_reset_26 rfl f_RX8_34 (by decide) rfl (Nat.le_of_ble_eq_true rfl) rfl rfl ?_
  refine r_aload_n (pc := 29) dX8_reset_29 rfl rfl ?_
  refine r_iconst (v := 0) (pc := 30) dX8_reset_30 (by decide) ?_
  refine cs_put (i := 1) 5 (pc := 31) dX8_reset_31 rfl f_RX8_37 (by decide) rfl (Nat.le_of_ble_eq_true rfl) rfl rfl ?_
  refine r_aload_n (pc := 34) dX8_reset_34 rfl rfl ?_
  refine r_sipush (v := 300) (pc := 35) dX8_reset_35 (by decide) ?_
  refine cs_put (i := 1) 6 (pc := 38) dX8_reset_38 rfl f_RX8_40 (by decide) rfl (Nat.le_of_ble_eq_true rfl) rfl rfl ?_
  refine r_aload_n (pc := 41) dX8_reset_41 rfl rfl ?_
  refine r_sipush (v := 600) (pc := 42) dX8_reset_42 (by decide) ?_
  refine cs_put (i := 1) 7 (pc := 45) dX8_reset_45 rfl f_RX8_43 (by decide) rfl (Nat.le_of_ble_eq_true rfl) rfl rfl ?_
  refine r_aload_n (pc := 48) dX8_reset_48 rfl rfl ?_
  refine r_iconst (v := 0) (pc := 49) dX8_reset_49 (by decide) ?_
  refine cs_put (i := 1) 8 (pc := 50) dX8_reset_50 rfl f_RX8_46 (by decide) rfl (Nat.le_of_ble_eq_true rfl) rfl rfl ?_
  refine r_aload_n (pc := 53) dX8_reset_53 rfl rfl ?_
  refine r_bipush (v := 47) (pc := 54) dX8_reset_54 (by decide) ?_
  refine cs_put (i := 1) 9 (pc := 56) dX8_reset_56 rfl f_RX8_49 (by decide) rfl (Nat.le_of_ble_eq_true rfl) rfl rfl ?_
  refine r_aload_n (pc := 59) dX8_reset_59 rfl rfl ?_
  refine r_bipush (v := 20) (pc := 60) dX8_reset_60 (by decide) ?_
  refine cs_put (i := 1) 10 (pc := 62) dX8_reset_62 rfl f_RX8_52 (by decide) rfl (Nat.le_of_ble_eq_true rfl) rfl rfl ?_
  refine r_aload_n (pc := 65) dX8_reset_65 rfl rfl ?_
  refine r_iconst (v := 1) (pc := 66) dX8_reset_66 (by decide) ?_
  refine cs_put (i := 1) 11 (pc := 67) dX8_reset_67 rfl f_RX8_55 (by decide) rfl (Nat.le_of_ble_eq_true rfl) rfl rfl ?_
  exact r_return (S := []) (pc := 70) dX8_reset_70 rfl ⟨rfl, rfl⟩
theorem cp_X8_copyFrom {b : Nat} {C C2 : Nat → Int32} {W : Nat → Int64} (m : Nat) : sc b (blk 3 C2 (blk 2 C2 (blk 1 C2 C))) W m = sc b (upd (upd (upd (upd (upd (upd (upd (blk 3 C2 (blk 2 C2 (upd (upd (upd (upd (upd (C) 0 (C2 0)) 1 (C2 1)) 2 (C2 2)) 3 (C2 3)) 4 (C2 4)))) 5 (C2 5)) 6 (C2 6)) 7 (C2 7)) 8 (C2 8)) 9 (C2 9)) 10 (C2 10)) 11 (C2 11)) W m := by
  by_cases hm : m = 1
  · subst hm; rfl
  · refine sc_congr m fun j hj => ?_
    have hx : j < 0 ∨ 11 < j := by
      apply Classical.byContradiction; intro hc
      exact hm (hj.symm.trans (own_1 (by omega)))
    have e0 : ¬ j = 0 := by omega
    have e1 : ¬ j = 1 := by omega
    have e2 : ¬ j = 2 := by omega
    have e3 : ¬ j = 3 := by omega
    have e4 : ¬ j = 4 := by omega
    have e5 : ¬ j = 5 := by omega
    have e6 : ¬ j = 6 := by omega
    have e7 : ¬ j = 7 := by omega
    have e8 : ¬ j = 8 := by omega
    have e9 : ¬ j = 9 := by omega
    have e10 : ¬ j = 10 := by omega
    have e11 : ¬ j = 11 := by omega
    simp only [upd, blk, e0, e1, e2, e3, e4, e5, e6, e7, e8, e9, e10, e11, if_false, show ¬ m = 1 from hm, hj]
theorem s_X8_copyFrom {om : OM} {l : Launch} {B : Nat × Nat} {h0 : Hp} {b b2 : Nat} {C C2 : Nat → Int32} {W W2 : Nat → Int64} (hl : l.stackTraces = false) (hd : b + 19 ≤ b2 ∨ b2 + 19 ≤ b) : Runs om l M_X8_copyFrom B 0 (entL 2 [.ref (b + 1), .ref (b2 + 1)]) [] (sH ((sH h0 b2 C2 W2)) b C W) (Det (none) (sH ((sH h0 b2 C2 W2)) b (blk 3 C2 (blk 2 C2 (blk 1 C2 C))) W)) := by
  show Runs om l M_X8_copyFrom B 0 [some (.ref (b + 1)), some (.ref (b2 + 1))] [] _ _
  refine r_aload_n (pc := 0) dX8_copyFrom_0 rfl rfl ?_
  refine r_aload_n (pc := 1) dX8_copyFrom_1 rfl rfl ?_
  refine r_getfield (pc := 2) dX8_copyFrom_2 rfl f_RX8_21 (sH_far (i := 1) hd (by decide)) rfl ?_
  refine cs_put (i := 1) 0 (pc := 5) dX8_copyFrom_5 rfl f_RX8_21 (by decide) rfl (Nat.le_of_ble_eq_true rfl) rfl rfl ?_
  refine r_aload_n (pc := 8) dX8_copyFrom_8 rfl rfl ?_
  refine r_aload_n (pc := 9) dX8_copyFrom_9 rfl rfl ?_
  refine r_getfield (pc := 10) dX8_copyFrom_10 rfl f_RX8_25 (sH_far (i := 1) hd (by decide)) rfl ?_
  refine cs_put (i := 1) 1 (pc := 13) dX8_copyFrom_13 rfl f_RX8_25 (by decide) rfl (Nat.le_of_ble_eq_true rfl) rfl rfl ?_
  refine r_aload_n (pc := 16) dX8_copyFrom_16 rfl rfl ?_
  refine r_aload_n (pc := 17) dX8_copyFrom_17 rfl rfl ?_
  refine r_getfield (pc := 18) dX8_copyFrom_18 rfl f_RX8_28 (sH_far (i := 1) hd (by decide)) rfl ?_
  refine cs_put (i := 1) 2 (pc := 21) dX8_copyFrom_21 rfl f_RX8_28 (by decide) rfl (Nat.le_of_ble_eq_true rfl) rfl rfl ?_
  refine r_aload_n (pc := 24) dX8_copyFrom_24 rfl rfl ?_
  refine r_aload_n (pc := 25) dX8_copyFrom_25 rfl rfl ?_
  refine r_getfield (pc := 26) dX8_copyFrom_26 rfl f_RX8_31 (sH_far (i := 1) hd (by decide)) rfl ?_
  refine cs_put (i := 1) 3 (pc := 29) dX8_copyFrom_29 rfl f_RX8_31 (by decide) rfl (Nat.le_of_ble_eq_true rfl) rfl rfl ?_
  refine r_aload_n (pc := 32) dX8_copyFrom_32 rfl rfl ?_
  refine r_aload_n (pc := 33) dX8_copyFrom_33 rfl rfl ?_
  refine r_getfield (pc := 34) dX8_copyFrom_34 rfl f_RX8_34 (sH_far (i := 1) hd (by decide)) rfl ?_
  refine cs_put (i := 1) 4 (pc := 37) dX8_copyFrom_37 rfl f_RX8_34 (by decide) rfl (Nat.le_of_ble_eq_true rfl) rfl rfl ?_
  refine r_aload_n (pc := 40) dX8_copyFrom_40 rfl rfl ?_
  refine r_getfield (pc := 41) dX8_copyFrom_41 rfl f_RX8_9 (sH_far (i := 1) hd (by decide)) rfl ?_
  refine r_aload_n (pc := 44) dX8_copyFrom_44 rfl rfl ?_
  refine cs_get (i := 1) (pc := 45) dX8_copyFrom_45 rfl f_RX8_9 (by decide) rfl rfl ?_
  refine q_callSN (vs := [.ref _, .ref _]) (pc := 48) dX8_copyFrom_48 rfl l_RX8_58 rfl ⟨by decide, by decide⟩ rfl (Nat.le_of_ble_eq_true rfl) hl (Nat.le_of_ble_eq_true rfl) (s_copyRowB 2 (n := 6) hd (by decide) (by decide) rfl rfl rfl) sH_22 ?_
  refine r_aload_n (pc := 51) dX8_copyFrom_51 rfl rfl ?_
  refine r_getfield (pc := 52) dX8_copyFrom_52 rfl f_RX8_15 (sH_far (i := 1) hd (by decide)) rfl ?_
  refine r_aload_n (pc := 55) dX8_copyFrom_55 rfl rfl ?_
  refine cs_get (i := 1) (pc := 56) dX8_copyFrom_56 rfl f_RX8_15 (by decide) rfl rfl ?_
  refine q_callSN (vs := [.ref _, .ref _]) (pc := 59) dX8_copyFrom_59 rfl l_RX8_58 rfl ⟨by decide, by decide⟩ rfl (Nat.le_of_ble_eq_true rfl) hl (Nat.le_of_ble_eq_true rfl) (s_copyRowB 3 (n := 6) hd (by decide) (by decide) rfl rfl rfl) sH_22 ?_
  refine r_aload_n (pc := 62) dX8_copyFrom_62 rfl rfl ?_
  refine r_aload_n (pc := 63) dX8_copyFrom_63 rfl rfl ?_
  refine r_getfield (pc := 64) dX8_copyFrom_64 rfl f_RX8_37 (sH_far (i := 1) hd (by decide)) rfl ?_
  refine cs_put (i := 1) 5 (pc := 67) dX8_copyFrom_67 rfl f_RX8_37 (by decide) rfl (Nat.le_of_ble_eq_true rfl) rfl rfl ?_
  refine r_aload_n (pc := 70) dX8_copyFrom_70 rfl rfl ?_
  refine r_aload_n (pc := 71) dX8_copyFrom_71 rfl rfl ?_
  refine r_getfield (pc := 72) dX8_copyFrom_72 rfl f_RX8_40 (sH_far (i := 1) hd (by decide)) rfl ?_
  refine cs_put (i := 1) 6 (pc := 75) dX8_copyFrom_75 rfl f_RX8_40 (by decide) rfl (Nat.le_of_ble_eq_true rfl) rfl rfl ?_
  refine r_aload_n (pc := 78) dX8_copyFrom_78 rfl rfl ?_
  refine r_aload_n (pc := 79) dX8_copyFrom_79 rfl rfl ?_
  refine r_getfield (pc := 80) dX8_copyFrom_80 rfl f_RX8_43 (sH_far (i := 1) hd (by decide)) rfl ?_
  refine cs_put (i := 1) 7 (pc := 83) dX8_copyFrom_83 rfl f_RX8_43 (by decide) rfl (Nat.le_of_ble_eq_true rfl) rfl rfl ?_
  refine r_aload_n (pc := 86) dX8_copyFrom_86 rfl rfl ?_
  refine r_aload_n (pc := 87) dX8_copyFrom_87 rfl rfl ?_
  refine r_getfield (pc := 88) dX8_copyFrom_88 rfl f_RX8_46 (sH_far (i := 1) hd (by decide)) rfl ?_
  refine cs_put (i := 1) 8 (pc := 91) dX8_copyFrom_91 rfl f_RX8_46 (by decide) rfl (Nat.le_of_ble_eq_true rfl) rfl rfl ?_
  refine r_aload_n (pc := 94) dX8_copyFrom_94 rfl rfl ?_
  refine r_aload_n (pc := 95) dX8_copyFrom_95 rfl rfl ?_
  refine r_getfield (pc := 96) dX8_copyFrom_96 rfl f_RX8_49 (sH_far (i := 1) hd (by decide)) rfl ?_
  refine cs_put (i := 1) 9 (pc := 99) dX8_copyFrom_99 rfl f_RX8_49 (by decide) rfl (Nat.le_of_ble_eq_true rfl) rfl rfl ?_
  refine r_aload_n (pc := 102) dX8_copyFrom_102 rfl rfl ?_
  refine r_aload_n (pc := 103) dX8_copyFrom_103 rfl rfl ?_
  refine r_getfield (pc := 104) dX8_copyFrom_104 rfl f_RX8_52 (sH_far (i := 1) hd (by decide)) rfl ?_
  refine cs_put (i := 1) 10 (pc := 107) dX8_copyFrom_107 rfl f_RX8_52 (by decide) rfl (Nat.le_of_ble_eq_true rfl) rfl rfl ?_
  refine r_aload_n (pc := 110) dX8_copyFrom_110 rfl rfl ?_
  refine r_aload_n (pc := 111) dX8_copyFrom_111 rfl rfl ?_
  refine r_getfield (pc := 112) dX8_copyFrom_112 rfl f_RX8_55 (sH_far (i := 1) hd (by decide)) rfl ?_
  refine cs_put (i := 1) 11 (pc := 115) dX8_copyFrom_115 rfl f_RX8_55 (by decide) rfl (Nat.le_of_ble_eq_true rfl) rfl rfl ?_
  exact r_return (S := []) (pc := 118) dX8_copyFrom_118 rfl ⟨rfl, sH_eq fun m hm => (cp_X8_copyFrom m).symm⟩
theorem s_X8_allowsDepth {om : OM} {l : Launch} {B : Nat × Nat} {h0 : Hp} {b : Nat} {C : Nat → Int32} {W : Nat → Int64} (d : Int32) : Runs om l M_X8_allowsDepth B 0 (entL 1 [.int d]) [] (sH h0 b C W) (Det (some (.int (R_in d 500 10000))) (sH h0 b C W)) := by
  show Runs om l M_X8_allowsDepth B 0 [some (.int d)] [] _ _
  refine r_iload_n (pc := 0) dX8_allowsDepth_0 rfl rfl ?_
  refine r_sipush (v := 500) (pc := 1) dX8_allowsDepth_1 (by decide) ?_
  refine r_icmp_lt 18 (pc := 4) dX8_allowsDepth_4 (by decide) (fun c4 => ?_) (fun c4 => ?_)
  · refine r_iconst (v := 0) (pc := 18) dX8_allowsDepth_18 (by decide) ?_
    exact r_ireturn (S := []) (pc := 19) dX8_allowsDepth_19 rfl rfl ⟨by rw [R_in]; (repeat (first | rw [if_pos (by assumption)] | rw [if_neg (by assumption)])), rfl⟩
  · refine r_iload_n (pc := 7) dX8_allowsDepth_7 rfl rfl ?_
    refine r_sipush (v := 10000) (pc := 8) dX8_allowsDepth_8 (by decide) ?_
    refine r_icmp_gt 18 (pc := 11) dX8_allowsDepth_11 (by decide) (fun c11 => ?_) (fun c11 => ?_)
    · refine r_iconst (v := 0) (pc := 18) dX8_allowsDepth_18 (by decide) ?_
      exact r_ireturn (S := []) (pc := 19) dX8_allowsDepth_19 rfl rfl ⟨by rw [R_in]; (repeat (first | rw [if_pos (by assumption)] | rw [if_neg (by assumption)])), rfl⟩
    · refine r_iconst (v := 1) (pc := 14) dX8_allowsDepth_14 (by decide) ?_
      refine r_goto 19 (pc := 15) dX8_allowsDepth_15 (by decide) ?_
      exact r_ireturn (S := []) (pc := 19) dX8_allowsDepth_19 rfl rfl ⟨by rw [R_in]; (repeat (first | rw [if_pos (by assumption)] | rw [if_neg (by assumption)])), rfl⟩
theorem s_X8_allowsFlow {om : OM} {l : Launch} {B : Nat × Nat} {h0 : Hp} {b : Nat} {C : Nat → Int32} {W : Nat → Int64} (d : Int32) : Runs om l M_X8_allowsFlow B 0 (entL 1 [.int d]) [] (sH h0 b C W) (Det (some (.int (R_in d (-200) 200))) (sH h0 b C W)) := by
  show Runs om l M_X8_allowsFlow B 0 [some (.int d)] [] _ _
  refine r_iload_n (pc := 0) dX8_allowsFlow_0 rfl rfl ?_
  refine r_sipush (v := (-200)) (pc := 1) dX8_allowsFlow_1 (by decide) ?_
  refine r_icmp_lt 18 (pc := 4) dX8_allowsFlow_4 (by decide) (fun c4 => ?_) (fun c4 => ?_)
  · refine r_iconst (v := 0) (pc := 18) dX8_allowsFlow_18 (by decide) ?_
    exact r_ireturn (S := []) (pc := 19) dX8_allowsFlow_19 rfl rfl ⟨by rw [R_in]; (repeat (first | rw [if_pos (by assumption)] | rw [if_neg (by assumption)])), rfl⟩
  · refine r_iload_n (pc := 7) dX8_allowsFlow_7 rfl rfl ?_
    refine r_sipush (v := 200) (pc := 8) dX8_allowsFlow_8 (by decide) ?_
    refine r_icmp_gt 18 (pc := 11) dX8_allowsFlow_11 (by decide) (fun c11 => ?_) (fun c11 => ?_)
    · refine r_iconst (v := 0) (pc := 18) dX8_allowsFlow_18 (by decide) ?_
      exact r_ireturn (S := []) (pc := 19) dX8_allowsFlow_19 rfl rfl ⟨by rw [R_in]; (repeat (first | rw [if_pos (by assumption)] | rw [if_neg (by assumption)])), rfl⟩
    · refine r_iconst (v := 1) (pc := 14) dX8_allowsFlow_14 (by decide) ?_
      refine r_goto 19 (pc := 15) dX8_allowsFlow_15 (by decide) ?_
      exact r_ireturn (S := []) (pc := 19) dX8_allowsFlow_19 rfl rfl ⟨by rw [R_in]; (repeat (first | rw [if_pos (by assumption)] | rw [if_neg (by assumption)])), rfl⟩
theorem s_X8_allowsFoam {om : OM} {l : Launch} {B : Nat × Nat} {h0 : Hp} {b : Nat} {C : Nat → Int32} {W : Nat → Int64} (d : Int32) : Runs om l M_X8_allowsFoam B 0 (entL 1 [.int d]) [] (sH h0 b C W) (Det (some (.int (R_in d 0 500))) (sH h0 b C W)) := by
  show Runs om l M_X8_allowsFoam B 0 [some (.int d)] [] _ _
  refine r_iload_n (pc := 0) dX8_allowsFoam_0 rfl rfl ?_
  refine r_if_lt 15 (pc := 1) dX8_allowsFoam_1 (by decide) (fun c1 => ?_) (fun c1 => ?_)
  · refine r_iconst (v := 0) (pc := 15) dX8_allowsFoam_15 (by decide) ?_
    exact r_ireturn (S := []) (pc := 16) dX8_allowsFoam_16 rfl rfl ⟨by rw [R_in]; (repeat (first | rw [if_pos (by assumption)] | rw [if_neg (by assumption)])), rfl⟩
  · refine r_iload_n (pc := 4) dX8_allowsFoam_4 rfl rfl ?_
    refine r_sipush (v := 500) (pc := 5) dX8_allowsFoam_5 (by decide) ?_
    refine r_icmp_gt 15 (pc := 8) dX8_allowsFoam_8 (by decide) (fun c8 => ?_) (fun c8 => ?_)
    · refine r_iconst (v := 0) (pc := 15) dX8_allowsFoam_15 (by decide) ?_
      exact r_ireturn (S := []) (pc := 16) dX8_allowsFoam_16 rfl rfl ⟨by rw [R_in]; (repeat (first | rw [if_pos (by assumption)] | rw [if_neg (by assumption)])), rfl⟩
    · refine r_iconst (v := 1) (pc := 11) dX8_allowsFoam_11 (by decide) ?_
      refine r_goto 16 (pc := 12) dX8_allowsFoam_12 (by decide) ?_
      exact r_ireturn (S := []) (pc := 16) dX8_allowsFoam_16 rfl rfl ⟨by rw [R_in]; (repeat (first | rw [if_pos (by assumption)] | rw [if_neg (by assumption)])), rfl⟩
theorem s_X8_allowsLevel {om : OM} {l : Launch} {B : Nat × Nat} {h0 : Hp} {b : Nat} {C : Nat → Int32} {W : Nat → Int64} (d : Int32) : Runs om l M_X8_allowsLevel B 0 (entL 2 [.ref (b + 1), .int d]) [] (sH h0 b C W) (Det (some (.int (R_in d 0 (C 0)))) (sH h0 b C W)) := by
  show Runs om l M_X8_allowsLevel B 0 [some (.ref (b + 1)), some (.int d)] [] _ _
  refine r_iload_n (pc := 0) dX8_allowsLevel_0 rfl rfl ?_
  refine r_if_lt 16 (pc := 1) dX8_allowsLevel_1 (by decide) (fun c1 => ?_) (fun c1 => ?_)
  · refine r_iconst (v := 0) (pc := 16) dX8_allowsLevel_16 (by decide) ?_
    exact r_ireturn (S := []) (pc := 17) dX8_allowsLevel_17 rfl rfl ⟨by rw [R_in]; (repeat (first | rw [if_pos (by assumption)] | rw [if_neg (by assumption)])), rfl⟩
  · refine r_iload_n (pc := 4) dX8_allowsLevel_4 rfl rfl ?_
    refine r_aload_n (pc := 5) dX8_allowsLevel_5 rfl rfl ?_
    refine cs_get (i := 1) (pc := 6) dX8_allowsLevel_6 rfl f_RX8_21 (by decide) rfl rfl ?_
    refine r_icmp_gt 16 (pc := 9) dX8_allowsLevel_9 (by decide) (fun c9 => ?_) (fun c9 => ?_)
    · refine r_iconst (v := 0) (pc := 16) dX8_allowsLevel_16 (by decide) ?_
      exact r_ireturn (S := []) (pc := 17) dX8_allowsLevel_17 rfl rfl ⟨by rw [R_in]; (repeat (first | rw [if_pos (by assumption)] | rw [if_neg (by assumption)])), rfl⟩
    · refine r_iconst (v := 1) (pc := 12) dX8_allowsLevel_12 (by decide) ?_
      refine r_goto 17 (pc := 13) dX8_allowsLevel_13 (by decide) ?_
      exact r_ireturn (S := []) (pc := 17) dX8_allowsLevel_17 rfl rfl ⟨by rw [R_in]; (repeat (first | rw [if_pos (by assumption)] | rw [if_neg (by assumption)])), rfl⟩
theorem s_X10_allowsDistance {om : OM} {l : Launch} {B : Nat × Nat} {h : Hp} (d : Int32) : Runs om l M_X10_allowsDistance B 0 (entL 1 [.int d]) [] h (Det (some (.int (R_in d 0 10000))) h) := by
  show Runs om l M_X10_allowsDistance B 0 [some (.int d)] [] _ _
  refine r_iload_n (pc := 0) dX10_allowsDistance_0 rfl rfl ?_
  refine r_if_lt 15 (pc := 1) dX10_allowsDistance_1 (by decide) (fun c1 => ?_) (fun c1 => ?_)
  · refine r_iconst (v := 0) (pc := 15) dX10_allowsDistance_15 (by decide) ?_
    exact r_ireturn (S := []) (pc := 16) dX10_allowsDistance_16 rfl rfl ⟨by rw [R_in]; (repeat (first | rw [if_pos (by assumption)] | rw [if_neg (by assumption)])), rfl⟩
  · refine r_iload_n (pc := 4) dX10_allowsDistance_4 rfl rfl ?_
    refine r_sipush (v := 10000) (pc := 5) dX10_allowsDistance_5 (by decide) ?_
    refine r_icmp_gt 15 (pc := 8) dX10_allowsDistance_8 (by decide) (fun c8 => ?_) (fun c8 => ?_)
    · refine r_iconst (v := 0) (pc := 15) dX10_allowsDistance_15 (by decide) ?_
      exact r_ireturn (S := []) (pc := 16) dX10_allowsDistance_16 rfl rfl ⟨by rw [R_in]; (repeat (first | rw [if_pos (by assumption)] | rw [if_neg (by assumption)])), rfl⟩
    · refine r_iconst (v := 1) (pc := 11) dX10_allowsDistance_11 (by decide) ?_
      refine r_goto 16 (pc := 12) dX10_allowsDistance_12 (by decide) ?_
      exact r_ireturn (S := []) (pc := 16) dX10_allowsDistance_16 rfl rfl ⟨by rw [R_in]; (repeat (first | rw [if_pos (by assumption)] | rw [if_neg (by assumption)])), rfl⟩
theorem s_X10_allowsShooting {om : OM} {l : Launch} {B : Nat × Nat} {h : Hp} (d : Int32) : Runs om l M_X10_allowsShooting B 0 (entL 1 [.int d]) [] h (Det (some (.int (R_in d 1 500))) h) := by
  show Runs om l M_X10_allowsShooting B 0 [some (.int d)] [] _ _
  refine r_iload_n (pc := 0) dX10_allowsShooting_0 rfl rfl ?_
  refine r_iconst (v := 1) (pc := 1) dX10_allowsShooting_1 (by decide) ?_
  refine r_icmp_lt 16 (pc := 2) dX10_allowsShooting_2 (by decide) (fun c2 => ?_) (fun c2 => ?_)
  · refine r_iconst (v := 0) (pc := 16) dX10_allowsShooting_16 (by decide) ?_
    exact r_ireturn (S := []) (pc := 17) dX10_allowsShooting_17 rfl rfl ⟨by rw [R_in]; (repeat (first | rw [if_pos (by assumption)] | rw [if_neg (by assumption)])), rfl⟩
  · refine r_iload_n (pc := 5) dX10_allowsShooting_5 rfl rfl ?_
    refine r_sipush (v := 500) (pc := 6) dX10_allowsShooting_6 (by decide) ?_
    refine r_icmp_gt 16 (pc := 9) dX10_allowsShooting_9 (by decide) (fun c9 => ?_) (fun c9 => ?_)
    · refine r_iconst (v := 0) (pc := 16) dX10_allowsShooting_16 (by decide) ?_
      exact r_ireturn (S := []) (pc := 17) dX10_allowsShooting_17 rfl rfl ⟨by rw [R_in]; (repeat (first | rw [if_pos (by assumption)] | rw [if_neg (by assumption)])), rfl⟩
    · refine r_iconst (v := 1) (pc := 12) dX10_allowsShooting_12 (by decide) ?_
      refine r_goto 17 (pc := 13) dX10_allowsShooting_13 (by decide) ?_
      exact r_ireturn (S := []) (pc := 17) dX10_allowsShooting_17 rfl rfl ⟨by rw [R_in]; (repeat (first | rw [if_pos (by assumption)] | rw [if_neg (by assumption)])), rfl⟩
theorem s_X10_allowsLearning {om : OM} {l : Launch} {B : Nat × Nat} {h : Hp} (d : Int32) : Runs om l M_X10_allowsLearning B 0 (entL 1 [.int d]) [] h (Det (some (.int (R_in d 1 50))) h) := by
  show Runs om l M_X10_allowsLearning B 0 [some (.int d)] [] _ _
  refine r_iload_n (pc := 0) dX10_allowsLearning_0 rfl rfl ?_
  refine r_iconst (v := 1) (pc := 1) dX10_allowsLearning_1 (by decide) ?_
  refine r_icmp_lt 15 (pc := 2) dX10_allowsLearning_2 (by decide) (fun c2 => ?_) (fun c2 => ?_)
  · refine r_iconst (v := 0) (pc := 15) dX10_allowsLearning_15 (by decide) ?_
    exact r_ireturn (S := []) (pc := 16) dX10_allowsLearning_16 rfl rfl ⟨by rw [R_in]; (repeat (first | rw [if_pos (by assumption)] | rw [if_neg (by assumption)])), rfl⟩
  · refine r_iload_n (pc := 5) dX10_allowsLearning_5 rfl rfl ?_
    refine r_bipush (v := 50) (pc := 6) dX10_allowsLearning_6 (by decide) ?_
    refine r_icmp_gt 15 (pc := 8) dX10_allowsLearning_8 (by decide) (fun c8 => ?_) (fun c8 => ?_)
    · refine r_iconst (v := 0) (pc := 15) dX10_allowsLearning_15 (by decide) ?_
      exact r_ireturn (S := []) (pc := 16) dX10_allowsLearning_16 rfl rfl ⟨by rw [R_in]; (repeat (first | rw [if_pos (by assumption)] | rw [if_neg (by assumption)])), rfl⟩
    · refine r_iconst (v := 1) (pc := 11) dX10_allowsLearning_11 (by decide) ?_
      refine r_goto 16 (pc := 12) dX10_allowsLearning_12 (by decide) ?_
      exact r_ireturn (S := []) (pc := 16) dX10_allowsLearning_16 rfl rfl ⟨by rw [R_in]; (repeat (first | rw [if_pos (by assumption)] | rw [if_neg (by assumption)])), rfl⟩
theorem s_X8_allowsThing {om : OM} {l : Launch} {B : Nat × Nat} {h : Hp} (hl : l.stackTraces = false) (d s : Int32) : Runs om l M_X8_allowsThing B 0 (entL 2 [.int d, .int s]) [] h (Det (some (.int (R_cThing d s))) h) := by
  show Runs om l M_X8_allowsThing B 0 [some (.int d), some (.int s)] [] _ _
  refine r_iload_n (pc := 0) dX8_allowsThing_0 rfl rfl ?_
  refine q_callSN (vs := [.int _]) (pc := 1) dX8_allowsThing_1 rfl l_RX8_62 rfl ⟨by decide, by decide⟩ rfl (Nat.le_of_ble_eq_true rfl) hl (Nat.le_of_ble_eq_true rfl) (s_X10_allowsDistance _) rfl ?_
  refine r_if_eq 22 (pc := 4) dX8_allowsThing_4 (by decide) (fun c4 => ?_) (fun c4 => ?_)
  · refine r_iconst (v := 0) (pc := 22) dX8_allowsThing_22 (by decide) ?_
    exact r_ireturn (S := []) (pc := 23) dX8_allowsThing_23 rfl rfl ⟨by rw [R_cThing, show R_in s 1 100 = (if s < 1 then 0 else if 100 < s then 0 else 1) from rfl]; simp only [*, if_true, if_false]; try rfl, rfl⟩
  · refine r_iload_n (pc := 7) dX8_allowsThing_7 rfl rfl ?_
    refine r_iconst (v := 1) (pc := 8) dX8_allowsThing_8 (by decide) ?_
    refine r_icmp_lt 22 (pc := 9) dX8_allowsThing_9 (by decide) (fun c9 => ?_) (fun c9 => ?_)
    · refine r_iconst (v := 0) (pc := 22) dX8_allowsThing_22 (by decide) ?_
      exact r_ireturn (S := []) (pc := 23) dX8_allowsThing_23 rfl rfl ⟨by rw [R_cThing, show R_in s 1 100 = (if s < 1 then 0 else if 100 < s then 0 else 1) from rfl]; simp only [*, if_true, if_false]; try rfl, rfl⟩
    · refine r_iload_n (pc := 12) dX8_allowsThing_12 rfl rfl ?_
      refine r_bipush (v := 100) (pc := 13) dX8_allowsThing_13 (by decide) ?_
      refine r_icmp_gt 22 (pc := 15) dX8_allowsThing_15 (by decide) (fun c15 => ?_) (fun c15 => ?_)
      · refine r_iconst (v := 0) (pc := 22) dX8_allowsThing_22 (by decide) ?_
        exact r_ireturn (S := []) (pc := 23) dX8_allowsThing_23 rfl rfl ⟨by rw [R_cThing, show R_in s 1 100 = (if s < 1 then 0 else if 100 < s then 0 else 1) from rfl]; simp only [*, if_true, if_false]; try rfl, rfl⟩
      · refine r_iconst (v := 1) (pc := 18) dX8_allowsThing_18 (by decide) ?_
        refine r_goto 23 (pc := 19) dX8_allowsThing_19 (by decide) ?_
        exact r_ireturn (S := []) (pc := 23) dX8_allowsThing_23 rfl rfl ⟨by rw [R_cThing, show R_in s 1 100 = (if s < 1 then 0 else if 100 < s then 0 else 1) from rfl]; simp only [*, if_true, if_false]; try rfl, rfl⟩
theorem s_X8_allowsStirrer {om : OM} {l : Launch} {B : Nat × Nat} {h : Hp} (hl : l.stackTraces = false) (p u x sp be : Int32) : Runs om l M_X8_allowsStirrer B 0 (entL 5 [.int p, .int u, .int x, .int sp, .int be]) [] h (Det (some (.int (R_cStir p u x sp be))) h) := by
  show Runs om l M_X8_allowsStirrer B 0 [some (.int p), some (.int u), some (.int x), some (.int sp), some (.int be)] [] _ _
  refine r_iload_n (pc := 0) dX8_allowsStirrer_0 rfl rfl ?_
  refine r_if_lt 56 (pc := 1) dX8_allowsStirrer_1 (by decide) (fun c1 => ?_) (fun c1 => ?_)
  · refine r_iconst (v := 0) (pc := 56) dX8_allowsStirrer_56 (by decide) ?_
    exact r_ireturn (S := []) (pc := 57) dX8_allowsStirrer_57 rfl rfl ⟨by rw [R_cStir, show R_in p 0 6 = (if p < 0 then 0 else if 6 < p then 0 else 1) from rfl, show R_in sp 0 359 = (if sp < 0 then 0 else if 359 < sp then 0 else 1) from rfl, show R_in be 0 90 = (if be < 0 then 0 else if 90 < be then 0 else 1) from rfl]; simp only [*, if_true, if_false]; try rfl, rfl⟩
  · refine r_iload_n (pc := 4) dX8_allowsStirrer_4 rfl rfl ?_
    refine r_bipush (v := 6) (pc := 5) dX8_allowsStirrer_5 (by decide) ?_
    refine r_icmp_gt 56 (pc := 7) dX8_allowsStirrer_7 (by decide) (fun c7 => ?_) (fun c7 => ?_)
    · refine r_iconst (v := 0) (pc := 56) dX8_allowsStirrer_56 (by decide) ?_
      exact r_ireturn (S := []) (pc := 57) dX8_allowsStirrer_57 rfl rfl ⟨by rw [R_cStir, show R_in p 0 6 = (if p < 0 then 0 else if 6 < p then 0 else 1) from rfl, show R_in sp 0 359 = (if sp < 0 then 0 else if 359 < sp then 0 else 1) from rfl, show R_in be 0 90 = (if be < 0 then 0 else if 90 < be then 0 else 1) from rfl]; simp only [*, if_true, if_false]; try rfl, rfl⟩
    · refine r_iload_n (pc := 10) dX8_allowsStirrer_10 rfl rfl ?_
      refine q_callSN (vs := [.int _]) (pc := 11) dX8_allowsStirrer_11 rfl l_RX8_62 rfl ⟨by decide, by decide⟩ rfl (Nat.le_of_ble_eq_true rfl) hl (Nat.le_of_ble_eq_true rfl) (s_X10_allowsDistance _) rfl ?_
      refine r_if_eq 56 (pc := 14) dX8_allowsStirrer_14 (by decide) (fun c14 => ?_) (fun c14 => ?_)
      · refine r_iconst (v := 0) (pc := 56) dX8_allowsStirrer_56 (by decide) ?_
        exact r_ireturn (S := []) (pc := 57) dX8_allowsStirrer_57 rfl rfl ⟨by rw [R_cStir, show R_in p 0 6 = (if p < 0 then 0 else if 6 < p then 0 else 1) from rfl, show R_in sp 0 359 = (if sp < 0 then 0 else if 359 < sp then 0 else 1) from rfl, show R_in be 0 90 = (if be < 0 then 0 else if 90 < be then 0 else 1) from rfl]; simp only [*, if_true, if_false]; try rfl, rfl⟩
      · refine r_iload_n (pc := 17) dX8_allowsStirrer_17 rfl rfl ?_
        refine q_callSN (vs := [.int _]) (pc := 18) dX8_allowsStirrer_18 rfl l_RX8_62 rfl ⟨by decide, by decide⟩ rfl (Nat.le_of_ble_eq_true rfl) hl (Nat.le_of_ble_eq_true rfl) (s_X10_allowsDistance _) rfl ?_
        refine r_if_eq 56 (pc := 21) dX8_allowsStirrer_21 (by decide) (fun c21 => ?_) (fun c21 => ?_)
        · refine r_iconst (v := 0) (pc := 56) dX8_allowsStirrer_56 (by decide) ?_
          exact r_ireturn (S := []) (pc := 57) dX8_allowsStirrer_57 rfl rfl ⟨by rw [R_cStir, show R_in p 0 6 = (if p < 0 then 0 else if 6 < p then 0 else 1) from rfl, show R_in sp 0 359 = (if sp < 0 then 0 else if 359 < sp then 0 else 1) from rfl, show R_in be 0 90 = (if be < 0 then 0 else if 90 < be then 0 else 1) from rfl]; simp only [*, if_true, if_false]; try rfl, rfl⟩
        · refine r_iload_n (pc := 24) dX8_allowsStirrer_24 rfl rfl ?_
          refine r_iload_n (pc := 25) dX8_allowsStirrer_25 rfl rfl ?_
          refine r_icmp_ge 56 (pc := 26) dX8_allowsStirrer_26 (by decide) (fun c26 => ?_) (fun c26 => ?_)
          · refine r_iconst (v := 0) (pc := 56) dX8_allowsStirrer_56 (by decide) ?_
            exact r_ireturn (S := []) (pc := 57) dX8_allowsStirrer_57 rfl rfl ⟨by rw [R_cStir, show R_in p 0 6 = (if p < 0 then 0 else if 6 < p then 0 else 1) from rfl, show R_in sp 0 359 = (if sp < 0 then 0 else if 359 < sp then 0 else 1) from rfl, show R_in be 0 90 = (if be < 0 then 0 else if 90 < be then 0 else 1) from rfl]; simp only [*, if_true, if_false]; try rfl, rfl⟩
          · refine r_iload_n (pc := 29) dX8_allowsStirrer_29 rfl rfl ?_
            refine r_if_lt 56 (pc := 30) dX8_allowsStirrer_30 (by decide) (fun c30 => ?_) (fun c30 => ?_)
            · refine r_iconst (v := 0) (pc := 56) dX8_allowsStirrer_56 (by decide) ?_
              exact r_ireturn (S := []) (pc := 57) dX8_allowsStirrer_57 rfl rfl ⟨by rw [R_cStir, show R_in p 0 6 = (if p < 0 then 0 else if 6 < p then 0 else 1) from rfl, show R_in sp 0 359 = (if sp < 0 then 0 else if 359 < sp then 0 else 1) from rfl, show R_in be 0 90 = (if be < 0 then 0 else if 90 < be then 0 else 1) from rfl]; simp only [*, if_true, if_false]; try rfl, rfl⟩
            · refine r_iload_n (pc := 33) dX8_allowsStirrer_33 rfl rfl ?_
              refine r_sipush (v := 359) (pc := 34) dX8_allowsStirrer_34 (by decide) ?_
              refine r_icmp_gt 56 (pc := 37) dX8_allowsStirrer_37 (by decide) (fun c37 => ?_) (fun c37 => ?_)
              · refine r_iconst (v := 0) (pc := 56) dX8_allowsStirrer_56 (by decide) ?_
                exact r_ireturn (S := []) (pc := 57) dX8_allowsStirrer_57 rfl rfl ⟨by rw [R_cStir, show R_in p 0 6 = (if p < 0 then 0 else if 6 < p then 0 else 1) from rfl, show R_in sp 0 359 = (if sp < 0 then 0 else if 359 < sp then 0 else 1) from rfl, show R_in be 0 90 = (if be < 0 then 0 else if 90 < be then 0 else 1) from rfl]; simp only [*, if_true, if_false]; try rfl, rfl⟩
              · refine r_iload (pc := 40) dX8_allowsStirrer_40 rfl ?_
                refine r_if_lt 56 (pc := 42) dX8_allowsStirrer_42 (by decide) (fun c42 => ?_) (fun c42 => ?_)
                · refine r_iconst (v := 0) (pc := 56) dX8_allowsStirrer_56 (by decide) ?_
                  exact r_ireturn (S := []) (pc := 57) dX8_allowsStirrer_57 rfl rfl ⟨by rw [R_cStir, show R_in p 0 6 = (if p < 0 then 0 else if 6 < p then 0 else 1) from rfl, show R_in sp 0 359 = (if sp < 0 then 0 else if 359 < sp then 0 else 1) from rfl, show R_in be 0 90 = (if be < 0 then 0 else if 90 < be then 0 else 1) from rfl]; simp only [*, if_true, if_false]; try rfl, rfl⟩
                · refine r_iload (pc := 45) dX8_allowsStirrer_45 rfl ?_
                  refine r_bipush (v := 90) (pc := 47) dX8_allowsStirrer_47 (by decide) ?_
                  refine r_icmp_gt 56 (pc := 49) dX8_allowsStirrer_49 (by decide) (fun c49 => ?_) (fun c49 => ?_)
                  · refine r_iconst (v := 0) (pc := 56) dX8_allowsStirrer_56 (by decide) ?_
                    exact r_ireturn (S := []) (pc := 57) dX8_allowsStirrer_57 rfl rfl ⟨by rw [R_cStir, show R_in p 0 6 = (if p < 0 then 0 else if 6 < p then 0 else 1) from rfl, show R_in sp 0 359 = (if sp < 0 then 0 else if 359 < sp then 0 else 1) from rfl, show R_in be 0 90 = (if be < 0 then 0 else if 90 < be then 0 else 1) from rfl]; simp only [*, if_true, if_false]; try rfl, rfl⟩
                  · refine r_iconst (v := 1) (pc := 52) dX8_allowsStirrer_52 (by decide) ?_
                    refine r_goto 57 (pc := 53) dX8_allowsStirrer_53 (by decide) ?_
                    exact r_ireturn (S := []) (pc := 57) dX8_allowsStirrer_57 rfl rfl ⟨by rw [R_cStir, show R_in p 0 6 = (if p < 0 then 0 else if 6 < p then 0 else 1) from rfl, show R_in sp 0 359 = (if sp < 0 then 0 else if 359 < sp then 0 else 1) from rfl, show R_in be 0 90 = (if be < 0 then 0 else if 90 < be then 0 else 1) from rfl]; simp only [*, if_true, if_false]; try rfl, rfl⟩
theorem s_X8_hasPlaceForThing {om : OM} {l : Launch} {B : Nat × Nat} {h0 : Hp} {b : Nat} {C : Nat → Int32} {W : Nat → Int64}  : Runs om l M_X8_hasPlaceForThing B 0 (entL 1 [.ref (b + 1)]) [] (sH h0 b C W) (Det (some (.int (K_lt (C 4) 6))) (sH h0 b C W)) := by
  show Runs om l M_X8_hasPlaceForThing B 0 [some (.ref (b + 1))] [] _ _
  refine r_aload_n (pc := 0) dX8_hasPlaceForThing_0 rfl rfl ?_
  refine cs_get (i := 1) (pc := 1) dX8_hasPlaceForThing_1 rfl f_RX8_34 (by decide) rfl rfl ?_
  refine r_bipush (v := 6) (pc := 4) dX8_hasPlaceForThing_4 (by decide) ?_
  refine r_icmp_ge 13 (pc := 6) dX8_hasPlaceForThing_6 (by decide) (fun c6 => ?_) (fun c6 => ?_)
  · refine r_iconst (v := 0) (pc := 13) dX8_hasPlaceForThing_13 (by decide) ?_
    exact r_ireturn (S := []) (pc := 14) dX8_hasPlaceForThing_14 rfl rfl ⟨by rw [K_lt]; (repeat (first | rw [if_pos (by assumption)] | rw [if_neg (by assumption)])), rfl⟩
  · refine r_iconst (v := 1) (pc := 9) dX8_hasPlaceForThing_9 (by decide) ?_
    refine r_goto 14 (pc := 10) dX8_hasPlaceForThing_10 (by decide) ?_
    exact r_ireturn (S := []) (pc := 14) dX8_hasPlaceForThing_14 rfl rfl ⟨by rw [K_lt]; (repeat (first | rw [if_pos (by assumption)] | rw [if_neg (by assumption)])), rfl⟩
theorem s_X8_hasThing {om : OM} {l : Launch} {B : Nat × Nat} {h0 : Hp} {b : Nat} {C : Nat → Int32} {W : Nat → Int64} (x : Int32) : Runs om l M_X8_hasThing B 0 (entL 2 [.ref (b + 1), .int x]) [] (sH h0 b C W) (Det (some (.int (K_hasT x (C 4)))) (sH h0 b C W)) := by
  show Runs om l M_X8_hasThing B 0 [some (.ref (b + 1)), some (.int x)] [] _ _
  refine r_iload_n (pc := 0) dX8_hasThing_0 rfl rfl ?_
  refine r_if_lt 22 (pc := 1) dX8_hasThing_1 (by decide) (fun c1 => ?_) (fun c1 => ?_)
  · refine r_iconst (v := 0) (pc := 22) dX8_hasThing_22 (by decide) ?_
    exact r_ireturn (S := []) (pc := 23) dX8_hasThing_23 rfl rfl ⟨by rw [K_hasT]; (repeat (first | rw [if_pos (by assumption)] | rw [if_neg (by assumption)])), rfl⟩
  · refine r_iload_n (pc := 4) dX8_hasThing_4 rfl rfl ?_
    refine r_aload_n (pc := 5) dX8_hasThing_5 rfl rfl ?_
    refine cs_get (i := 1) (pc := 6) dX8_hasThing_6 rfl f_RX8_34 (by decide) rfl rfl ?_
    refine r_icmp_ge 22 (pc := 9) dX8_hasThing_9 (by decide) (fun c9 => ?_) (fun c9 => ?_)
    · refine r_iconst (v := 0) (pc := 22) dX8_hasThing_22 (by decide) ?_
      exact r_ireturn (S := []) (pc := 23) dX8_hasThing_23 rfl rfl ⟨by rw [K_hasT]; (repeat (first | rw [if_pos (by assumption)] | rw [if_neg (by assumption)])), rfl⟩
    · refine r_iload_n (pc := 12) dX8_hasThing_12 rfl rfl ?_
      refine r_bipush (v := 6) (pc := 13) dX8_hasThing_13 (by decide) ?_
      refine r_icmp_ge 22 (pc := 15) dX8_hasThing_15 (by decide) (fun c15 => ?_) (fun c15 => ?_)
      · refine r_iconst (v := 0) (pc := 22) dX8_hasThing_22 (by decide) ?_
        exact r_ireturn (S := []) (pc := 23) dX8_hasThing_23 rfl rfl ⟨by rw [K_hasT]; (repeat (first | rw [if_pos (by assumption)] | rw [if_neg (by assumption)])), rfl⟩
      · refine r_iconst (v := 1) (pc := 18) dX8_hasThing_18 (by decide) ?_
        refine r_goto 23 (pc := 19) dX8_hasThing_19 (by decide) ?_
        exact r_ireturn (S := []) (pc := 23) dX8_hasThing_23 rfl rfl ⟨by rw [K_hasT]; (repeat (first | rw [if_pos (by assumption)] | rw [if_neg (by assumption)])), rfl⟩
theorem has_1 {x n : Int32} {k K : Nat} (hx : x = nI k) (hn : n = nI K) (h : k < K) (hK : K < 2 ^ 31) : K_has x n = 1 := by
  unfold K_has
  rw [if_neg (by rw [hx]; exact nlt0 (by omega)), if_neg (c_gef hx hn (by omega) hK h)]
theorem hasT_1 {x n : Int32} {k K : Nat} (hx : x = nI k) (hn : n = nI K) (h : k < K) (hK : K ≤ 6) : K_hasT x n = 1 := (hasT_has hn hK).trans (has_1 hx hn h (by omega))
theorem s_X8_putThing {om : OM} {l : Launch} {B : Nat × Nat} {h0 : Hp} {b : Nat} {C : Nat → Int32} {W : Nat → Int64} (k : Nat) (h4 : C 4 = nI k) (hk : k < 6) (d s : Int32) : Runs om l M_X8_putThing B 0 (entL 3 [.ref (b + 1), .int d, .int s]) [] (sH h0 b C W) (Det (none) (sH h0 b (R_adds C k d s) W)) := by
  show Runs om l M_X8_putThing B 0 [some (.ref (b + 1)), some (.int d), some (.int s)] [] _ _
  refine r_aload_n (pc := 0) dX8_putThing_0 rfl rfl ?_
  refine cs_get (i := 1) (pc := 1) dX8_putThing_1 rfl f_RX8_34 (by decide) rfl rfl ?_
  refine r_if_lt 61 (pc := 4) dX8_putThing_4 (by decide) (fun c4 => absurd c4 (c_ltf h4 rfl (a := k) (b := 0) (by omega) (by omega) (by omega))) (fun c4 => ?_)
  refine r_aload_n (pc := 7) dX8_putThing_7 rfl rfl ?_
  refine cs_get (i := 1) (pc := 8) dX8_putThing_8 rfl f_RX8_34 (by decide) rfl rfl ?_
  refine r_aload_n (pc := 11) dX8_putThing_11 rfl rfl ?_
  refine cs_get (i := 1) (pc := 12) dX8_putThing_12 rfl f_RX8_9 (by decide) rfl rfl ?_
  refine cs_len (i := 2) (n := 6) (pc := 15) dX8_putThing_15 (by decide) rfl ?_
  refine r_icmp_ge 61 (pc := 16) dX8_putThing_16 (by decide) (fun c16 => absurd c16 (c_gef h4 rfl (a := k) (b := 6) (by omega) (by omega) (by omega))) (fun c16 => ?_)
  refine r_aload_n (pc := 19) dX8_putThing_19 rfl rfl ?_
  refine cs_get (i := 1) (pc := 20) dX8_putThing_20 rfl f_RX8_34 (by decide) rfl rfl ?_
  refine r_aload_n (pc := 23) dX8_putThing_23 rfl rfl ?_
  refine cs_get (i := 1) (pc := 24) dX8_putThing_24 rfl f_RX8_15 (by decide) rfl rfl ?_
  refine cs_len (i := 3) (n := 6) (pc := 27) dX8_putThing_27 (by decide) rfl ?_
  refine r_icmp_ge 61 (pc := 28) dX8_putThing_28 (by decide) (fun c28 => absurd c28 (c_gef h4 rfl (a := k) (b := 6) (by omega) (by omega) (by omega))) (fun c28 => ?_)
  refine r_aload_n (pc := 31) dX8_putThing_31 rfl rfl ?_
  refine cs_get (i := 1) (pc := 32) dX8_putThing_32 rfl f_RX8_9 (by decide) rfl rfl ?_
  refine r_aload_n (pc := 35) dX8_putThing_35 rfl rfl ?_
  refine cs_get (i := 1) (pc := 36) dX8_putThing_36 rfl f_RX8_34 (by decide) rfl rfl ?_
  refine r_iload_n (pc := 39) dX8_putThing_39 rfl rfl ?_
  refine cs_st (i := 2) (n := 6) (k := k) (134 + 2 * k) (pc := 40) dX8_putThing_40 (by decide) rfl h4 (by omega) (by decide) (ow_2 (by omega)) st_2 ?_
  refine r_aload_n (pc := 41) dX8_putThing_41 rfl rfl ?_
  refine cs_get (i := 1) (pc := 42) dX8_putThing_42 rfl f_RX8_15 (by decide) rfl rfl ?_
  refine r_aload_n (pc := 45) dX8_putThing_45 rfl rfl ?_
  refine cs_get (i := 1) (pc := 46) dX8_putThing_46 rfl f_RX8_34 (by decide) rfl rfl ?_
  refine r_iload_n (pc := 49) dX8_putThing_49 rfl rfl ?_
  refine cs_st (i := 3) (n := 6) (k := k) (134 + 2 * k + 1) (pc := 50) dX8_putThing_50 (by decide) rfl ((upd_n (by omega)).trans h4) (by omega) (by decide) (ow_3 (by omega)) st_3 ?_
  refine r_aload_n (pc := 51) dX8_putThing_51 rfl rfl ?_
  refine r_dup (pc := 52) dX8_putThing_52 rfl ?_
  refine cs_get (i := 1) (pc := 53) dX8_putThing_53 rfl f_RX8_34 (by decide) rfl rfl ?_
  refine r_iconst (v := 1) (pc := 56) dX8_putThing_56 (by decide) ?_
  refine r_iadd (pc := 57) dX8_putThing_57 ?_
  refine cs_put (i := 1) 4 (pc := 58) dX8_putThing_58 rfl f_RX8_34 (by decide) rfl (Nat.le_of_ble_eq_true rfl) rfl rfl ?_
  exact r_return (S := []) (pc := 61) dX8_putThing_61 rfl ⟨rfl, rfl⟩
theorem s_X8_thingDistance {om : OM} {l : Launch} {B : Nat × Nat} {h0 : Hp} {b : Nat} {C : Nat → Int32} {W : Nat → Int64} (hl : l.stackTraces = false) (x : Int32) (k K : Nat) (hx : x = nI k) (h4 : C 4 = nI K) (hk : k < K) (hK : K ≤ 6) : Runs om l M_X8_thingDistance B 0 (entL 2 [.ref (b + 1), .int x]) [] (sH h0 b C W) (Det (some (.int (C (134 + 2 * k)))) (sH h0 b C W)) := by
  show Runs om l M_X8_thingDistance B 0 [some (.ref (b + 1)), some (.int x)] [] _ _
  refine r_aload_n (pc := 0) dX8_thingDistance_0 rfl rfl ?_
  refine r_iload_n (pc := 1) dX8_thingDistance_1 rfl rfl ?_
  refine q_callV (ci := 7) (T := TX8) (N := 14) (vs := [.int _]) (pc := 2) dX8_thingDistance_2 rfl l_RX8_66 rfl ⟨by decide, by decide⟩ rfl (Nat.le_of_ble_eq_true rfl) hl (sH_at (i := 1) (by decide)) rfl (Nat.le_of_ble_eq_true rfl) (s_X8_hasThing _) sH_22 ?_
  refine r_if_eq 17 (pc := 5) dX8_thingDistance_5 (by decide) (fun c5 => absurd c5 (c_eqf (hasT_1 hx h4 hk hK) rfl (a := 1) (b := 0) (by omega) (by omega) (by omega))) (fun c5 => ?_)
  refine r_aload_n (pc := 8) dX8_thingDistance_8 rfl rfl ?_
  refine cs_get (i := 1) (pc := 9) dX8_thingDistance_9 rfl f_RX8_9 (by decide) rfl rfl ?_
  refine r_iload_n (pc := 12) dX8_thingDistance_12 rfl rfl ?_
  refine cs_ld (i := 2) (n := 6) (k := k) (pc := 13) dX8_thingDistance_13 (by decide) rfl hx (by omega) (by decide) ?_
  refine r_goto 18 (pc := 14) dX8_thingDistance_14 (by decide) ?_
  exact r_ireturn (S := []) (pc := 18) dX8_thingDistance_18 rfl rfl ⟨rfl, rfl⟩
theorem s_X8_thingStrength {om : OM} {l : Launch} {B : Nat × Nat} {h0 : Hp} {b : Nat} {C : Nat → Int32} {W : Nat → Int64} (hl : l.stackTraces = false) (x : Int32) (k K : Nat) (hx : x = nI k) (h4 : C 4 = nI K) (hk : k < K) (hK : K ≤ 6) : Runs om l M_X8_thingStrength B 0 (entL 2 [.ref (b + 1), .int x]) [] (sH h0 b C W) (Det (some (.int (C (134 + 2 * k + 1)))) (sH h0 b C W)) := by
  show Runs om l M_X8_thingStrength B 0 [some (.ref (b + 1)), some (.int x)] [] _ _
  refine r_aload_n (pc := 0) dX8_thingStrength_0 rfl rfl ?_
  refine r_iload_n (pc := 1) dX8_thingStrength_1 rfl rfl ?_
  refine q_callV (ci := 7) (T := TX8) (N := 14) (vs := [.int _]) (pc := 2) dX8_thingStrength_2 rfl l_RX8_66 rfl ⟨by decide, by decide⟩ rfl (Nat.le_of_ble_eq_true rfl) hl (sH_at (i := 1) (by decide)) rfl (Nat.le_of_ble_eq_true rfl) (s_X8_hasThing _) sH_22 ?_
  refine r_if_eq 17 (pc := 5) dX8_thingStrength_5 (by decide) (fun c5 => absurd c5 (c_eqf (hasT_1 hx h4 hk hK) rfl (a := 1) (b := 0) (by omega) (by omega) (by omega))) (fun c5 => ?_)
  refine r_aload_n (pc := 8) dX8_thingStrength_8 rfl rfl ?_
  refine cs_get (i := 1) (pc := 9) dX8_thingStrength_9 rfl f_RX8_15 (by decide) rfl rfl ?_
  refine r_iload_n (pc := 12) dX8_thingStrength_12 rfl rfl ?_
  refine cs_ld (i := 3) (n := 6) (k := k) (pc := 13) dX8_thingStrength_13 (by decide) rfl hx (by omega) (by decide) ?_
  refine r_goto 18 (pc := 14) dX8_thingStrength_14 (by decide) ?_
  exact r_ireturn (S := []) (pc := 18) dX8_thingStrength_18 rfl rfl ⟨rfl, rfl⟩
theorem lp_X8_dropThing {om : OM} {l : Launch} {B : Nat × Nat} {h0 : Hp} {b : Nat} {C : Nat → Int32} {W : Nat → Int64} {Post : Out → Hp → Prop} (x : Int32) (k0 x0 : Nat) (h4 : C 4 = nI (k0 + 1)) (hK : k0 < 6) (hx0 : x0 ≤ k0) : ∀ (n9 k : Nat) (g : Nat → Int32), k + n9 = k0 → g = K_dr C x0 k → x0 ≤ k → Runs om l M_X8_dropThing B 63 [some (.ref (b + 1)), some (.int x), some (.int (nI k0))] [] (sH h0 b ((K_dr C x0 k0)) W) Post → Runs om l M_X8_dropThing B 11 [some (.ref (b + 1)), some (.int x), some (.int (nI k))] [] (sH h0 b g W) Post := by
  intro n9
  induction n9 with
  | zero =>
    intro k g hk e_g hy KK
    have h4g : g 4 = nI (k0 + 1) := by rw [e_g, K_dr, if_neg (by omega)]; exact h4
    have e9 : k = k0 := by omega
    refine r_iload_n (pc := 11) dX8_dropThing_11 rfl rfl ?_
    refine r_iconst (v := 1) (pc := 12) dX8_dropThing_12 (by decide) ?_
    refine r_iadd (pc := 13) dX8_dropThing_13 ?_
    refine r_aload_n (pc := 14) dX8_dropThing_14 rfl rfl ?_
    refine cs_get (i := 1) (pc := 15) dX8_dropThing_15 rfl f_RX8_34 (by decide) rfl rfl ?_
    refine r_icmp_ge 63 (pc := 18) dX8_dropThing_18 (by decide) (fun c18 => ?_) (fun c18 => absurd (c_get (nadd rfl rfl) h4g (a := k + 1) (b := k0 + 1) (by omega) (by omega) (by omega)) c18)
    subst e9
    subst e_g
    exact KK
  | succ n9 ih =>
    intro k g hk e_g hy KK
    have h4g : g 4 = nI (k0 + 1) := by rw [e_g, K_dr, if_neg (by omega)]; exact h4
    refine r_iload_n (pc := 11) dX8_dropThing_11 rfl rfl ?_
    refine r_iconst (v := 1) (pc := 12) dX8_dropThing_12 (by decide) ?_
    refine r_iadd (pc := 13) dX8_dropThing_13 ?_
    refine r_aload_n (pc := 14) dX8_dropThing_14 rfl rfl ?_
    refine cs_get (i := 1) (pc := 15) dX8_dropThing_15 rfl f_RX8_34 (by decide) rfl rfl ?_
    refine r_icmp_ge 63 (pc := 18) dX8_dropThing_18 (by decide) (fun c18 => absurd c18 (c_gef (nadd rfl rfl) h4g (a := k + 1) (b := k0 + 1) (by omega) (by omega) (by omega))) (fun c18 => ?_)
    refine r_iload_n (pc := 21) dX8_dropThing_21 rfl rfl ?_
    refine r_iconst (v := 1) (pc := 22) dX8_dropThing_22 (by decide) ?_
    refine r_iadd (pc := 23) dX8_dropThing_23 ?_
    refine r_bipush (v := 6) (pc := 24) dX8_dropThing_24 (by decide) ?_
    refine r_icmp_ge 63 (pc := 26) dX8_dropThing_26 (by decide) (fun c26 => absurd c26 (c_gef (nadd rfl rfl) rfl (a := k + 1) (b := 6) (by omega) (by omega) (by omega))) (fun c26 => ?_)
    refine r_aload_n (pc := 29) dX8_dropThing_29 rfl rfl ?_
    refine cs_get (i := 1) (pc := 30) dX8_dropThing_30 rfl f_RX8_9 (by decide) rfl rfl ?_
    refine r_iload_n (pc := 33) dX8_dropThing_33 rfl rfl ?_
    refine r_aload_n (pc := 34) dX8_dropThing_34 rfl rfl ?_
    refine cs_get (i := 1) (pc := 35) dX8_dropThing_35 rfl f_RX8_9 (by decide) rfl rfl ?_
    refine r_iload_n (pc := 38) dX8_dropThing_38 rfl rfl ?_
    refine r_iconst (v := 1) (pc := 39) dX8_dropThing_39 (by decide) ?_
    refine r_iadd (pc := 40) dX8_dropThing_40 ?_
    refine cs_ld (i := 2) (n := 6) (k := k + 1) (pc := 41) dX8_dropThing_41 (by decide) rfl (nadd rfl rfl) (by omega) (by decide) ?_
    refine cs_st (i := 2) (n := 6) (k := k) (134 + 2 * k) (pc := 42) dX8_dropThing_42 (by decide) rfl rfl (by omega) (by decide) (ow_2 (by omega)) st_2 ?_
    refine r_aload_n (pc := 43) dX8_dropThing_43 rfl rfl ?_
    refine cs_get (i := 1) (pc := 44) dX8_dropThing_44 rfl f_RX8_15 (by decide) rfl rfl ?_
    refine r_iload_n (pc := 47) dX8_dropThing_47 rfl rfl ?_
    refine r_aload_n (pc := 48) dX8_dropThing_48 rfl rfl ?_
    refine cs_get (i := 1) (pc := 49) dX8_dropThing_49 rfl f_RX8_15 (by decide) rfl rfl ?_
    refine r_iload_n (pc := 52) dX8_dropThing_52 rfl rfl ?_
    refine r_iconst (v := 1) (pc := 53) dX8_dropThing_53 (by decide) ?_
    refine r_iadd (pc := 54) dX8_dropThing_54 ?_
    refine cs_ld (i := 3) (n := 6) (k := k + 1) (pc := 55) dX8_dropThing_55 (by decide) rfl (nadd rfl rfl) (by omega) (by decide) ?_
    refine cs_st (i := 3) (n := 6) (k := k) (134 + 2 * k + 1) (pc := 56) dX8_dropThing_56 (by decide) rfl rfl (by omega) (by decide) (ow_3 (by omega)) st_3 ?_
    refine q_iinc (nI (k + 1)) [_, _, _] (pc := 57) dX8_dropThing_57 rfl (by decide) (ninc 1 rfl) rfl ?_
    refine r_goto 11 (pc := 60) dX8_dropThing_60 (by decide) ?_
    exact ih (k + 1) _ (by omega) (by rw [e_g]; exact K_dr_s hy) (by omega) KK
theorem s_X8_dropThing {om : OM} {l : Launch} {B : Nat × Nat} {h0 : Hp} {b : Nat} {C : Nat → Int32} {W : Nat → Int64} (hl : l.stackTraces = false) (x : Int32) (k k0 : Nat) (hx : x = nI k) (h4 : C 4 = nI (k0 + 1)) (hk : k < k0 + 1) (hK : k0 + 1 ≤ 6) : Runs om l M_X8_dropThing B 0 (entL 3 [.ref (b + 1), .int x]) [] (sH h0 b C W) (Det (none) (sH h0 b (upd (K_dr C k k0) 4 (K_dr C k k0 4 - 1)) W)) := by
  show Runs om l M_X8_dropThing B 0 [some (.ref (b + 1)), some (.int x), none] [] _ _
  refine r_aload_n (pc := 0) dX8_dropThing_0 rfl rfl ?_
  refine r_iload_n (pc := 1) dX8_dropThing_1 rfl rfl ?_
  refine q_callV (ci := 7) (T := TX8) (N := 14) (vs := [.int _]) (pc := 2) dX8_dropThing_2 rfl l_RX8_66 rfl ⟨by decide, by decide⟩ rfl (Nat.le_of_ble_eq_true rfl) hl (sH_at (i := 1) (by decide)) rfl (Nat.le_of_ble_eq_true rfl) (s_X8_hasThing _) sH_22 ?_
  refine r_if_ne 9 (pc := 5) dX8_dropThing_5 (by decide) (fun c5 => ?_) (fun c5 => absurd c5 (c_eqf (hasT_1 hx h4 hk hK) rfl (a := 1) (b := 0) (by omega) (by omega) (by omega)))
  refine r_iload_n (pc := 9) dX8_dropThing_9 rfl rfl ?_
  refine q_istore_n [_, _, _] (pc := 10) dX8_dropThing_10 rfl (by decide) rfl ?_
  subst hx
  refine lp_X8_dropThing _ k0 k h4 (by omega) (by omega) (k0 - k) k _ (by omega) K_dr_0.symm (Nat.le_refl _) ?_
  refine r_aload_n (pc := 63) dX8_dropThing_63 rfl rfl ?_
  refine r_dup (pc := 64) dX8_dropThing_64 rfl ?_
  refine cs_get (i := 1) (pc := 65) dX8_dropThing_65 rfl f_RX8_34 (by decide) rfl rfl ?_
  refine r_iconst (v := 1) (pc := 68) dX8_dropThing_68 (by decide) ?_
  refine r_isub (pc := 69) dX8_dropThing_69 ?_
  refine cs_put (i := 1) 4 (pc := 70) dX8_dropThing_70 rfl f_RX8_34 (by decide) rfl (Nat.le_of_ble_eq_true rfl) rfl rfl ?_
  exact r_return (S := []) (pc := 73) dX8_dropThing_73 rfl ⟨rfl, rfl⟩
theorem s_X8_putStirrer {om : OM} {l : Launch} {B : Nat × Nat} {h0 : Hp} {b : Nat} {C : Nat → Int32} {W : Nat → Int64} (p u x sp be : Int32) : Runs om l M_X8_putStirrer B 0 (entL 6 [.ref (b + 1), .int p, .int u, .int x, .int sp, .int be]) [] (sH h0 b C W) (Det (none) (sH h0 b (R_stirs C p u x sp be) W)) := by
  show Runs om l M_X8_putStirrer B 0 [some (.ref (b + 1)), some (.int p), some (.int u), some (.int x), some (.int sp), some (.int be)] [] _ _
  refine r_aload_n (pc := 0) dX8_putStirrer_0 rfl rfl ?_
  refine r_iload_n (pc := 1) dX8_putStirrer_1 rfl rfl ?_
  refine cs_put (i := 1) 5 (pc := 2) dX8_putStirrer_2 rfl f_RX8_37 (by decide) rfl (Nat.le_of_ble_eq_true rfl) rfl rfl ?_
  refine r_aload_n (pc := 5) dX8_putStirrer_5 rfl rfl ?_
  refine r_iload_n (pc := 6) dX8_putStirrer_6 rfl rfl ?_
  refine cs_put (i := 1) 6 (pc := 7) dX8_putStirrer_7 rfl f_RX8_40 (by decide) rfl (Nat.le_of_ble_eq_true rfl) rfl rfl ?_
  refine r_aload_n (pc := 10) dX8_putStirrer_10 rfl rfl ?_
  refine r_iload_n (pc := 11) dX8_putStirrer_11 rfl rfl ?_
  refine cs_put (i := 1) 7 (pc := 12) dX8_putStirrer_12 rfl f_RX8_43 (by decide) rfl (Nat.le_of_ble_eq_true rfl) rfl rfl ?_
  refine r_aload_n (pc := 15) dX8_putStirrer_15 rfl rfl ?_
  refine r_iload (pc := 16) dX8_putStirrer_16 rfl ?_
  refine cs_put (i := 1) 9 (pc := 18) dX8_putStirrer_18 rfl f_RX8_49 (by decide) rfl (Nat.le_of_ble_eq_true rfl) rfl rfl ?_
  refine r_aload_n (pc := 21) dX8_putStirrer_21 rfl rfl ?_
  refine r_iload (pc := 22) dX8_putStirrer_22 rfl ?_
  refine cs_put (i := 1) 10 (pc := 24) dX8_putStirrer_24 rfl f_RX8_52 (by decide) rfl (Nat.le_of_ble_eq_true rfl) rfl rfl ?_
  exact r_return (S := []) (pc := 27) dX8_putStirrer_27 rfl ⟨rfl, rfl⟩
theorem s_X8_moveOn {om : OM} {l : Launch} {B : Nat × Nat} {h0 : Hp} {b : Nat} {C : Nat → Int32} {W : Nat → Int64}  : Runs om l M_X8_moveOn B 0 (entL 1 [.ref (b + 1)]) [] (sH h0 b C W) (Det (none) (sH h0 b (K_move C) W)) := by
  show Runs om l M_X8_moveOn B 0 [some (.ref (b + 1))] [] _ _
  refine r_aload_n (pc := 0) dX8_moveOn_0 rfl rfl ?_
  refine r_aload_n (pc := 1) dX8_moveOn_1 rfl rfl ?_
  refine cs_get (i := 1) (pc := 2) dX8_moveOn_2 rfl f_RX8_21 (by decide) rfl rfl ?_
  refine r_iconst (v := 0) (pc := 5) dX8_moveOn_5 (by decide) ?_
  refine r_aload_n (pc := 6) dX8_moveOn_6 rfl rfl ?_
  refine cs_get (i := 1) (pc := 7) dX8_moveOn_7 rfl f_RX8_25 (by decide) rfl rfl ?_
  refine r_aload_n (pc := 10) dX8_moveOn_10 rfl rfl ?_
  refine cs_get (i := 1) (pc := 11) dX8_moveOn_11 rfl f_RX8_28 (by decide) rfl rfl ?_
  refine r_iadd (pc := 14) dX8_moveOn_14 ?_
  refine r_max (pc := 15) dX8_moveOn_15 rfl l_RX8_69 (by decide) (Nat.le_of_ble_eq_true rfl) ?_
  rw [max_gr]
  refine r_min (pc := 18) dX8_moveOn_18 rfl l_RX8_75 (by decide) (Nat.le_of_ble_eq_true rfl) ?_
  refine cs_put (i := 1) 1 (pc := 21) dX8_moveOn_21 rfl f_RX8_25 (by decide) rfl (Nat.le_of_ble_eq_true rfl) rfl rfl ?_
  refine r_aload_n (pc := 24) dX8_moveOn_24 rfl rfl ?_
  refine r_aload_n (pc := 25) dX8_moveOn_25 rfl rfl ?_
  refine cs_get (i := 1) (pc := 26) dX8_moveOn_26 rfl f_RX8_46 (by decide) rfl rfl ?_
  refine r_aload_n (pc := 29) dX8_moveOn_29 rfl rfl ?_
  refine cs_get (i := 1) (pc := 30) dX8_moveOn_30 rfl f_RX8_49 (by decide) rfl rfl ?_
  refine r_iadd (pc := 33) dX8_moveOn_33 ?_
  refine r_sipush (v := 360) (pc := 34) dX8_moveOn_34 (by decide) ?_
  refine r_irem (pc := 37) dX8_moveOn_37 (by decide) ?_
  refine cs_put (i := 1) 8 (pc := 38) dX8_moveOn_38 rfl f_RX8_46 (by decide) rfl (Nat.le_of_ble_eq_true rfl) rfl rfl ?_
  exact r_return (S := []) (pc := 41) dX8_moveOn_41 rfl ⟨rfl, rfl⟩
theorem s_X8_bladeAngle {om : OM} {l : Launch} {B : Nat × Nat} {h0 : Hp} {b : Nat} {C : Nat → Int32} {W : Nat → Int64} (x : Int32) (K : Nat) (h5 : C 5 = nI K) (hps : 0 < K) (hK : K ≤ 6) : Runs om l M_X8_bladeAngle B 0 (entL 2 [.ref (b + 1), .int x]) [] (sH h0 b C W) (Det (some (.int (R_angle C x))) (sH h0 b C W)) := by
  show Runs om l M_X8_bladeAngle B 0 [some (.ref (b + 1)), some (.int x)] [] _ _
  refine r_aload_n (pc := 0) dX8_bladeAngle_0 rfl rfl ?_
  refine cs_get (i := 1) (pc := 1) dX8_bladeAngle_1 rfl f_RX8_37 (by decide) rfl rfl ?_
  refine r_if_le 29 (pc := 4) dX8_bladeAngle_4 (by decide) (fun c4 => absurd c4 (c_lef h5 rfl (a := K) (b := 0) (by omega) (by omega) (by omega))) (fun c4 => ?_)
  refine r_aload_n (pc := 7) dX8_bladeAngle_7 rfl rfl ?_
  refine cs_get (i := 1) (pc := 8) dX8_bladeAngle_8 rfl f_RX8_46 (by decide) rfl rfl ?_
  refine r_sipush (v := 360) (pc := 11) dX8_bladeAngle_11 (by decide) ?_
  refine r_iload_n (pc := 14) dX8_bladeAngle_14 rfl rfl ?_
  refine r_imul (pc := 15) dX8_bladeAngle_15 ?_
  refine r_aload_n (pc := 16) dX8_bladeAngle_16 rfl rfl ?_
  refine cs_get (i := 1) (pc := 17) dX8_bladeAngle_17 rfl f_RX8_37 (by decide) rfl rfl ?_
  refine r_idiv (pc := 20) dX8_bladeAngle_20 (fun z => c_eqf (a := K) (b := 0) h5 rfl (by omega) (by omega) (by omega) z) ?_
  refine r_iadd (pc := 21) dX8_bladeAngle_21 ?_
  refine r_sipush (v := 360) (pc := 22) dX8_bladeAngle_22 (by decide) ?_
  refine r_irem (pc := 25) dX8_bladeAngle_25 (by decide) ?_
  refine r_goto 30 (pc := 26) dX8_bladeAngle_26 (by decide) ?_
  exact r_ireturn (S := []) (pc := 30) dX8_bladeAngle_30 rfl rfl ⟨rfl, rfl⟩
theorem s_X8_isInBeam {om : OM} {l : Launch} {B : Nat × Nat} {h0 : Hp} {b : Nat} {C : Nat → Int32} {W : Nat → Int64} (hl : l.stackTraces = false) (x : Int32) (k K : Nat) (hx : x = nI k) (h5 : C 5 = nI K) (hps : 0 < K) (hK : K ≤ 6) : Runs om l M_X8_isInBeam B 0 (entL 3 [.ref (b + 1), .int x]) [] (sH h0 b C W) (Det (some (.int (R_isIn C k))) (sH h0 b C W)) := by
  show Runs om l M_X8_isInBeam B 0 [some (.ref (b + 1)), some (.int x), none] [] _ _
  subst hx
  refine r_aload_n (pc := 0) dX8_isInBeam_0 rfl rfl ?_
  refine r_iload_n (pc := 1) dX8_isInBeam_1 rfl rfl ?_
  refine q_callV (ci := 7) (T := TX8) (N := 14) (vs := [.int _]) (pc := 2) dX8_isInBeam_2 rfl l_RX8_78 rfl ⟨by decide, by decide⟩ rfl (Nat.le_of_ble_eq_true rfl) hl (sH_at (i := 1) (by decide)) rfl (Nat.le_of_ble_eq_true rfl) (s_X8_bladeAngle _ K h5 hps hK) sH_22 ?_
  refine q_istore_n [_, _, _] (pc := 5) dX8_isInBeam_5 rfl (by decide) rfl ?_
  refine r_iload_n (pc := 6) dX8_isInBeam_6 rfl rfl ?_
  refine r_aload_n (pc := 7) dX8_isInBeam_7 rfl rfl ?_
  refine cs_get (i := 1) (pc := 8) dX8_isInBeam_8 rfl f_RX8_52 (by decide) rfl rfl ?_
  refine r_icmp_le 26 (pc := 11) dX8_isInBeam_11 (by decide) (fun c11 => ?_) (fun c11 => ?_)
  · refine r_iconst (v := 1) (pc := 26) dX8_isInBeam_26 (by decide) ?_
    refine r_goto 31 (pc := 27) dX8_isInBeam_27 (by decide) ?_
    exact r_ireturn (S := []) (pc := 31) dX8_isInBeam_31 rfl rfl ⟨by rw [R_isIn]; (repeat (first | rw [if_pos (by assumption)] | rw [if_neg (by assumption)])), rfl⟩
  · refine r_iload_n (pc := 14) dX8_isInBeam_14 rfl rfl ?_
    refine r_sipush (v := 360) (pc := 15) dX8_isInBeam_15 (by decide) ?_
    refine r_aload_n (pc := 18) dX8_isInBeam_18 rfl rfl ?_
    refine cs_get (i := 1) (pc := 19) dX8_isInBeam_19 rfl f_RX8_52 (by decide) rfl rfl ?_
    refine r_isub (pc := 22) dX8_isInBeam_22 ?_
    refine r_icmp_lt 30 (pc := 23) dX8_isInBeam_23 (by decide) (fun c23 => ?_) (fun c23 => ?_)
    · refine r_iconst (v := 0) (pc := 30) dX8_isInBeam_30 (by decide) ?_
      exact r_ireturn (S := []) (pc := 31) dX8_isInBeam_31 rfl rfl ⟨by rw [R_isIn]; (repeat (first | rw [if_pos (by assumption)] | rw [if_neg (by assumption)])), rfl⟩
    · refine r_iconst (v := 1) (pc := 26) dX8_isInBeam_26 (by decide) ?_
      refine r_goto 31 (pc := 27) dX8_isInBeam_27 (by decide) ?_
      exact r_ireturn (S := []) (pc := 31) dX8_isInBeam_31 rfl rfl ⟨by rw [R_isIn]; (repeat (first | rw [if_pos (by assumption)] | rw [if_neg (by assumption)])), rfl⟩
theorem s_X8_draw {om : OM} {l : Launch} {B : Nat × Nat} {h0 : Hp} {b : Nat} {C : Nat → Int32} {W : Nat → Int64} (x : Int32) (k : Nat) (hx : x = nI k) (hps : 0 < k) (hk : k < 2 ^ 31) : Runs om l M_X8_draw B 0 (entL 2 [.ref (b + 1), .int x]) [] (sH h0 b C W) (Det (some (.int (R_d2 C x))) (sH h0 b (R_d1 C) W)) := by
  show Runs om l M_X8_draw B 0 [some (.ref (b + 1)), some (.int x)] [] _ _
  refine r_aload_n (pc := 0) dX8_draw_0 rfl rfl ?_
  refine r_ldc2 (pc := 1) dX8_draw_1 rfl k_RX8_82 ?_
  refine r_aload_n (pc := 4) dX8_draw_4 rfl rfl ?_
  refine cs_get (i := 1) (pc := 5) dX8_draw_5 rfl f_RX8_55 (by decide) rfl rfl ?_
  refine r_i2l (pc := 8) dX8_draw_8 ?_
  refine r_lmul (pc := 9) dX8_draw_9 ?_
  refine r_ldc2 (pc := 10) dX8_draw_10 rfl k_RX8_84 ?_
  refine r_ladd (pc := 13) dX8_draw_13 ?_
  refine r_ldc2 (pc := 14) dX8_draw_14 rfl k_RX8_86 ?_
  refine r_lrem (pc := 17) dX8_draw_17 (by decide) ?_
  refine r_l2i (pc := 18) dX8_draw_18 ?_
  refine cs_put (i := 1) 11 (pc := 19) dX8_draw_19 rfl f_RX8_55 (by decide) rfl (Nat.le_of_ble_eq_true rfl) rfl rfl ?_
  refine r_iload_n (pc := 22) dX8_draw_22 rfl rfl ?_
  refine r_if_le 38 (pc := 23) dX8_draw_23 (by decide) (fun c23 => absurd c23 (c_lef hx rfl (a := k) (b := 0) (by omega) (by omega) (by omega))) (fun c23 => ?_)
  refine r_aload_n (pc := 26) dX8_draw_26 rfl rfl ?_
  refine cs_get (i := 1) (pc := 27) dX8_draw_27 rfl f_RX8_55 (by decide) rfl rfl ?_
  refine r_ldc (pc := 30) dX8_draw_30 rfl k_RX8_88 ?_
  refine r_idiv (pc := 32) dX8_draw_32 (by decide) ?_
  refine r_iload_n (pc := 33) dX8_draw_33 rfl rfl ?_
  refine r_irem (pc := 34) dX8_draw_34 (fun z => c_eqf (a := k) (b := 0) hx rfl (by omega) (by omega) (by omega) z) ?_
  refine r_goto 39 (pc := 35) dX8_draw_35 (by decide) ?_
  exact r_ireturn (S := []) (pc := 39) dX8_draw_39 rfl rfl ⟨rfl, rfl⟩
theorem s_X6_reset {om : OM} {l : Launch} {B : Nat × Nat} {h0 : Hp} {b : Nat} {C : Nat → Int32} {W : Nat → Int64} (hl : l.stackTraces = false)  : Runs om l M_X6_reset B 0 (entL 1 [.ref (b + 4)]) [] (sH h0 b C W) (Det (none) (sH h0 b (C_fst C) W)) := by
  show Runs om l M_X6_reset B 0 [some (.ref (b + 4))] [] _ _
  refine r_getstatic (pc := 0) dX6_reset_0 rfl (.head _) g_RX6_18 ?_
  refine r_aload_n (pc := 3) dX6_reset_3 rfl rfl ?_
  refine cs_get (i := 4) (pc := 4) dX6_reset_4 rfl f_RX6_9 (by decide) rfl rfl ?_
  refine q_callSN (vs := [.ref _, .ref _]) (pc := 7) dX6_reset_7 rfl l_RX6_21 rfl ⟨by decide, by decide⟩ rfl (Nat.le_of_ble_eq_true rfl) hl (Nat.le_of_ble_eq_true rfl) (s_copyRow5) sH_22 ?_
  exact r_return (S := []) (pc := 10) dX6_reset_10 rfl ⟨rfl, rfl⟩
theorem s_X6_copyFrom {om : OM} {l : Launch} {B : Nat × Nat} {h0 : Hp} {b b2 : Nat} {C C2 : Nat → Int32} {W W2 : Nat → Int64} (hl : l.stackTraces = false) (hd : b + 19 ≤ b2 ∨ b2 + 19 ≤ b) : Runs om l M_X6_copyFrom B 0 (entL 2 [.ref (b + 4), .ref (b2 + 4)]) [] (sH ((sH h0 b2 C2 W2)) b C W) (Det (none) (sH ((sH h0 b2 C2 W2)) b (blk 5 C2 C) W)) := by
  show Runs om l M_X6_copyFrom B 0 [some (.ref (b + 4)), some (.ref (b2 + 4))] [] _ _
  refine r_aload_n (pc := 0) dX6_copyFrom_0 rfl rfl ?_
  refine r_getfield (pc := 1) dX6_copyFrom_1 rfl f_RX6_9 (sH_far (i := 4) hd (by decide)) rfl ?_
  refine r_aload_n (pc := 4) dX6_copyFrom_4 rfl rfl ?_
  refine cs_get (i := 4) (pc := 5) dX6_copyFrom_5 rfl f_RX6_9 (by decide) rfl rfl ?_
  refine q_callSN (vs := [.ref _, .ref _]) (pc := 8) dX6_copyFrom_8 rfl l_RX6_21 rfl ⟨by decide, by decide⟩ rfl (Nat.le_of_ble_eq_true rfl) hl (Nat.le_of_ble_eq_true rfl) (s_copyRowB 5 (n := 12) hd (by decide) (by decide) rfl rfl rfl) sH_22 ?_
  exact r_return (S := []) (pc := 11) dX6_copyFrom_11 rfl ⟨rfl, rfl⟩
theorem hs_in {x : Int32} : K_has x 12 = R_in x 0 11 := by
  unfold K_has R_in
  by_cases h : x < 0
  · rw [if_pos h, if_pos h]
  · rw [if_neg h, if_neg h]
    obtain ⟨k, hk, e⟩ := nn_ex (Int32.not_lt.mp h)
    subst e
    by_cases h2 : (12 : Int32) ≤ nI k
    · rw [if_pos h2, if_pos (by
        have := (nI_leI (a := 12) (b := k) (by omega) hk).mp h2
        exact (nI_ltI (a := 11) (b := k) (by omega) hk).mpr (by omega))]
    · rw [if_neg h2, if_neg (fun z => h2 (by
        have := (nI_ltI (a := 11) (b := k) (by omega) hk).mp z
        exact (nI_leI (a := 12) (b := k) (by omega) hk).mpr (by omega)))]
theorem s_X6_has {om : OM} {l : Launch} {B : Nat × Nat} {h : Hp} (x : Int32) : Runs om l M_X6_has B 0 (entL 1 [.int x]) [] h (Det (some (.int (R_in x 0 11))) h) := by
  show Runs om l M_X6_has B 0 [some (.int x)] [] _ _
  rw [← hs_in]
  refine r_iload_n (pc := 0) dX6_has_0 rfl rfl ?_
  refine r_if_lt 14 (pc := 1) dX6_has_1 (by decide) (fun c1 => ?_) (fun c1 => ?_)
  · refine r_iconst (v := 0) (pc := 14) dX6_has_14 (by decide) ?_
    exact r_ireturn (S := []) (pc := 15) dX6_has_15 rfl rfl ⟨by rw [K_has]; (repeat (first | rw [if_pos (by assumption)] | rw [if_neg (by assumption)])), rfl⟩
  · refine r_iload_n (pc := 4) dX6_has_4 rfl rfl ?_
    refine r_bipush (v := 12) (pc := 5) dX6_has_5 (by decide) ?_
    refine r_icmp_ge 14 (pc := 7) dX6_has_7 (by decide) (fun c7 => ?_) (fun c7 => ?_)
    · refine r_iconst (v := 0) (pc := 14) dX6_has_14 (by decide) ?_
      exact r_ireturn (S := []) (pc := 15) dX6_has_15 rfl rfl ⟨by rw [K_has]; (repeat (first | rw [if_pos (by assumption)] | rw [if_neg (by assumption)])), rfl⟩
    · refine r_iconst (v := 1) (pc := 10) dX6_has_10 (by decide) ?_
      refine r_goto 15 (pc := 11) dX6_has_11 (by decide) ?_
      exact r_ireturn (S := []) (pc := 15) dX6_has_15 rfl rfl ⟨by rw [K_has]; (repeat (first | rw [if_pos (by assumption)] | rw [if_neg (by assumption)])), rfl⟩
theorem in_one {x : Int32} {k a b : Nat} (hx : x = nI k) (h1 : a ≤ k) (h2 : k ≤ b) (hb : b < 2 ^ 31) : R_in x (nI a) (nI b) = 1 := by
  unfold R_in
  rw [if_neg (c_ltf hx rfl (by omega) (by omega) h1), if_neg (c_ltf rfl hx (by omega) (by omega) h2)]
theorem s_X6_value {om : OM} {l : Launch} {B : Nat × Nat} {h0 : Hp} {b : Nat} {C : Nat → Int32} {W : Nat → Int64} (hl : l.stackTraces = false) (x : Int32) (k : Nat) (hx : x = nI k) (hk : k < 12) : Runs om l M_X6_value B 0 (entL 2 [.ref (b + 4), .int x]) [] (sH h0 b C W) (Det (some (.int (C (12 + k)))) (sH h0 b C W)) := by
  show Runs om l M_X6_value B 0 [some (.ref (b + 4)), some (.int x)] [] _ _
  refine r_iload_n (pc := 0) dX6_value_0 rfl rfl ?_
  refine q_callS (vs := [.int _]) (pc := 1) dX6_value_1 rfl l_RX6_25 rfl ⟨by decide, by decide⟩ rfl (Nat.le_of_ble_eq_true rfl) hl (Nat.le_of_ble_eq_true rfl) (s_X6_has _) sH_22 ?_
  refine r_if_eq 16 (pc := 4) dX6_value_4 (by decide) (fun c4 => absurd c4 (c_eqf (in_one (a := 0) (b := 11) hx (by omega) (by omega) (by omega)) rfl (a := 1) (b := 0) (by omega) (by omega) (by omega))) (fun c4 => ?_)
  refine r_aload_n (pc := 7) dX6_value_7 rfl rfl ?_
  refine cs_get (i := 4) (pc := 8) dX6_value_8 rfl f_RX6_9 (by decide) rfl rfl ?_
  refine r_iload_n (pc := 11) dX6_value_11 rfl rfl ?_
  refine cs_ld (i := 5) (n := 12) (k := k) (pc := 12) dX6_value_12 (by decide) rfl hx (by omega) (by decide) ?_
  refine r_goto 17 (pc := 13) dX6_value_13 (by decide) ?_
  exact r_ireturn (S := []) (pc := 17) dX6_value_17 rfl rfl ⟨rfl, rfl⟩
theorem s_X6_put {om : OM} {l : Launch} {B : Nat × Nat} {h0 : Hp} {b : Nat} {C : Nat → Int32} {W : Nat → Int64} (hl : l.stackTraces = false) (x : Int32) (k : Nat) (hx : x = nI k) (hk : k < 12) (y : Int32) : Runs om l M_X6_put B 0 (entL 3 [.ref (b + 4), .int x, .int y]) [] (sH h0 b C W) (Det (none) (sH h0 b (upd C (12 + k) y) W)) := by
  show Runs om l M_X6_put B 0 [some (.ref (b + 4)), some (.int x), some (.int y)] [] _ _
  refine r_iload_n (pc := 0) dX6_put_0 rfl rfl ?_
  refine q_callS (vs := [.int _]) (pc := 1) dX6_put_1 rfl l_RX6_25 rfl ⟨by decide, by decide⟩ rfl (Nat.le_of_ble_eq_true rfl) hl (Nat.le_of_ble_eq_true rfl) (s_X6_has _) sH_22 ?_
  refine r_if_eq 14 (pc := 4) dX6_put_4 (by decide) (fun c4 => absurd c4 (c_eqf (in_one (a := 0) (b := 11) hx (by omega) (by omega) (by omega)) rfl (a := 1) (b := 0) (by omega) (by omega) (by omega))) (fun c4 => ?_)
  refine r_aload_n (pc := 7) dX6_put_7 rfl rfl ?_
  refine cs_get (i := 4) (pc := 8) dX6_put_8 rfl f_RX6_9 (by decide) rfl rfl ?_
  refine r_iload_n (pc := 11) dX6_put_11 rfl rfl ?_
  refine r_iload_n (pc := 12) dX6_put_12 rfl rfl ?_
  refine cs_st (i := 5) (n := 12) (k := k) (12 + k) (pc := 13) dX6_put_13 (by decide) rfl hx (by omega) (by decide) (ow_5 (by omega)) st_5 ?_
  exact r_return (S := []) (pc := 14) dX6_put_14 rfl ⟨rfl, rfl⟩
theorem s_X6_needAt {om : OM} {l : Launch} {B : Nat × Nat} {h0 : Hp} {b : Nat} {C : Nat → Int32} {W : Nat → Int64} (hl : l.stackTraces = false) (d : Int32) : Runs om l M_X6_needAt B 0 (entL 2 [.ref (b + 4), .int d]) [] (sH h0 b C W) (Det (some (.int (R_need C d))) (sH h0 b C W)) := by
  show Runs om l M_X6_needAt B 0 [some (.ref (b + 4)), some (.int d)] [] _ _
  refine r_iconst (v := 1) (pc := 0) dX6_needAt_0 (by decide) ?_
  refine r_aload_n (pc := 1) dX6_needAt_1 rfl rfl ?_
  refine r_iconst (v := 2) (pc := 2) dX6_needAt_2 (by decide) ?_
  refine q_callV (ci := 5) (T := TX6) (N := 1) (vs := [.int _]) (pc := 3) dX6_needAt_3 rfl l_RX6_35 rfl ⟨by decide, by decide⟩ rfl (Nat.le_of_ble_eq_true rfl) hl (sH_at (i := 4) (by decide)) rfl (Nat.le_of_ble_eq_true rfl) (s_X6_value hl _ 2 rfl (by decide)) sH_22 ?_
  refine r_iload_n (pc := 6) dX6_needAt_6 rfl rfl ?_
  refine r_aload_n (pc := 7) dX6_needAt_7 rfl rfl ?_
  refine r_iconst (v := 3) (pc := 8) dX6_needAt_8 (by decide) ?_
  refine q_callV (ci := 5) (T := TX6) (N := 1) (vs := [.int _]) (pc := 9) dX6_needAt_9 rfl l_RX6_35 rfl ⟨by decide, by decide⟩ rfl (Nat.le_of_ble_eq_true rfl) hl (sH_at (i := 4) (by decide)) rfl (Nat.le_of_ble_eq_true rfl) (s_X6_value hl _ 3 rfl (by decide)) sH_22 ?_
  refine r_imul (pc := 12) dX6_needAt_12 ?_
  refine r_sipush (v := 1000) (pc := 13) dX6_needAt_13 (by decide) ?_
  refine r_idiv (pc := 16) dX6_needAt_16 (by decide) ?_
  refine r_isub (pc := 17) dX6_needAt_17 ?_
  refine r_max (pc := 18) dX6_needAt_18 rfl l_RX6_39 (by decide) (Nat.le_of_ble_eq_true rfl) ?_
  rw [max_gr]
  exact r_ireturn (S := []) (pc := 21) dX6_needAt_21 rfl rfl ⟨rfl, rfl⟩
theorem lst_eq {k : Nat} (h : k ≤ 11) : c_least.getD k 0 = R_least (nI k) := by
  have hk' : k = 0 ∨ k = 1 ∨ k = 2 ∨ k = 3 ∨ k = 4 ∨ k = 5 ∨ k = 6 ∨ k = 7 ∨ k = 8 ∨ k = 9 ∨ k = 10 ∨ k = 11 := by omega
  rcases hk' with rfl | rfl | rfl | rfl | rfl | rfl | rfl | rfl | rfl | rfl | rfl | rfl <;> decide
theorem mst_eq {k : Nat} (h : k ≤ 11) : c_most.getD k 0 = R_most k := by
  have hk' : k = 0 ∨ k = 1 ∨ k = 2 ∨ k = 3 ∨ k = 4 ∨ k = 5 ∨ k = 6 ∨ k = 7 ∨ k = 8 ∨ k = 9 ∨ k = 10 ∨ k = 11 := by omega
  rcases hk' with rfl | rfl | rfl | rfl | rfl | rfl | rfl | rfl | rfl | rfl | rfl | rfl <;> decide
theorem s_X6_allows {om : OM} {l : Launch} {B : Nat × Nat} {h0 : Hp} {b : Nat} {C : Nat → Int32} {W : Nat → Int64} (hl : l.stackTraces = false) (x y : Int32) : Runs om l M_X6_allows B 0 (entL 3 [.ref (b + 4), .int x, .int y]) [] (sH h0 b C W) (Det (some (.int (R_cSet C x y))) (sH h0 b C W)) := by
  show Runs om l M_X6_allows B 0 [some (.ref (b + 4)), some (.int x), some (.int y)] [] _ _
  refine r_iload_n (pc := 0) dX6_allows_0 rfl rfl ?_
  refine q_callS (vs := [.int _]) (pc := 1) dX6_allows_1 rfl l_RX6_25 rfl ⟨by decide, by decide⟩ rfl (Nat.le_of_ble_eq_true rfl) hl (Nat.le_of_ble_eq_true rfl) (s_X6_has _) sH_22 ?_
  refine r_if_eq 25 (pc := 4) dX6_allows_4 (by decide) (fun c4 => ?_) (fun c4 => ?_)
  · refine r_iconst (v := 0) (pc := 25) dX6_allows_25 (by decide) ?_
    exact r_ireturn (S := []) (pc := 26) dX6_allows_26 rfl rfl ⟨by first | (rw [R_cSet, if_pos c4]) | (rw [R_cSet, if_neg c4, if_pos (by rw [R_in, ← hlo, if_pos c13])]) | (rw [R_cSet, if_neg c4, if_pos (by rw [R_in, ← hlo, ← hmo, if_neg c13, if_pos (Int32.not_le.mp c22)])]) | ((rw [R_cSet, if_neg c4, if_neg (by rw [hin]; decide), R_cSet2]; (repeat (first | rw [if_pos (by assumption)] | rw [if_neg (by assumption)]))); done) | exact absurd (c30.symm.trans c46) (by decide), rfl⟩
  · obtain ⟨k, hk, -, hk1⟩ := in_ex (a := 0) (b := 11) ((in01 x 0 11).resolve_left c4) rfl rfl (by omega) (by omega)
    have hcl : cl x = k := cl_nI hk (by omega)
    have hlo : c_least.getD k 0 = R_least x := by rw [hk]; exact lst_eq hk1
    have hmo : c_most.getD k 0 = R_most (cl x) := by rw [hcl]; exact mst_eq hk1
    refine r_iload_n (pc := 7) dX6_allows_7 rfl rfl ?_
    refine r_getstatic (pc := 8) dX6_allows_8 rfl (.tail _ (.head _)) g_RX6_29 ?_
    refine r_iload_n (pc := 11) dX6_allows_11 rfl rfl ?_
    refine r_taload (n := 12) (pc := 12) dX6_allows_12 (.tail _ (.tail _ (.head _))) (vin_n hk (by omega) (by decide)) ?_
    rw [cl_n hk (show k < 12 by omega) (by decide)]
    refine r_icmp_lt 25 (pc := 13) dX6_allows_13 (by decide) (fun c13 => ?_) (fun c13 => ?_)
    · refine r_iconst (v := 0) (pc := 25) dX6_allows_25 (by decide) ?_
      exact r_ireturn (S := []) (pc := 26) dX6_allows_26 rfl rfl ⟨by first | (rw [R_cSet, if_pos c4]) | (rw [R_cSet, if_neg c4, if_pos (by rw [R_in, ← hlo, if_pos c13])]) | (rw [R_cSet, if_neg c4, if_pos (by rw [R_in, ← hlo, ← hmo, if_neg c13, if_pos (Int32.not_le.mp c22)])]) | ((rw [R_cSet, if_neg c4, if_neg (by rw [hin]; decide), R_cSet2]; (repeat (first | rw [if_pos (by assumption)] | rw [if_neg (by assumption)]))); done) | exact absurd (c30.symm.trans c46) (by decide), rfl⟩
    · refine r_iload_n (pc := 16) dX6_allows_16 rfl rfl ?_
      refine r_getstatic (pc := 17) dX6_allows_17 rfl (.tail _ (.tail _ (.head _))) g_RX6_32 ?_
      refine r_iload_n (pc := 20) dX6_allows_20 rfl rfl ?_
      refine r_taload (n := 12) (pc := 21) dX6_allows_21 (.tail _ (.tail _ (.tail _ (.head _)))) (vin_n hk (by omega) (by decide)) ?_
      rw [cl_n hk (show k < 12 by omega) (by decide)]
      refine r_icmp_le 27 (pc := 22) dX6_allows_22 (by decide) (fun c22 => ?_) (fun c22 => ?_)
      · have hin : R_in y (R_least x) (R_most (cl x)) = 1 := by rw [R_in, ← hlo, ← hmo, if_neg c13, if_neg (Int32.not_lt.mpr c22)]
        refine r_iload_n (pc := 27) dX6_allows_27 rfl rfl ?_
        refine r_bipush (v := 9) (pc := 28) dX6_allows_28 (by decide) ?_
        refine r_icmp_ne 43 (pc := 30) dX6_allows_30 (by decide) (fun c30 => ?_) (fun c30 => ?_)
        · refine r_iload_n (pc := 43) dX6_allows_43 rfl rfl ?_
          refine r_bipush (v := 10) (pc := 44) dX6_allows_44 (by decide) ?_
          refine r_icmp_ne 59 (pc := 46) dX6_allows_46 (by decide) (fun c46 => ?_) (fun c46 => ?_)
          · refine r_iconst (v := 1) (pc := 59) dX6_allows_59 (by decide) ?_
            refine r_goto 64 (pc := 60) dX6_allows_60 (by decide) ?_
            exact r_ireturn (S := []) (pc := 64) dX6_allows_64 rfl rfl ⟨by first | (rw [R_cSet, if_pos c4]) | (rw [R_cSet, if_neg c4, if_pos (by rw [R_in, ← hlo, if_pos c13])]) | (rw [R_cSet, if_neg c4, if_pos (by rw [R_in, ← hlo, ← hmo, if_neg c13, if_pos (Int32.not_le.mp c22)])]) | ((rw [R_cSet, if_neg c4, if_neg (by rw [hin]; decide), R_cSet2]; (repeat (first | rw [if_pos (by assumption)] | rw [if_neg (by assumption)]))); done) | exact absurd (c30.symm.trans c46) (by decide), rfl⟩
          · refine r_iload_n (pc := 49) dX6_allows_49 rfl rfl ?_
            refine r_aload_n (pc := 50) dX6_allows_50 rfl rfl ?_
            refine r_bipush (v := 9) (pc := 51) dX6_allows_51 (by decide) ?_
            refine q_callV (ci := 5) (T := TX6) (N := 1) (vs := [.int _]) (pc := 53) dX6_allows_53 rfl l_RX6_35 rfl ⟨by decide, by decide⟩ rfl (Nat.le_of_ble_eq_true rfl) hl (sH_at (i := 4) (by decide)) rfl (Nat.le_of_ble_eq_true rfl) (s_X6_value hl _ 9 rfl (by decide)) sH_22 ?_
            refine r_icmp_lt 63 (pc := 56) dX6_allows_56 (by decide) (fun c56 => ?_) (fun c56 => ?_)
            · refine r_iconst (v := 0) (pc := 63) dX6_allows_63 (by decide) ?_
              exact r_ireturn (S := []) (pc := 64) dX6_allows_64 rfl rfl ⟨by first | (rw [R_cSet, if_pos c4]) | (rw [R_cSet, if_neg c4, if_pos (by rw [R_in, ← hlo, if_pos c13])]) | (rw [R_cSet, if_neg c4, if_pos (by rw [R_in, ← hlo, ← hmo, if_neg c13, if_pos (Int32.not_le.mp c22)])]) | ((rw [R_cSet, if_neg c4, if_neg (by rw [hin]; decide), R_cSet2]; (repeat (first | rw [if_pos (by assumption)] | rw [if_neg (by assumption)]))); done) | exact absurd (c30.symm.trans c46) (by decide), rfl⟩
            · refine r_iconst (v := 1) (pc := 59) dX6_allows_59 (by decide) ?_
              refine r_goto 64 (pc := 60) dX6_allows_60 (by decide) ?_
              exact r_ireturn (S := []) (pc := 64) dX6_allows_64 rfl rfl ⟨by first | (rw [R_cSet, if_pos c4]) | (rw [R_cSet, if_neg c4, if_pos (by rw [R_in, ← hlo, if_pos c13])]) | (rw [R_cSet, if_neg c4, if_pos (by rw [R_in, ← hlo, ← hmo, if_neg c13, if_pos (Int32.not_le.mp c22)])]) | ((rw [R_cSet, if_neg c4, if_neg (by rw [hin]; decide), R_cSet2]; (repeat (first | rw [if_pos (by assumption)] | rw [if_neg (by assumption)]))); done) | exact absurd (c30.symm.trans c46) (by decide), rfl⟩
        · refine r_iload_n (pc := 33) dX6_allows_33 rfl rfl ?_
          refine r_aload_n (pc := 34) dX6_allows_34 rfl rfl ?_
          refine r_bipush (v := 10) (pc := 35) dX6_allows_35 (by decide) ?_
          refine q_callV (ci := 5) (T := TX6) (N := 1) (vs := [.int _]) (pc := 37) dX6_allows_37 rfl l_RX6_35 rfl ⟨by decide, by decide⟩ rfl (Nat.le_of_ble_eq_true rfl) hl (sH_at (i := 4) (by decide)) rfl (Nat.le_of_ble_eq_true rfl) (s_X6_value hl _ 10 rfl (by decide)) sH_22 ?_
          refine r_icmp_gt 63 (pc := 40) dX6_allows_40 (by decide) (fun c40 => ?_) (fun c40 => ?_)
          · refine r_iconst (v := 0) (pc := 63) dX6_allows_63 (by decide) ?_
            exact r_ireturn (S := []) (pc := 64) dX6_allows_64 rfl rfl ⟨by first | (rw [R_cSet, if_pos c4]) | (rw [R_cSet, if_neg c4, if_pos (by rw [R_in, ← hlo, if_pos c13])]) | (rw [R_cSet, if_neg c4, if_pos (by rw [R_in, ← hlo, ← hmo, if_neg c13, if_pos (Int32.not_le.mp c22)])]) | ((rw [R_cSet, if_neg c4, if_neg (by rw [hin]; decide), R_cSet2]; (repeat (first | rw [if_pos (by assumption)] | rw [if_neg (by assumption)]))); done) | exact absurd (c30.symm.trans c46) (by decide), rfl⟩
          · refine r_iload_n (pc := 43) dX6_allows_43 rfl rfl ?_
            refine r_bipush (v := 10) (pc := 44) dX6_allows_44 (by decide) ?_
            refine r_icmp_ne 59 (pc := 46) dX6_allows_46 (by decide) (fun c46 => ?_) (fun c46 => ?_)
            · refine r_iconst (v := 1) (pc := 59) dX6_allows_59 (by decide) ?_
              refine r_goto 64 (pc := 60) dX6_allows_60 (by decide) ?_
              exact r_ireturn (S := []) (pc := 64) dX6_allows_64 rfl rfl ⟨by first | (rw [R_cSet, if_pos c4]) | (rw [R_cSet, if_neg c4, if_pos (by rw [R_in, ← hlo, if_pos c13])]) | (rw [R_cSet, if_neg c4, if_pos (by rw [R_in, ← hlo, ← hmo, if_neg c13, if_pos (Int32.not_le.mp c22)])]) | ((rw [R_cSet, if_neg c4, if_neg (by rw [hin]; decide), R_cSet2]; (repeat (first | rw [if_pos (by assumption)] | rw [if_neg (by assumption)]))); done) | exact absurd (c30.symm.trans c46) (by decide), rfl⟩
            · refine r_iload_n (pc := 49) dX6_allows_49 rfl rfl ?_
              refine r_aload_n (pc := 50) dX6_allows_50 rfl rfl ?_
              refine r_bipush (v := 9) (pc := 51) dX6_allows_51 (by decide) ?_
              refine q_callV (ci := 5) (T := TX6) (N := 1) (vs := [.int _]) (pc := 53) dX6_allows_53 rfl l_RX6_35 rfl ⟨by decide, by decide⟩ rfl (Nat.le_of_ble_eq_true rfl) hl (sH_at (i := 4) (by decide)) rfl (Nat.le_of_ble_eq_true rfl) (s_X6_value hl _ 9 rfl (by decide)) sH_22 ?_
              refine r_icmp_lt 63 (pc := 56) dX6_allows_56 (by decide) (fun c56 => ?_) (fun c56 => ?_)
              · refine r_iconst (v := 0) (pc := 63) dX6_allows_63 (by decide) ?_
                exact r_ireturn (S := []) (pc := 64) dX6_allows_64 rfl rfl ⟨by first | (rw [R_cSet, if_pos c4]) | (rw [R_cSet, if_neg c4, if_pos (by rw [R_in, ← hlo, if_pos c13])]) | (rw [R_cSet, if_neg c4, if_pos (by rw [R_in, ← hlo, ← hmo, if_neg c13, if_pos (Int32.not_le.mp c22)])]) | ((rw [R_cSet, if_neg c4, if_neg (by rw [hin]; decide), R_cSet2]; (repeat (first | rw [if_pos (by assumption)] | rw [if_neg (by assumption)]))); done) | exact absurd (c30.symm.trans c46) (by decide), rfl⟩
              · refine r_iconst (v := 1) (pc := 59) dX6_allows_59 (by decide) ?_
                refine r_goto 64 (pc := 60) dX6_allows_60 (by decide) ?_
                exact r_ireturn (S := []) (pc := 64) dX6_allows_64 rfl rfl ⟨by first | (rw [R_cSet, if_pos c4]) | (rw [R_cSet, if_neg c4, if_pos (by rw [R_in, ← hlo, if_pos c13])]) | (rw [R_cSet, if_neg c4, if_pos (by rw [R_in, ← hlo, ← hmo, if_neg c13, if_pos (Int32.not_le.mp c22)])]) | ((rw [R_cSet, if_neg c4, if_neg (by rw [hin]; decide), R_cSet2]; (repeat (first | rw [if_pos (by assumption)] | rw [if_neg (by assumption)]))); done) | exact absurd (c30.symm.trans c46) (by decide), rfl⟩
      · refine r_iconst (v := 0) (pc := 25) dX6_allows_25 (by decide) ?_
        exact r_ireturn (S := []) (pc := 26) dX6_allows_26 rfl rfl ⟨by first | (rw [R_cSet, if_pos c4]) | (rw [R_cSet, if_neg c4, if_pos (by rw [R_in, ← hlo, if_pos c13])]) | (rw [R_cSet, if_neg c4, if_pos (by rw [R_in, ← hlo, ← hmo, if_neg c13, if_pos (Int32.not_le.mp c22)])]) | ((rw [R_cSet, if_neg c4, if_neg (by rw [hin]; decide), R_cSet2]; (repeat (first | rw [if_pos (by assumption)] | rw [if_neg (by assumption)]))); done) | exact absurd (c30.symm.trans c46) (by decide), rfl⟩
