/-! what a command does, by its word: class and reference -/
theorem do1_0 {A n : Nat → Int32} : R_do1 A n (Int64.ofNat 394778) = if R_in (n 0) 500 10000 = 0 then (0, A) else (1, R_begins A (n 0)) := by
  have e : R_do2 A n (Int64.ofNat 394778) = (0, A) := by rw [R_do2, if_neg (by decide +kernel), R_do3, if_neg (by decide +kernel), R_do4, if_neg (by decide +kernel), R_do5, if_neg (by decide +kernel), R_do6, if_neg (by decide +kernel), R_do7, if_neg (by decide +kernel), R_do8, if_neg (by decide +kernel), R_do9, if_neg (by decide +kernel), R_do10]
  rw [R_do1, if_pos (by decide +kernel), e]
theorem do1_1 {A n : Nat → Int32} : R_do1 A n (Int64.ofNat 6491892) = if R_in (n 0) 0 (A 0) = 0 then (0, A) else (1, upd A 1 (n 0)) := by
  have e : R_do3 A n (Int64.ofNat 6491892) = (0, A) := by rw [R_do3, if_neg (by decide +kernel), R_do4, if_neg (by decide +kernel), R_do5, if_neg (by decide +kernel), R_do6, if_neg (by decide +kernel), R_do7, if_neg (by decide +kernel), R_do8, if_neg (by decide +kernel), R_do9, if_neg (by decide +kernel), R_do10]
  rw [R_do1, if_neg (by decide +kernel), R_do2, if_pos (by decide +kernel), e]
theorem do1_2 {A n : Nat → Int32} : R_do1 A n (Int64.ofNat 127274) = if R_in (n 0) (-200) 200 = 0 then (0, A) else (1, upd A 2 (n 0)) := by
  have e : R_do4 A n (Int64.ofNat 127274) = (0, A) := by rw [R_do4, if_neg (by decide +kernel), R_do5, if_neg (by decide +kernel), R_do6, if_neg (by decide +kernel), R_do7, if_neg (by decide +kernel), R_do8, if_neg (by decide +kernel), R_do9, if_neg (by decide +kernel), R_do10]
  rw [R_do1, if_neg (by decide +kernel), R_do2, if_neg (by decide +kernel), R_do3, if_pos (by decide +kernel), e]
theorem do1_3 {A n : Nat → Int32} : R_do1 A n (Int64.ofNat 129073) = if R_in (n 0) 0 500 = 0 then (0, A) else (1, upd A 3 (n 0)) := by
  have e : R_do5 A n (Int64.ofNat 129073) = (0, A) := by rw [R_do5, if_neg (by decide +kernel), R_do6, if_neg (by decide +kernel), R_do7, if_neg (by decide +kernel), R_do8, if_neg (by decide +kernel), R_do9, if_neg (by decide +kernel), R_do10]
  rw [R_do1, if_neg (by decide +kernel), R_do2, if_neg (by decide +kernel), R_do3, if_neg (by decide +kernel), R_do4, if_pos (by decide +kernel), e]
theorem do1_4 {A n : Nat → Int32} : R_do1 A n (Int64.ofNat 10793230) = if R_cThing (n 0) (n 1) = 0 then (0, A) else if 6 ≤ A 4 then (0, A) else (1, R_adds A (cl (A 4)) (n 0) (n 1)) := by
  have e : R_do6 A n (Int64.ofNat 10793230) = (0, A) := by rw [R_do6, if_neg (by decide +kernel), R_do7, if_neg (by decide +kernel), R_do8, if_neg (by decide +kernel), R_do9, if_neg (by decide +kernel), R_do10]
  rw [R_do1, if_neg (by decide +kernel), R_do2, if_neg (by decide +kernel), R_do3, if_neg (by decide +kernel), R_do4, if_neg (by decide +kernel), R_do5, if_pos (by decide +kernel), e]
theorem do1_5 {A n : Nat → Int32} : R_do1 A n (Int64.ofNat 35097859) = if R_cStir (n 0) (n 1) (n 2) (n 3) (n 4) = 0 then (0, A) else (1, R_stirs A (n 0) (n 1) (n 2) (n 3) (n 4)) := by
  have e : R_do7 A n (Int64.ofNat 35097859) = (0, A) := by rw [R_do7, if_neg (by decide +kernel), R_do8, if_neg (by decide +kernel), R_do9, if_neg (by decide +kernel), R_do10]
  rw [R_do1, if_neg (by decide +kernel), R_do2, if_neg (by decide +kernel), R_do3, if_neg (by decide +kernel), R_do4, if_neg (by decide +kernel), R_do5, if_neg (by decide +kernel), R_do6, if_pos (by decide +kernel), e]
theorem do1_6 {A n : Nat → Int32} : R_do1 A n (Int64.ofNat 14006) = if R_cSet A (n 0) (n 1) = 0 then (0, A) else (1, R_sets A (cl (n 0)) (n 1)) := by
  have e : R_do8 A n (Int64.ofNat 14006) = (0, A) := by rw [R_do8, if_neg (by decide +kernel), R_do9, if_neg (by decide +kernel), R_do10]
  rw [R_do1, if_neg (by decide +kernel), R_do2, if_neg (by decide +kernel), R_do3, if_neg (by decide +kernel), R_do4, if_neg (by decide +kernel), R_do5, if_neg (by decide +kernel), R_do6, if_neg (by decide +kernel), R_do7, if_pos (by decide +kernel), e]
theorem do1_7 {A n : Nat → Int32} : R_do1 A n (Int64.ofNat 6476936) = if R_in (n 0) 1 50 = 0 then (0, A) else (1, R_learns A (cl (n 0))) := by
  have e : R_do9 A n (Int64.ofNat 6476936) = (0, A) := by rw [R_do9, if_neg (by decide +kernel), R_do10]
  rw [R_do1, if_neg (by decide +kernel), R_do2, if_neg (by decide +kernel), R_do3, if_neg (by decide +kernel), R_do4, if_neg (by decide +kernel), R_do5, if_neg (by decide +kernel), R_do6, if_neg (by decide +kernel), R_do7, if_neg (by decide +kernel), R_do8, if_pos (by decide +kernel), e]
theorem do1_8 {A n : Nat → Int32} : R_do1 A n (Int64.ofNat 10266203) = if R_in (n 0) 1 500 = 0 then (0, A) else (1, (R_shoots A (cl (n 0))).1) := by
  have e : R_do10 A n (Int64.ofNat 10266203) = (0, A) := by rw [R_do10]
  rw [R_do1, if_neg (by decide +kernel), R_do2, if_neg (by decide +kernel), R_do3, if_neg (by decide +kernel), R_do4, if_neg (by decide +kernel), R_do5, if_neg (by decide +kernel), R_do6, if_neg (by decide +kernel), R_do7, if_neg (by decide +kernel), R_do8, if_neg (by decide +kernel), R_do9, if_pos (by decide +kernel), e]
def CoP (R : Hp) (r : Int32 × (Nat → Int32)) : Out → Hp → Prop := fun o h => o = .inl (some (.int r.1)) ∧ ∃ (C : Nat → Int32) (W : Nat → Int64), h = sH R 1 C W ∧ AG C W r.2 ∧ OKA r.2
theorem CoP_no {R : Hp} {C A : Nat → Int32} {W : Nat → Int64} {o : Out} {h : Hp} (q : Det (some (.int 0)) (sH R 1 C W) o h) (a : AG C W A) (k : OKA A) : CoP R (0, A) o h := ⟨q.1, C, W, q.2, a, k⟩
theorem CoP_yes {R : Hp} {C A : Nat → Int32} {W : Nat → Int64} {o : Out} {h : Hp} (q : Det (some (.int 1)) (sH R 1 C W) o h) (a : AG C W A) (k : OKA A) : CoP R (1, A) o h := ⟨q.1, C, W, q.2, a, k⟩
theorem in1 {x lo hi : Int32} (h : ¬ R_in x lo hi = 0) : R_in x lo hi = 1 := (in01 _ _ _).resolve_left h
theorem cset_ag {C A : Nat → Int32} (h21 : C 21 = A 21) (h22 : C 22 = A 22) (x d : Int32) : R_cSet C x d = R_cSet A x d := by
  unfold R_cSet R_cSet2
  rw [h21, h22]
theorem lt_6 {x : Int32} (h : ¬ 6 ≤ x) : K_lt x 6 = 1 := if_neg h
theorem lt_6n {x : Int32} (h : 6 ≤ x) : K_lt x 6 = 0 := if_pos h
theorem coa_0 {om : OM} {l : Launch} {B : Nat × Nat} {R : Hp} {C A : Nat → Int32} {W : Nat → Int64} {ns cnt : Int32} (hl : l.stackTraces = false) (hg : R.1 0 = .inr (8, gf ns cnt)) (hA : AG C W A) (o : OKA A) {ln po : Int32} {t nu n : Nat → Int32} (hc : HC R ln po (.ref 100010) t nu) (hn : ∀ j, j < 1 → nu j = n j) : Runs om l M_X10_carryOut B 0 (entL 5 [.ref 0]) [] (sH R 1 C W) (CoP R (R_do1 A n (Int64.ofNat 394778))) := by
  have lo : ∀ j, j ≤ 31 → C j = A j := fun j hj => hA.1.lo hj
  have n0 : nu 0 = n 0 := hn 0 (by omega)
  rw [do1_0]
  by_cases h : R_in (n 0) 500 10000 = 0
  · rw [if_pos h]
    exact r_mono (s_co_0_no hl hg hc (by rw [n0]; exact h)) (fun _ _ q => CoP_no q hA o)
  · rw [if_neg h]
    refine r_mono (s_co_0_yes hl hg hc (by rw [n0]; exact (in1 h))) (fun _ _ q => CoP_yes q ?_ (OKA_begins (in1 h)))
    rw [n0]
    exact AG_begins (lo 11 (by omega))
theorem coa_1 {om : OM} {l : Launch} {B : Nat × Nat} {R : Hp} {C A : Nat → Int32} {W : Nat → Int64} {ns cnt : Int32} (hl : l.stackTraces = false) (hg : R.1 0 = .inr (8, gf ns cnt)) (hA : AG C W A) (o : OKA A) {ln po : Int32} {t nu n : Nat → Int32} (hc : HC R ln po (.ref 100011) t nu) (hn : ∀ j, j < 1 → nu j = n j) : Runs om l M_X10_carryOut B 0 (entL 5 [.ref 0]) [] (sH R 1 C W) (CoP R (R_do1 A n (Int64.ofNat 6491892))) := by
  have lo : ∀ j, j ≤ 31 → C j = A j := fun j hj => hA.1.lo hj
  have n0 : nu 0 = n 0 := hn 0 (by omega)
  rw [do1_1]
  by_cases h : R_in (n 0) 0 (A 0) = 0
  · rw [if_pos h]
    exact r_mono (s_co_1_no hl hg hc (by rw [n0, lo 0 (by omega)]; exact h)) (fun _ _ q => CoP_no q hA o)
  · rw [if_neg h]
    refine r_mono (s_co_1_yes hl hg hc (by rw [n0, lo 0 (by omega)]; exact (in1 h))) (fun _ _ q => CoP_yes q ?_ (OKA_level o (in1 h)))
    rw [n0]
    exact AG_put hA (by omega) (by omega)
theorem coa_2 {om : OM} {l : Launch} {B : Nat × Nat} {R : Hp} {C A : Nat → Int32} {W : Nat → Int64} {ns cnt : Int32} (hl : l.stackTraces = false) (hg : R.1 0 = .inr (8, gf ns cnt)) (hA : AG C W A) (o : OKA A) {ln po : Int32} {t nu n : Nat → Int32} (hc : HC R ln po (.ref 100012) t nu) (hn : ∀ j, j < 1 → nu j = n j) : Runs om l M_X10_carryOut B 0 (entL 5 [.ref 0]) [] (sH R 1 C W) (CoP R (R_do1 A n (Int64.ofNat 127274))) := by
  have lo : ∀ j, j ≤ 31 → C j = A j := fun j hj => hA.1.lo hj
  have n0 : nu 0 = n 0 := hn 0 (by omega)
  rw [do1_2]
  by_cases h : R_in (n 0) (-200) 200 = 0
  · rw [if_pos h]
    exact r_mono (s_co_2_no hl hg hc (by rw [n0]; exact h)) (fun _ _ q => CoP_no q hA o)
  · rw [if_neg h]
    refine r_mono (s_co_2_yes hl hg hc (by rw [n0]; exact (in1 h))) (fun _ _ q => CoP_yes q ?_ (OKA_put o (by omega)))
    rw [n0]
    exact AG_put hA (by omega) (by omega)
theorem coa_3 {om : OM} {l : Launch} {B : Nat × Nat} {R : Hp} {C A : Nat → Int32} {W : Nat → Int64} {ns cnt : Int32} (hl : l.stackTraces = false) (hg : R.1 0 = .inr (8, gf ns cnt)) (hA : AG C W A) (o : OKA A) {ln po : Int32} {t nu n : Nat → Int32} (hc : HC R ln po (.ref 100013) t nu) (hn : ∀ j, j < 1 → nu j = n j) : Runs om l M_X10_carryOut B 0 (entL 5 [.ref 0]) [] (sH R 1 C W) (CoP R (R_do1 A n (Int64.ofNat 129073))) := by
  have lo : ∀ j, j ≤ 31 → C j = A j := fun j hj => hA.1.lo hj
  have n0 : nu 0 = n 0 := hn 0 (by omega)
  rw [do1_3]
  by_cases h : R_in (n 0) 0 500 = 0
  · rw [if_pos h]
    exact r_mono (s_co_3_no hl hg hc (by rw [n0]; exact h)) (fun _ _ q => CoP_no q hA o)
  · rw [if_neg h]
    refine r_mono (s_co_3_yes hl hg hc (by rw [n0]; exact (in1 h))) (fun _ _ q => CoP_yes q ?_ (OKA_put o (by omega)))
    rw [n0]
    exact AG_put hA (by omega) (by omega)
theorem coa_4 {om : OM} {l : Launch} {B : Nat × Nat} {R : Hp} {C A : Nat → Int32} {W : Nat → Int64} {ns cnt : Int32} (hl : l.stackTraces = false) (hg : R.1 0 = .inr (8, gf ns cnt)) (hA : AG C W A) (o : OKA A) {ln po : Int32} {t nu n : Nat → Int32} (hc : HC R ln po (.ref 100014) t nu) (hn : ∀ j, j < 2 → nu j = n j) : Runs om l M_X10_carryOut B 0 (entL 5 [.ref 0]) [] (sH R 1 C W) (CoP R (R_do1 A n (Int64.ofNat 10793230))) := by
  have lo : ∀ j, j ≤ 31 → C j = A j := fun j hj => hA.1.lo hj
  have n0 : nu 0 = n 0 := hn 0 (by omega)
  have n1 : nu 1 = n 1 := hn 1 (by omega)
  rw [do1_4]
  by_cases h : R_cThing (n 0) (n 1) = 0
  · rw [if_pos h]
    exact r_mono (s_co_4_no hl hg hc (by unfold K_mayT; rw [n0, n1, if_pos h])) (fun _ _ q => CoP_no q hA o)
  · rw [if_neg h]
    obtain ⟨k, h4, hk⟩ := o.1.K4
    by_cases h6 : 6 ≤ A 4
    · rw [if_pos h6]
      exact r_mono (s_co_4_no hl hg hc (by unfold K_mayT; rw [n0, n1, if_neg h, if_pos (by rw [lo 4 (by omega)]; exact lt_6n h6)])) (fun _ _ q => CoP_no q hA o)
    · rw [if_neg h6, cl_nI h4 (by omega)]
      have hk6 : k < 6 := by
        by_cases e : k = 6
        · exact absurd (by rw [h4, e]; decide) h6
        · omega
      refine r_mono (s_co_4_yes hl hg hc (by unfold K_mayT; rw [n0, n1, if_neg h, if_neg (by rw [lo 4 (by omega), lt_6 h6]; decide)]) k ((lo 4 (by omega)).trans h4) hk6) (fun _ _ q => CoP_yes q ?_ (OKA_adds o h4 hk6 h))
      rw [n0, n1]
      exact AG_adds hA h4 hk6
theorem coa_5 {om : OM} {l : Launch} {B : Nat × Nat} {R : Hp} {C A : Nat → Int32} {W : Nat → Int64} {ns cnt : Int32} (hl : l.stackTraces = false) (hg : R.1 0 = .inr (8, gf ns cnt)) (hA : AG C W A) (o : OKA A) {ln po : Int32} {t nu n : Nat → Int32} (hc : HC R ln po (.ref 100015) t nu) (hn : ∀ j, j < 5 → nu j = n j) : Runs om l M_X10_carryOut B 0 (entL 5 [.ref 0]) [] (sH R 1 C W) (CoP R (R_do1 A n (Int64.ofNat 35097859))) := by
  have lo : ∀ j, j ≤ 31 → C j = A j := fun j hj => hA.1.lo hj
  have n0 : nu 0 = n 0 := hn 0 (by omega)
  have n1 : nu 1 = n 1 := hn 1 (by omega)
  have n2 : nu 2 = n 2 := hn 2 (by omega)
  have n3 : nu 3 = n 3 := hn 3 (by omega)
  have n4 : nu 4 = n 4 := hn 4 (by omega)
  rw [do1_5]
  by_cases h : R_cStir (n 0) (n 1) (n 2) (n 3) (n 4) = 0
  · rw [if_pos h]
    exact r_mono (s_co_5_no hl hg hc (by rw [n0, n1, n2, n3, n4]; exact h)) (fun _ _ q => CoP_no q hA o)
  · rw [if_neg h]
    refine r_mono (s_co_5_yes hl hg hc (by rw [n0, n1, n2, n3, n4]; exact ((stir01 _ _ _ _ _).resolve_left h))) (fun _ _ q => CoP_yes q ?_ (OKA_stirs o h))
    rw [n0, n1, n2, n3, n4]
    exact AG_stirs hA
theorem coa_6 {om : OM} {l : Launch} {B : Nat × Nat} {R : Hp} {C A : Nat → Int32} {W : Nat → Int64} {ns cnt : Int32} (hl : l.stackTraces = false) (hg : R.1 0 = .inr (8, gf ns cnt)) (hA : AG C W A) (o : OKA A) {ln po : Int32} {t nu n : Nat → Int32} (hc : HC R ln po (.ref 100016) t nu) (hn : ∀ j, j < 2 → nu j = n j) : Runs om l M_X10_carryOut B 0 (entL 5 [.ref 0]) [] (sH R 1 C W) (CoP R (R_do1 A n (Int64.ofNat 14006))) := by
  have lo : ∀ j, j ≤ 31 → C j = A j := fun j hj => hA.1.lo hj
  have n0 : nu 0 = n 0 := hn 0 (by omega)
  have n1 : nu 1 = n 1 := hn 1 (by omega)
  rw [do1_6]
  by_cases h : R_cSet A (n 0) (n 1) = 0
  · rw [if_pos h]
    exact r_mono (s_co_6_no hl hg hc (by rw [n0, n1, cset_ag (lo 21 (by omega)) (lo 22 (by omega))]; exact h)) (fun _ _ q => CoP_no q hA o)
  · rw [if_neg h]
    obtain ⟨k, hx, hk⟩ := cset_ex h
    rw [cl_nI hx (by omega)]
    by_cases h6 : k = 6
    · subst h6
      obtain ⟨L, hd, hL1, hL9⟩ := (sets_rng hx hk h).2.1 rfl
      obtain ⟨K, h31, hK9⟩ := o.1.K31
      refine r_mono (s_co_6_yes6 hl hg hc (by rw [n0, n1, cset_ag (lo 21 (by omega)) (lo 22 (by omega))]; exact ((set01 _ _ _).resolve_left h)) (n0.trans hx) K L ((lo 31 (by omega)).trans h31) hK9 (n1.trans hd) hL9) (fun _ _ q => CoP_yes q ?_ (OKA_sets o hx hk h))
      rw [n1]
      exact AG_sets6 hA h31 hK9 hd hL9
    · refine r_mono (s_co_6_yes hl hg hc (by rw [n0, n1, cset_ag (lo 21 (by omega)) (lo 22 (by omega))]; exact ((set01 _ _ _).resolve_left h)) k (n0.trans hx) (by omega) h6) (fun _ _ q => CoP_yes q ?_ (OKA_sets o hx hk h))
      rw [n1]
      exact AG_sets hA o hk h6
theorem coa_7 {om : OM} {l : Launch} {B : Nat × Nat} {R : Hp} {C A : Nat → Int32} {W : Nat → Int64} {ns cnt : Int32} (hl : l.stackTraces = false) (hg : R.1 0 = .inr (8, gf ns cnt)) (hA : AG C W A) (o : OKA A) {ln po : Int32} {t nu n : Nat → Int32} (hc : HC R ln po (.ref 100017) t nu) (hn : ∀ j, j < 1 → nu j = n j) : Runs om l M_X10_carryOut B 0 (entL 5 [.ref 0]) [] (sH R 1 C W) (CoP R (R_do1 A n (Int64.ofNat 6476936))) := by
  have lo : ∀ j, j ≤ 31 → C j = A j := fun j hj => hA.1.lo hj
  have n0 : nu 0 = n 0 := hn 0 (by omega)
  rw [do1_7]
  by_cases h : R_in (n 0) 1 50 = 0
  · rw [if_pos h]
    exact r_mono (s_co_7_no hl hg hc (by rw [n0]; exact h)) (fun _ _ q => CoP_no q hA o)
  · rw [if_neg h]
    obtain ⟨s, hd, -, hs⟩ := in_ex (a := 1) (b := 50) (in1 h) rfl rfl (by omega) (by omega)
    rw [cl_nI hd (by omega)]
    obtain ⟨a2, o2⟩ := OKA_learns hA o s
    exact r_mono (s_co_7_yes hl hg hc (by rw [n0]; exact (in1 h)) A s (n0.trans hd) hs hA o.1 o.2.1) (fun _ _ q => CoP_yes q a2 o2)
theorem coa_8 {om : OM} {l : Launch} {B : Nat × Nat} {R : Hp} {C A : Nat → Int32} {W : Nat → Int64} {ns cnt : Int32} (hl : l.stackTraces = false) (hg : R.1 0 = .inr (8, gf ns cnt)) (hA : AG C W A) (o : OKA A) {ln po : Int32} {t nu n : Nat → Int32} (hc : HC R ln po (.ref 100018) t nu) (hn : ∀ j, j < 1 → nu j = n j) : Runs om l M_X10_carryOut B 0 (entL 5 [.ref 0]) [] (sH R 1 C W) (CoP R (R_do1 A n (Int64.ofNat 10266203))) := by
  have lo : ∀ j, j ≤ 31 → C j = A j := fun j hj => hA.1.lo hj
  have n0 : nu 0 = n 0 := hn 0 (by omega)
  rw [do1_8]
  by_cases h : R_in (n 0) 1 500 = 0
  · rw [if_pos h]
    exact r_mono (s_co_8_no hl hg hc (by rw [n0]; exact h)) (fun _ _ q => CoP_no q hA o)
  · rw [if_neg h]
    obtain ⟨s, hd, -, hs⟩ := in_ex (a := 1) (b := 500) (in1 h) rfl rfl (by omega) (by omega)
    rw [cl_nI hd (by omega)]
    obtain ⟨a2, o2⟩ := OKA_shoots hA o s
    exact r_mono (s_co_8_yes hl hg hc (by rw [n0]; exact (in1 h)) A s (n0.trans hd) hs hA o.1 o.2.1) (fun _ _ q => CoP_yes q a2 o2)
theorem s_co {om : OM} {l : Launch} {B : Nat × Nat} {R : Hp} {C A : Nat → Int32} {W : Nat → Int64} {ns cnt : Int32} (hl : l.stackTraces = false) (hg : R.1 0 = .inr (8, gf ns cnt)) (hA : AG C W A) (o : OKA A) {ln po : Int32} {t nu n : Nat → Int32} (i : Nat) (hi : i < 9) (hc : HC R ln po (.ref (100010 + i)) t nu) (hn : ∀ j, j < K_nm i → nu j = n j) : Runs om l M_X10_carryOut B 0 (entL 5 [.ref 0]) [] (sH R 1 C W) (CoP R (R_do1 A n (Int64.ofNat (hsN i)))) := by
  have h9 : i = 0 ∨ i = 1 ∨ i = 2 ∨ i = 3 ∨ i = 4 ∨ i = 5 ∨ i = 6 ∨ i = 7 ∨ i = 8 := by omega
  obtain ⟨v0, v1, v2, v3, v4, v5, v6, v7, v8⟩ := hsN_v
  rcases h9 with rfl | rfl | rfl | rfl | rfl | rfl | rfl | rfl | rfl
  · rw [v0]; exact coa_0 hl hg hA o hc (fun j hj => hn j (by rw [show K_nm 0 = 1 from rfl]; exact hj))
  · rw [v1]; exact coa_1 hl hg hA o hc (fun j hj => hn j (by rw [show K_nm 1 = 1 from rfl]; exact hj))
  · rw [v2]; exact coa_2 hl hg hA o hc (fun j hj => hn j (by rw [show K_nm 2 = 1 from rfl]; exact hj))
  · rw [v3]; exact coa_3 hl hg hA o hc (fun j hj => hn j (by rw [show K_nm 3 = 1 from rfl]; exact hj))
  · rw [v4]; exact coa_4 hl hg hA o hc (fun j hj => hn j (by rw [show K_nm 4 = 2 from rfl]; exact hj))
  · rw [v5]; exact coa_5 hl hg hA o hc (fun j hj => hn j (by rw [show K_nm 5 = 5 from rfl]; exact hj))
  · rw [v6]; exact coa_6 hl hg hA o hc (fun j hj => hn j (by rw [show K_nm 6 = 2 from rfl]; exact hj))
  · rw [v7]; exact coa_7 hl hg hA o hc (fun j hj => hn j (by rw [show K_nm 7 = 1 from rfl]; exact hj))
  · rw [v8]; exact coa_8 hl hg hA o hc (fun j hj => hn j (by rw [show K_nm 8 = 1 from rfl]; exact hj))
