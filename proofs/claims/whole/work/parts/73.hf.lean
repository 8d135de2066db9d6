/-! each deed on both sides -/
def exI : Nat → String := fun _ => "java/lang/IllegalArgumentException"
def exIS : Nat → String := fun c => if c = 1 then "java/lang/IllegalArgumentException" else "java/lang/IllegalStateException"
def exO : Nat → String := fun _ => "java/lang/IndexOutOfBoundsException"
def exS : Nat → String := fun _ => "java/lang/IllegalStateException"
def exOI : Nat → String := fun c => if c = 1 then "java/lang/IndexOutOfBoundsException" else "java/lang/IllegalArgumentException"
theorem updd {I : Nat → Int32} : upd (upd I 0 0) 0 0 = upd I 0 0 := funext fun j => by
  by_cases h : j = 0
  · subst h; rw [upd_s, upd_s]
  · rw [upd_n h]
theorem has_in {x d : Int32} {k : Nat} (hx : x = nI k) (hk : k ≤ 6) : K_has d x = R_in d 0 (x - 1) := by
  subst hx
  have e : (nI k - 1).toInt = (k : Int) - 1 := by
    have h7 : k = 0 ∨ k = 1 ∨ k = 2 ∨ k = 3 ∨ k = 4 ∨ k = 5 ∨ k = 6 := by omega
    rcases h7 with rfl | rfl | rfl | rfl | rfl | rfl | rfl <;> decide
  have iff : nI k ≤ d ↔ nI k - 1 < d := by
    rw [Int32.le_iff_toInt_le, Int32.lt_iff_toInt_lt, e, nI_toInt (by omega)]
    omega
  unfold K_has R_in
  by_cases h0 : d < 0
  · rw [if_pos h0, if_pos h0]
  · rw [if_neg h0, if_neg h0]
    by_cases h1 : nI k ≤ d
    · rw [if_pos h1, if_pos (iff.mp h1)]
    · rw [if_neg h1, if_neg (fun z => h1 (iff.mpr z))]
theorem shot_25 {A : Nat → Int32} (h : WF A) : (R_shot A).1 25 = A 25 + R_one (R_shot A).2 := by
  have hF := WF_fires h
  obtain ⟨k41, e41, hk41⟩ := hF.K41
  have l41 : R_looks (R_fires A) 41 = nI k41 := (looks_st e41 hk41 (by omega)).trans e41
  have r41 : R_remembers (R_looks (R_fires A)) 41 = nI k41 := (rem_st l41 hk41 (by omega)).trans l41
  have s25 : (R_sh4 A).1 25 = A 25 := by rw [sh4_eq, picks_st r41 hk41 (by omega), rem_st l41 hk41 (by omega), looks_st e41 hk41 (by omega), fires_st h (by omega)]
  have e2 : (R_shot A).2 = R_isp (R_sh4 A).2 := shot_2
  rw [shot_1, alarms_st (by omega), tells_st (by omega), keeps_st (by omega), e2]
  unfold R_cnt
  rw [upd_s, upd_n (by omega), s25]
  unfold R_isp R_one
  by_cases e : (R_sh4 A).2 = -1
  · rw [if_pos e, if_pos rfl]
  · rw [if_neg e, if_neg (by decide)]
theorem shoots_25 {A : Nat → Int32} (h : WF A) (k : Nat) : (R_shoots A k).1 25 = A 25 + (R_shoots A k).2 := by
  induction k with
  | zero => rw [shoots_0]; exact (Int32.add_zero _).symm
  | succ k ih =>
    rw [shoots_s, R_shb]
    dsimp only
    rw [shot_25 (WF_shoots h k), ih, Int32.add_assoc]
theorem thing1 {d s : Int32} (h : ¬ R_cThing d s = 0) : R_cThing d s = 1 := by
  unfold R_cThing at h ⊢
  by_cases q1 : R_in d 0 10000 = 0
  · rw [if_pos q1] at h; exact absurd rfl h
  · rw [if_neg q1] at h ⊢
    by_cases q2 : R_in s 1 100 = 0
    · rw [if_pos q2] at h; exact absurd rfl h
    · rw [if_neg q2]
section OPS
variable {om : OM} {l : Launch} {C T : Nat → Int32} {W U : Nat → Int64} {S : Nat → Nat → Int32} {V : Nat → Nat → Int64} {ns cnt ln po : Int32} {wd : Value} {t nu : Nat → Int32} {I A a v n : Nat → Int32} {J : Nat → Int64}
theorem op_begin (hl : l.stackTraces = false) (G : GAp (C, W, T, U, S, V, ns, cnt, ln, po, wd, t, nu) (I, J, A, a, v, t, n)) (d : Int32) : OPC om l M_X10_begin M_X11_begin [.int d] [.int d] [1] exI (C, W, T, U, S, V, ns, cnt, ln, po, wd, t, nu) (I, J, A, a, v, t, n) := by
  have gA : AG C W A := G.1
  have gO : OKA A := G.2.1
  have lo : ∀ j, j ≤ 31 → C j = A j := fun j hj => gA.1.lo hj
  by_cases h : R_in d 500 10000 = 0
  · exact opc_no G 1 (by decide) (by decide) (fun R ns cnt hg B hB => s_X10_begin_no hl hB hg d (by exact h)) (fun Y B => s_X11_begin_no hl d h) rfl rfl rfl
  · exact opc_set hl G (lo 24 (by omega)) (fun R R' ns cnt ns' cnt' hg hg' hR hsv B => s_X10_begin_yes hl hg d (by exact in1 h) hg' hR hsv) (fun Y B c hc hc4 => s_X11_begin_yes hl d (in1 h) c hc hc4) (AG_begins (lo 11 (by omega))) (OKA_begins (in1 h))
theorem op_setLevel (hl : l.stackTraces = false) (G : GAp (C, W, T, U, S, V, ns, cnt, ln, po, wd, t, nu) (I, J, A, a, v, t, n)) (d : Int32) : OPC om l M_X10_setLevel M_X11_setLevel [.int d] [.int d] [1] exI (C, W, T, U, S, V, ns, cnt, ln, po, wd, t, nu) (I, J, A, a, v, t, n) := by
  have gA : AG C W A := G.1
  have gO : OKA A := G.2.1
  have lo : ∀ j, j ≤ 31 → C j = A j := fun j hj => gA.1.lo hj
  by_cases h : R_in d 0 (A 0) = 0
  · exact opc_no G 1 (by decide) (by decide) (fun R ns cnt hg B hB => s_X10_setLevel_no hl hB hg d (by rw [lo 0 (by omega)]; exact h)) (fun Y B => s_X11_setLevel_no hl d h) rfl rfl rfl
  · exact opc_set hl G (lo 1 (by omega)) (fun R R' ns cnt ns' cnt' hg hg' hR hsv B => s_X10_setLevel_yes hl hg d (by rw [lo 0 (by omega)]; exact in1 h) hg' hR hsv) (fun Y B c hc hc4 => s_X11_setLevel_yes hl d (in1 h) c hc hc4) (AG_put gA (by omega) (by omega)) (OKA_level gO (in1 h))
theorem op_setFlow (hl : l.stackTraces = false) (G : GAp (C, W, T, U, S, V, ns, cnt, ln, po, wd, t, nu) (I, J, A, a, v, t, n)) (d : Int32) : OPC om l M_X10_setFlow M_X11_setFlow [.int d] [.int d] [1] exI (C, W, T, U, S, V, ns, cnt, ln, po, wd, t, nu) (I, J, A, a, v, t, n) := by
  have gA : AG C W A := G.1
  have gO : OKA A := G.2.1
  have lo : ∀ j, j ≤ 31 → C j = A j := fun j hj => gA.1.lo hj
  by_cases h : R_in d (-200) 200 = 0
  · exact opc_no G 1 (by decide) (by decide) (fun R ns cnt hg B hB => s_X10_setFlow_no hl hB hg d (by exact h)) (fun Y B => s_X11_setFlow_no hl d h) rfl rfl rfl
  · exact opc_set hl G (lo 2 (by omega)) (fun R R' ns cnt ns' cnt' hg hg' hR hsv B => s_X10_setFlow_yes hl hg d (by exact in1 h) hg' hR hsv) (fun Y B c hc hc4 => s_X11_setFlow_yes hl d (in1 h) c hc hc4) (AG_put gA (by omega) (by omega)) (OKA_put gO (by omega))
theorem op_setFoam (hl : l.stackTraces = false) (G : GAp (C, W, T, U, S, V, ns, cnt, ln, po, wd, t, nu) (I, J, A, a, v, t, n)) (d : Int32) : OPC om l M_X10_setFoam M_X11_setFoam [.int d] [.int d] [1] exI (C, W, T, U, S, V, ns, cnt, ln, po, wd, t, nu) (I, J, A, a, v, t, n) := by
  have gA : AG C W A := G.1
  have gO : OKA A := G.2.1
  have lo : ∀ j, j ≤ 31 → C j = A j := fun j hj => gA.1.lo hj
  by_cases h : R_in d 0 500 = 0
  · exact opc_no G 1 (by decide) (by decide) (fun R ns cnt hg B hB => s_X10_setFoam_no hl hB hg d (by exact h)) (fun Y B => s_X11_setFoam_no hl d h) rfl rfl rfl
  · exact opc_set hl G (lo 3 (by omega)) (fun R R' ns cnt ns' cnt' hg hg' hR hsv B => s_X10_setFoam_yes hl hg d (by exact in1 h) hg' hR hsv) (fun Y B c hc hc4 => s_X11_setFoam_yes hl d (in1 h) c hc hc4) (AG_put gA (by omega) (by omega)) (OKA_put gO (by omega))
theorem op_addThing (hl : l.stackTraces = false) (G : GAp (C, W, T, U, S, V, ns, cnt, ln, po, wd, t, nu) (I, J, A, a, v, t, n)) (d s : Int32) : OPC om l M_X10_addThing M_X11_addThing [.int d, .int s] [.int d, .int s] [1, 2] exIS (C, W, T, U, S, V, ns, cnt, ln, po, wd, t, nu) (I, J, A, a, v, t, n) := by
  have gA : AG C W A := G.1
  have gO : OKA A := G.2.1
  have lo : ∀ j, j ≤ 31 → C j = A j := fun j hj => gA.1.lo hj
  by_cases h : R_cThing d s = 0
  · exact opc_no G 1 (by decide) (by decide) (fun R ns cnt hg B hB => s_X10_addThing_no hl hB hg d s h) (fun Y B => s_X11_addThing_no hl d s h) rfl rfl rfl
  · have h1 : R_cThing d s = 1 := thing1 h
    obtain ⟨k, h4, hk⟩ := gO.1.K4
    by_cases h6 : k = 6
    · subst h6
      exact opc_no G 2 (by decide) (by decide) (fun R ns cnt hg B hB => s_X10_addThing_no2 hl hB hg d s h1 (by rw [lo 4 (by omega), h4]; exact lt_6n (by decide))) (fun Y B => s_X11_addThing_no2 hl d s h1 h4) rfl rfl rfl
    · have hk6 : k < 6 := by omega
      have e := AG_adds (d := d) (s := s) gA h4 hk6
      have n6 : ¬ (6 : Int32) ≤ A 4 := by rw [h4]; exact fun z => by have := (nI_le_iff (a := 6) (by omega) (by omega)).mp z; omega
      exact opc_set hl G (by rw [e.1.lo (j := 4) (by omega)]) (fun R R' ns cnt ns' cnt' hg hg' hR hsv B => s_X10_addThing_yes hl hg d s h1 (by rw [lo 4 (by omega)]; exact lt_6 n6) hg' hR hsv k ((lo 4 (by omega)).trans h4) hk6) (fun Y B c hc hc4 => (by
        have z := s_X11_addThing_yes (om := om) (B := B) (h0 := Y) (I := I) (J := J) (A := A) (a := a) (v := v) (t := t) (n := n) hl d s h1 k h4 hk6 c hc hc4
        rw [updd] at z
        exact z)) (e) (OKA_adds gO h4 hk6 h)
theorem op_removeThing (hl : l.stackTraces = false) (G : GAp (C, W, T, U, S, V, ns, cnt, ln, po, wd, t, nu) (I, J, A, a, v, t, n)) (d : Int32) : OPC om l M_X10_removeThing M_X11_removeThing [.int d] [.int d] [1] exO (C, W, T, U, S, V, ns, cnt, ln, po, wd, t, nu) (I, J, A, a, v, t, n) := by
  have gA : AG C W A := G.1
  have gO : OKA A := G.2.1
  have lo : ∀ j, j ≤ 31 → C j = A j := fun j hj => gA.1.lo hj
  obtain ⟨k, h4, hk⟩ := gO.1.K4
  have e4 : C 4 = nI k := (lo 4 (by omega)).trans h4
  have hin : K_hasT d (C 4) = R_in d 0 (A 4 - 1) := by rw [hasT_has e4 hk, lo 4 (by omega)]; exact has_in h4 hk
  by_cases h : R_in d 0 (A 4 - 1) = 0
  · exact opc_no G 1 (by decide) (by decide) (fun R ns cnt hg B hB => s_X10_removeThing_no hl hB hg d (hin.trans h)) (fun Y B => s_X11_removeThing_no hl d h) rfl rfl rfl
  · have h1 := in1 h
    obtain ⟨x, hx, hxk⟩ : ∃ x, d = nI x ∧ x < k := by
      have h2 := ((hasT_has e4 hk).symm.trans (hin.trans h1))
      rw [e4] at h2
      unfold K_has at h2
      by_cases q0 : d < 0
      · rw [if_pos q0] at h2; exact absurd h2 (by decide)
      · rw [if_neg q0] at h2
        by_cases q1 : nI k ≤ d
        · rw [if_pos q1] at h2; exact absurd h2 (by decide)
        · have d0 := Int32.le_iff_toInt_le.mp (Int32.not_lt.mp q0)
          have d1 := Int32.lt_iff_toInt_lt.mp (Int32.not_le.mp q1)
          rw [nI_toInt (by omega)] at d1
          have z0 : (0 : Int32).toInt = 0 := rfl
          rw [z0] at d0
          refine ⟨d.toInt.toNat, Int32.toInt_inj.mp ?_, by omega⟩
          rw [nI_toInt (by omega)]
          omega
    obtain ⟨k0, rfl⟩ : ∃ k0, k = k0 + 1 := ⟨k - 1, by omega⟩
    have e := AG_rm gA h4 hxk hk
    exact opc_set hl G (e.1.lo (j := 4) (by omega)) (fun R R' ns cnt ns' cnt' hg hg' hR hsv B => s_X10_removeThing_yes hl hg d (hin.trans h1) hg' hR hsv x k0 hx e4 hxk hk) (fun Y B c hc hc4 => s_X11_removeThing_yes hl d h1 c hc hc4 (k0 + 1) x h4 hk hx hxk) (e) (OKA_rm gO h4 hxk hk)
theorem op_setStirrer (hl : l.stackTraces = false) (G : GAp (C, W, T, U, S, V, ns, cnt, ln, po, wd, t, nu) (I, J, A, a, v, t, n)) (p u x sp be : Int32) : OPC om l M_X10_setStirrer M_X11_setStirrer [.int p, .int u, .int x, .int sp, .int be] [.int p, .int u, .int x, .int sp, .int be] [1] exI (C, W, T, U, S, V, ns, cnt, ln, po, wd, t, nu) (I, J, A, a, v, t, n) := by
  have gA : AG C W A := G.1
  have gO : OKA A := G.2.1
  have lo : ∀ j, j ≤ 31 → C j = A j := fun j hj => gA.1.lo hj
  by_cases h : R_cStir p u x sp be = 0
  · exact opc_no G 1 (by decide) (by decide) (fun R ns cnt hg B hB => s_X10_setStirrer_no hl hB hg p u x sp be h) (fun Y B => s_X11_setStirrer_no hl p u x sp be h) rfl rfl rfl
  · have h1 := (stir01 _ _ _ _ _).resolve_left h
    exact opc_set hl G (lo 5 (by omega)) (fun R R' ns cnt ns' cnt' hg hg' hR hsv B => s_X10_setStirrer_yes hl hg p u x sp be h1 hg' hR hsv) (fun Y B c hc hc4 => s_X11_setStirrer_yes hl p u x sp be h1 c hc hc4) (AG_stirs gA) (OKA_stirs gO h)
theorem op_set (hl : l.stackTraces = false) (G : GAp (C, W, T, U, S, V, ns, cnt, ln, po, wd, t, nu) (I, J, A, a, v, t, n)) (x d : Int32) : OPC om l M_X10_set M_X11_set [.int x, .int d] [.int x, .int d] [1] exI (C, W, T, U, S, V, ns, cnt, ln, po, wd, t, nu) (I, J, A, a, v, t, n) := by
  have gA : AG C W A := G.1
  have gO : OKA A := G.2.1
  have lo : ∀ j, j ≤ 31 → C j = A j := fun j hj => gA.1.lo hj
  have ce := cset_ag (C := C) (A := A) (lo 21 (by omega)) (lo 22 (by omega)) x d
  by_cases h : R_cSet A x d = 0
  · exact opc_no G 1 (by decide) (by decide) (fun R ns cnt hg B hB => s_X10_set_no hl hB hg x d (ce.trans h)) (fun Y B => s_X11_set_no hl x d h) rfl rfl rfl
  · have h1 := (set01 _ _ _).resolve_left h
    obtain ⟨k, hx, hk⟩ := cset_ex h
    by_cases h6 : k = 6
    · subst h6
      obtain ⟨L, hd, hL1, hL9⟩ := (sets_rng hx hk h).2.1 rfl
      obtain ⟨K, h31, hK9⟩ := gO.1.K31
      exact opc_set hl G (lo (12 + 6) (by omega)) (fun R R' ns cnt ns' cnt' hg hg' hR hsv B => s_X10_set_yes6 hl hg x d (ce.trans h1) hg' hR hsv hx K L ((lo 31 (by omega)).trans h31) hK9 hd hL9) (fun Y B c hc hc4 => s_X11_set_yes hl x d h1 c hc hc4 6 hx hk) (AG_sets6 gA h31 hK9 hd hL9) (OKA_sets gO hx hk h)
    · exact opc_set hl G (lo (12 + k) (by omega)) (fun R R' ns cnt ns' cnt' hg hg' hR hsv B => s_X10_set_yes hl hg x d (ce.trans h1) hg' hR hsv k hx (by omega) h6) (fun Y B c hc hc4 => s_X11_set_yes hl x d h1 c hc hc4 k hx hk) (AG_sets gA gO hk h6) (OKA_sets gO hx hk h)
theorem op_setS (hl : l.stackTraces = false) (G : GAp (C, W, T, U, S, V, ns, cnt, ln, po, wd, t, nu) (I, J, A, a, v, t, n)) (d : Int32) : OPC om l M_X10_setS M_X11_setS [.int d] [.int d] [1] exI (C, W, T, U, S, V, ns, cnt, ln, po, wd, t, nu) (I, J, A, a, v, t, n) := by
  have gA : AG C W A := G.1
  have gO : OKA A := G.2.1
  have lo : ∀ j, j ≤ 31 → C j = A j := fun j hj => gA.1.lo hj
  by_cases h : R_nn d = 0
  · exact opc_no G 1 (by decide) (by decide) (fun R ns cnt hg B hB => s_X10_setS_no hl hB hg d h) (fun Y B => s_X11_setS_no hl d h) rfl rfl rfl
  · have h1 : R_nn d = 1 := by
      unfold R_nn at h ⊢
      by_cases q : d < 0
      · rw [if_pos q] at h; exact absurd rfl h
      · rw [if_neg q]
    exact opc_set hl G (lo 11 (by omega)) (fun R R' ns cnt ns' cnt' hg hg' hR hsv B => s_X10_setS_yes hl hg d h1 hg' hR hsv) (fun Y B c hc hc4 => s_X11_setS_yes hl d h1 c hc hc4) (AG_put gA (by omega) (by omega)) (OKA_put gO (by omega))
theorem op_mask (hl : l.stackTraces = false) (G : GAp (C, W, T, U, S, V, ns, cnt, ln, po, wd, t, nu) (I, J, A, a, v, t, n)) (d y : Int32) (hy : y = 0 ∨ y = 1) : OPC om l M_X10_mask M_X11_mask [.int d, .int y] [.int d, .int y] [1] exI (C, W, T, U, S, V, ns, cnt, ln, po, wd, t, nu) (I, J, A, a, v, t, n) := by
  have gA : AG C W A := G.1
  have gO : OKA A := G.2.1
  have lo : ∀ j, j ≤ 31 → C j = A j := fun j hj => gA.1.lo hj
  have e1 : R_one y = y := by rcases hy with rfl | rfl <;> decide
  by_cases h : R_in d 0 10000 = 0
  · exact opc_no G 1 (by decide) (by decide) (fun R ns cnt hg B hB => s_X10_mask_no hl hB hg d y h) (fun Y B => s_X11_mask_no hl d y h) rfl rfl rfl
  · have h1 := in1 h
    obtain ⟨x, hx, -, hx1⟩ := in_ex (a := 0) (b := 10000) h1 rfl rfl (by omega) (by omega)
    exact opc_set hl G (gA.2.1 (x / 20) (by omega)) (fun R R' ns cnt ns' cnt' hg hg' hR hsv B => s_X10_mask_yes hl hg d y h1 hg' hR hsv x hx hx1) (fun Y B c hc hc4 => (by
      have z := s_X11_mask_yes (om := om) (B := B) (h0 := Y) (I := I) (J := J) (A := A) (a := a) (v := v) (t := t) (n := n) hl d y h1 c hc hc4 x hx hx1
      rw [e1] at z
      exact z)) (AG_mask gA gO (by omega) hy) (OKA_mask gA gO (by omega) hy)
theorem op_learn (hl : l.stackTraces = false) (G : GAp (C, W, T, U, S, V, ns, cnt, ln, po, wd, t, nu) (I, J, A, a, v, t, n)) (d : Int32) : OPC om l M_X10_learn M_X11_learn [.int d] [.int d] [1] exI (C, W, T, U, S, V, ns, cnt, ln, po, wd, t, nu) (I, J, A, a, v, t, n) := by
  have gA : AG C W A := G.1
  have gO : OKA A := G.2.1
  have lo : ∀ j, j ≤ 31 → C j = A j := fun j hj => gA.1.lo hj
  by_cases h : R_in d 1 50 = 0
  · exact opc_no G 1 (by decide) (by decide) (fun R ns cnt hg B hB => s_X10_learn_no hl hB hg d h) (fun Y B => s_X11_learn_no hl d h) rfl rfl rfl
  · have h1 := in1 h
    obtain ⟨s, hd, -, hs⟩ := in_ex (a := 1) (b := 50) h1 rfl rfl (by omega) (by omega)
    obtain ⟨e, ok⟩ := OKA_learns gA gO s
    exact opc_set hl G (e.2.2) (fun R R' ns cnt ns' cnt' hg hg' hR hsv B => s_X10_learn_yes hl hg d h1 hg' hR hsv A s hd hs gA gO.1 gO.2.1) (fun Y B c hc hc4 => s_X11_learn_yes hl d h1 c hc hc4 s hd (by omega) gO.1) (e) (ok)
theorem op_shoot (hl : l.stackTraces = false) (G : GAp (C, W, T, U, S, V, ns, cnt, ln, po, wd, t, nu) (I, J, A, a, v, t, n)) (d : Int32) : OPC om l M_X10_shoot M_X11_shoot [.int d] [.int d] [1] exI (C, W, T, U, S, V, ns, cnt, ln, po, wd, t, nu) (I, J, A, a, v, t, n) := by
  have gA : AG C W A := G.1
  have gO : OKA A := G.2.1
  have lo : ∀ j, j ≤ 31 → C j = A j := fun j hj => gA.1.lo hj
  by_cases h : R_in d 1 500 = 0
  · exact opc_no G 1 (by decide) (by decide) (fun R ns cnt hg B hB => s_X10_shoot_no hl hB hg d h) (fun Y B => s_X11_shoot_no hl d h) rfl rfl rfl
  · have h1 := in1 h
    obtain ⟨s, hd, -, hs⟩ := in_ex (a := 1) (b := 500) h1 rfl rfl (by omega) (by omega)
    obtain ⟨e, ok⟩ := OKA_shoots gA gO s
    exact opc_set hl G (by rw [e.1.lo (j := 25) (by omega), lo 25 (by omega), shoots_25 gO.1 s]; grind) (fun R R' ns cnt ns' cnt' hg hg' hR hsv B => s_X10_shoot_yes hl hg d h1 hg' hR hsv A s hd hs gA gO.1 gO.2.1) (fun Y B c hc hc4 => s_X11_shoot_yes hl d h1 c hc hc4 s hd (by omega) gO.1) (e) (ok)
theorem op_forget (hl : l.stackTraces = false) (G : GAp (C, W, T, U, S, V, ns, cnt, ln, po, wd, t, nu) (I, J, A, a, v, t, n)) : OPC om l M_X10_forget M_X11_forget [] [] [] exI (C, W, T, U, S, V, ns, cnt, ln, po, wd, t, nu) (I, J, A, a, v, t, n) := by
  have gA : AG C W A := G.1
  have gO : OKA A := G.2.1
  have lo : ∀ j, j ≤ 31 → C j = A j := fun j hj => gA.1.lo hj
  exact opc_set hl G (gA.2.2) (fun R R' ns cnt ns' cnt' hg hg' hR hsv B => s_X10_forget hl hg   hg' hR hsv) (fun Y B c hc hc4 => s_X11_forget hl   c hc hc4) (AG_forget gA gO.1) (OKA_forget gO)
end OPS
