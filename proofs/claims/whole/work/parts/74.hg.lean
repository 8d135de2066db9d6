/-! each question on both sides -/
theorem nnx_ex {x : Int32} (h : ¬ R_nn x = 0) : ∃ e, x = nI e ∧ e < 2 ^ 31 := by
  unfold R_nn at h
  by_cases q : x < 0
  · rw [if_pos q] at h; exact absurd rfl h
  · have d0 := Int32.le_iff_toInt_le.mp (Int32.not_lt.mp q)
    have z0 : (0 : Int32).toInt = 0 := rfl
    rw [z0] at d0
    have hlt : x.toInt < 2 ^ 31 := Int32.toInt_lt x
    refine ⟨x.toInt.toNat, Int32.toInt_inj.mp ?_, by omega⟩
    rw [nI_toInt (by omega)]
    omega
theorem nn1 {x : Int32} (h : ¬ R_nn x = 0) : R_nn x = 1 := by
  unfold R_nn at h ⊢
  by_cases q : x < 0
  · rw [if_pos q] at h; exact absurd rfl h
  · rw [if_neg q]
theorem cEcho_ex {x y : Int32} (h : ¬ R_cEcho x y = 0) : R_cEcho x y = 1 ∧ (∃ e, x = nI e ∧ e < 2 ^ 31) ∧ ∃ k, y = nI k ∧ k ≤ 5 := by
  unfold R_cEcho at h ⊢
  by_cases q : x < 0
  · rw [if_pos q] at h; exact absurd rfl h
  · rw [if_neg q] at h ⊢
    by_cases q2 : R_in y 0 5 = 0
    · rw [if_pos q2] at h; exact absurd rfl h
    · rw [if_neg q2]
      refine ⟨rfl, nnx_ex (x := x) (by unfold R_nn; rw [if_neg q]; decide), ?_⟩
      obtain ⟨k, hk, -, hk5⟩ := in_ex (a := 0) (b := 5) (in1 q2) rfl rfl (by omega) (by omega)
      exact ⟨k, hk, hk5⟩
theorem has_ex {x d : Int32} {k : Nat} (hx : x = nI k) (hk : k ≤ 6) (h : K_has d x = 1) : ∃ i, d = nI i ∧ i < k := by
  subst hx
  unfold K_has at h
  by_cases q0 : d < 0
  · rw [if_pos q0] at h; exact absurd h (by decide)
  · rw [if_neg q0] at h
    by_cases q1 : nI k ≤ d
    · rw [if_pos q1] at h; exact absurd h (by decide)
    · have d0 := Int32.le_iff_toInt_le.mp (Int32.not_lt.mp q0)
      have d1 := Int32.lt_iff_toInt_lt.mp (Int32.not_le.mp q1)
      rw [nI_toInt (by omega)] at d1
      have z0 : (0 : Int32).toInt = 0 := rfl
      rw [z0] at d0
      refine ⟨d.toInt.toNat, Int32.toInt_inj.mp ?_, by omega⟩
      rw [nI_toInt (by omega)]
      omega
section OPQ
variable {om : OM} {l : Launch} {mC mR : MI} {vC vR : List Value} {cs : List Nat} {ex : Nat → String} {C T : Nat → Int32} {W U : Nat → Int64} {S : Nat → Nat → Int32} {V : Nat → Nat → Int64} {ns cnt ln po : Int32} {wd : Value} {t nu : Nat → Int32} {I A a v n : Nat → Int32} {J : Nat → Int64}
theorem opc_try (G : GAp (C, W, T, U, S, V, ns, cnt, ln, po, wd, t, nu) (I, J, A, a, v, t, n)) {x1 x2 : Int32} (hx : x1 = x2) {T' a' : Nat → Int32} {U' : Nat → Int64}
    (hC : ∀ (Q : Hp), Q.1 0 = .inr (8, gf ns cnt) → ∀ B : Nat × Nat, Runs om l mC B 0 (entL (mi_ml mC) (.ref 0 :: vC)) [] (sH (sH Q 1 C W) 20 T U) (Det (some (.int x1)) (sH (sH Q 1 C W) 20 T' U')))
    (hR : ∀ (Y : Hp) (B : Nat × Nat), Runs om l mR B 0 (entL (mi_ml mR) (.ref 119 :: vR)) [] (rH Y I J A a v t n) (Det (some (.int x2)) (rH Y (upd I 0 0) J A a' v t n))) : OPC om l mC mR vC vR cs ex (C, W, T, U, S, V, ns, cnt, ln, po, wd, t, nu) (I, J, A, a, v, t, n) := by
  refine ⟨fun c1 x k1 => c1 = 0 ∧ x = x1 ∧ k1 = (C, W, T', U', S, V, ns, cnt, ln, po, wd, t, nu), fun g B hB => ?_, fun c1 x k1 q g B => ?_⟩
  · have e := hC (vH (qH (cH (rH g I J A a v t n) ln po wd t nu) ns cnt) S V) (vH_out (Or.inl (by decide))) B
    rw [← EH_t, ← EH_t] at e
    exact r_mono e (fun o h1 z => Or.inl ⟨x1, (C, W, T', U', S, V, ns, cnt, ln, po, wd, t, nu), z.1, z.2, rfl, rfl, rfl⟩)
  · obtain ⟨rfl, rfl, rfl⟩ := q
    refine r_mono (ref_on (fun Y => hR Y B)) (fun o h2 z => ⟨x2, (upd I 0 0, J, A, a', v, t, n), z.1, z.2, ?_, (show upd I 0 0 0 = nI 0 from upd_s), fun _ => hx⟩)
    obtain ⟨g1, g2, g3, ⟨L, q1, q2, q3⟩, g5⟩ := G
    refine ⟨g1, g2, ?_, ⟨L, q1, q2, (show upd I 0 0 6 = nI L from (upd_n (by omega)).trans q3)⟩, g5⟩
    show SVR S V ns cnt (upd I 0 0 4) v
    rw [upd_n (by omega)]
    exact g3
theorem opc_tryno (G : GAp (C, W, T, U, S, V, ns, cnt, ln, po, wd, t, nu) (I, J, A, a, v, t, n)) (c : Nat) (hc : c ∈ cs) (hc0 : c ≠ 0) {I' : Nat → Int32}
    (hC : ∀ (Q : Hp), Q.1 0 = .inr (8, gf ns cnt) → ∀ B : Nat × Nat, 1 ≤ B.1 ∧ 6 ≤ B.2 → Runs om l mC B 0 (entL (mi_ml mC) (.ref 0 :: vC)) [] (sH (sH Q 1 C W) 20 T U) (Exc (ex c) (sH (sH Q 1 C W) 20 T U)))
    (hR : ∀ (Y : Hp) (B : Nat × Nat), Runs om l mR B 0 (entL (mi_ml mR) (.ref 119 :: vR)) [] (rH Y I J A a v t n) (Det (some (.int 0)) (rH Y I' J A a v t n))) (h0 : I' 0 = nI c) (h4 : I' 4 = I 4) (h6 : I' 6 = I 6) : OPC om l mC mR vC vR cs ex (C, W, T, U, S, V, ns, cnt, ln, po, wd, t, nu) (I, J, A, a, v, t, n) := by
  refine ⟨fun c1 x1 k1 => c1 = c ∧ k1 = (C, W, T, U, S, V, ns, cnt, ln, po, wd, t, nu), fun g B hB => ?_, fun c1 x1 k1 q g B => ?_⟩
  · have e := hC (vH (qH (cH (rH g I J A a v t n) ln po wd t nu) ns cnt) S V) (vH_out (Or.inl (by decide))) B hB
    rw [← EH_t] at e
    exact r_mono e (fun o h1 z => Or.inr ⟨c, hc, z.1, z.2, rfl, rfl⟩)
  · obtain ⟨rfl, rfl⟩ := q
    refine r_mono (ref_on (fun Y => hR Y B)) (fun o h2 z => ⟨0, (I', J, A, a, v, t, n), z.1, z.2, ?_, h0, fun e => absurd e hc0⟩)
    obtain ⟨g1, g2, g3, ⟨L, q1, q2, q3⟩, g5⟩ := G
    refine ⟨g1, g2, ?_, ⟨L, q1, q2, h6.trans q3⟩, g5⟩
    show SVR S V ns cnt (I' 4) v
    rw [h4]
    exact g3
theorem op_echo (hl : l.stackTraces = false) (G : GAp (C, W, T, U, S, V, ns, cnt, ln, po, wd, t, nu) (I, J, A, a, v, t, n)) (x y : Int32) : OPC om l M_X10_echo M_X11_echo [.int x, .int y] [.int x, .int y] [1] exI (C, W, T, U, S, V, ns, cnt, ln, po, wd, t, nu) (I, J, A, a, v, t, n) := by
  have gA : AG C W A := G.1
  have gO : OKA A := G.2.1
  have lo : ∀ j, j ≤ 31 → C j = A j := fun j hj => gA.1.lo hj
  obtain ⟨K, h41, hK⟩ := gO.1.K41
  have c41 : C 41 = nI K := (gA.1 41 (by unfold Lv; omega)).trans h41
  by_cases h : R_cEcho x y = 0
  · exact opc_no G 1 (by decide) (by decide) (fun R ns cnt hg B hB => s_X10_echo_no hl hB hg x y h) (fun Y B => s_X11_echo_no hl x y h) rfl rfl rfl
  · obtain ⟨h1, ⟨e, hx, he⟩, k, hy, hk⟩ := cEcho_ex h
    by_cases hke : K ≤ e
    · have e2 : R_echo A x y = -1 := by unfold R_echo; rw [if_pos (by rw [h41, hx]; exact (nI_le_iff (by omega) he).mpr hke)]
      exact opc_get G (e2.symm) (fun R ns cnt hg B => s_X10_echo_yesO hl hg x y e k K hx hy hk c41 hK hke he) (fun Y B => s_X11_echo_yes hl x y h1 e k K hx he hy hk h41 hK)
    · have e2 : K_val C e k = R_echo A x y := by
        unfold R_echo
        rw [if_neg (by rw [h41, hx]; exact fun z => hke ((nI_le_iff (by omega) he).mp z)), hx, hy, cl_nI (x := nI e) rfl he, cl_nI (x := nI k) rfl (by omega)]
        exact kval_ag gA gO (by rw [h41, cl_nI (x := nI K) rfl (by omega)]; omega) hk
      exact opc_get G (e2) (fun R ns cnt hg B => s_X10_echo_yes hl hg x y e k K hx hy hk c41 hK (by omega)) (fun Y B => s_X11_echo_yes hl x y h1 e k K hx he hy hk h41 hK)
theorem op_pick (hl : l.stackTraces = false) (G : GAp (C, W, T, U, S, V, ns, cnt, ln, po, wd, t, nu) (I, J, A, a, v, t, n)) (x : Int32) : OPC om l M_X10_pick M_X11_pick [.int x] [.int x] [1] exI (C, W, T, U, S, V, ns, cnt, ln, po, wd, t, nu) (I, J, A, a, v, t, n) := by
  have gA : AG C W A := G.1
  have gO : OKA A := G.2.1
  have lo : ∀ j, j ≤ 31 → C j = A j := fun j hj => gA.1.lo hj
  obtain ⟨K, h31, hK⟩ := gO.1.K31
  by_cases h : R_nn x = 0
  · exact opc_no G 1 (by decide) (by decide) (fun R ns cnt hg B hB => s_X10_pick_no hl hB hg x h) (fun Y B => s_X11_pick_no hl x h) rfl rfl rfl
  · obtain ⟨e, hx, he⟩ := nnx_ex h
    have e2 : R_pv C e = R_pick A x := by
      rw [rpv_ag gA h31 hK he, hx]
      unfold R_pv R_pick
      rw [cl_nI (x := nI e) rfl he]
    exact opc_get G (e2) (fun R ns cnt hg B => (by rw [hx]; exact pick_any hl hg e K ((lo 31 (by omega)).trans h31) hK he)) (fun Y B => s_X11_pick_yes hl x (nn1 h) e K hx he h31 hK)
theorem op_isMasked (hl : l.stackTraces = false) (G : GAp (C, W, T, U, S, V, ns, cnt, ln, po, wd, t, nu) (I, J, A, a, v, t, n)) (x : Int32) : OPC om l M_X10_isMasked M_X11_isMasked [.int x] [.int x] [1] exI (C, W, T, U, S, V, ns, cnt, ln, po, wd, t, nu) (I, J, A, a, v, t, n) := by
  have gA : AG C W A := G.1
  have gO : OKA A := G.2.1
  have lo : ∀ j, j ≤ 31 → C j = A j := fun j hj => gA.1.lo hj
  by_cases h : R_in x 0 10000 = 0
  · exact opc_no G 1 (by decide) (by decide) (fun R ns cnt hg B hB => s_X10_isMasked_no hl hB hg x h) (fun Y B => s_X11_isMasked_no hl x h) rfl rfl rfl
  · obtain ⟨k, hx, -, hk⟩ := in_ex (a := 0) (b := 10000) (in1 h) rfl rfl (by omega) (by omega)
    exact opc_get G (isM_ag gA.2.1 hk) (fun R ns cnt hg B => s_X10_isMasked_yes hl hg x (in1 h) k hx hk) (fun Y B => s_X11_isMasked_yes hl x (in1 h) k hx hk)
theorem op_need (hl : l.stackTraces = false) (G : GAp (C, W, T, U, S, V, ns, cnt, ln, po, wd, t, nu) (I, J, A, a, v, t, n)) (x : Int32) : OPC om l M_X10_need M_X11_need [.int x] [.int x] [1] exI (C, W, T, U, S, V, ns, cnt, ln, po, wd, t, nu) (I, J, A, a, v, t, n) := by
  have gA : AG C W A := G.1
  have gO : OKA A := G.2.1
  have lo : ∀ j, j ≤ 31 → C j = A j := fun j hj => gA.1.lo hj
  by_cases h : R_in x 0 10000 = 0
  · exact opc_no G 1 (by decide) (by decide) (fun R ns cnt hg B hB => s_X10_need_no hl hB hg x h) (fun Y B => s_X11_need_no hl x h) rfl rfl rfl
  · exact opc_get G (need_ag lo x) (fun R ns cnt hg B => s_X10_need_yes hl hg x (in1 h)) (fun Y B => s_X11_need_yes hl x (in1 h))
theorem op_thing (hl : l.stackTraces = false) (G : GAp (C, W, T, U, S, V, ns, cnt, ln, po, wd, t, nu) (I, J, A, a, v, t, n)) (x y : Int32) : OPC om l M_X10_thing M_X11_thing [.int x, .int y] [.int x, .int y] [1, 2] exOI (C, W, T, U, S, V, ns, cnt, ln, po, wd, t, nu) (I, J, A, a, v, t, n) := by
  have gA : AG C W A := G.1
  have gO : OKA A := G.2.1
  have lo : ∀ j, j ≤ 31 → C j = A j := fun j hj => gA.1.lo hj
  obtain ⟨k, h4, hk⟩ := gO.1.K4
  have e4 : C 4 = nI k := (lo 4 (by omega)).trans h4
  have hin : K_hasT x (C 4) = R_in x 0 (A 4 - 1) := by rw [hasT_has e4 hk, lo 4 (by omega)]; exact has_in h4 hk
  by_cases h : R_in x 0 (A 4 - 1) = 0
  · exact opc_no G 1 (by decide) (by decide) (fun R ns cnt hg B hB => s_X10_thing_no hl hB hg x y (hin.trans h)) (fun Y B => s_X11_thing_no hl x y h) rfl rfl rfl
  · have h1 := in1 h
    by_cases h2 : R_in y 0 1 = 0
    · exact opc_no G 2 (by decide) (by decide) (fun R ns cnt hg B hB => s_X10_thing_no2 hl hB hg x y (hin.trans h1) h2) (fun Y B => s_X11_thing_no2 hl x y h1 h2) rfl rfl rfl
    · obtain ⟨i, hx, hi⟩ := has_ex e4 hk ((hasT_has e4 hk).symm.trans (hin.trans h1))
      obtain ⟨q, hy, -, hq⟩ := in_ex (a := 0) (b := 1) (in1 h2) rfl rfl (by omega) (by omega)
      have sl : C (134 + 2 * i + q) = A (134 + 2 * i + q) := gA.1 _ (by unfold Lv; rw [h4, cl_nI (x := nI k) rfl (by omega)]; omega)
      have q2 : q = 0 ∨ q = 1 := by omega
      rcases q2 with rfl | rfl
      · exact opc_get G (sl) (fun R ns cnt hg B => s_X10_thing_yes0 hl hg x y (hin.trans h1) i k hx e4 hi hk hy) (fun Y B => (by
          have z := s_X11_thing_yes (om := om) (B := B) (h0 := Y) (I := I) (J := J) (A := A) (a := a) (v := v) (t := t) (n := n) hl x y h1 (in1 h2) i 0 hx (by omega) hy (by omega)
          rw [updd] at z
          exact z))
      · exact opc_get G (sl) (fun R ns cnt hg B => s_X10_thing_yes1 hl hg x y (hin.trans h1) i k hx e4 hi hk hy) (fun Y B => (by
          have z := s_X11_thing_yes (om := om) (B := B) (h0 := Y) (I := I) (J := J) (A := A) (a := a) (v := v) (t := t) (n := n) hl x y h1 (in1 h2) i 1 hx (by omega) hy (by omega)
          rw [updd] at z
          exact z))
theorem op_angle (hl : l.stackTraces = false) (G : GAp (C, W, T, U, S, V, ns, cnt, ln, po, wd, t, nu) (I, J, A, a, v, t, n)) (x : Int32) : OPC om l M_X10_angle M_X11_angle [.int x] [.int x] [1] exO (C, W, T, U, S, V, ns, cnt, ln, po, wd, t, nu) (I, J, A, a, v, t, n) := by
  have gA : AG C W A := G.1
  have gO : OKA A := G.2.1
  have lo : ∀ j, j ≤ 31 → C j = A j := fun j hj => gA.1.lo hj
  obtain ⟨k, h5, hk⟩ := gO.1.K5
  have e5 : C 5 = nI k := (lo 5 (by omega)).trans h5
  have hin : K_has x (C 5) = R_in x 0 (A 5 - 1) := by rw [lo 5 (by omega)]; exact has_in h5 hk
  by_cases h : R_in x 0 (A 5 - 1) = 0
  · exact opc_no G 1 (by decide) (by decide) (fun R ns cnt hg B hB => s_X10_angle_no hl hB hg x (hin.trans h)) (fun Y B => s_X11_angle_no hl x h) rfl rfl rfl
  · have h1 := in1 h
    obtain ⟨i, hx, hi⟩ := has_ex e5 hk (hin.trans h1)
    exact opc_get G (angle_ag lo x) (fun R ns cnt hg B => s_X10_angle_yes hl hg x i k hx e5 hi hk) (fun Y B => s_X11_angle_yes hl x h1 (by rw [h5]; exact nI_ne0 (by omega) (by omega)))
theorem op_tank (hl : l.stackTraces = false) (G : GAp (C, W, T, U, S, V, ns, cnt, ln, po, wd, t, nu) (I, J, A, a, v, t, n)) (x : Int32) : OPC om l M_X10_tank M_X11_tank [.int x] [.int x] [1] exI (C, W, T, U, S, V, ns, cnt, ln, po, wd, t, nu) (I, J, A, a, v, t, n) := by
  have gA : AG C W A := G.1
  have gO : OKA A := G.2.1
  have lo : ∀ j, j ≤ 31 → C j = A j := fun j hj => gA.1.lo hj
  by_cases h : R_in x 0 11 = 0
  · exact opc_no G 1 (by decide) (by decide) (fun R ns cnt hg B hB => s_X10_tank_no hl hB hg x h) (fun Y B => s_X11_tank_no hl x h) rfl rfl rfl
  · obtain ⟨k, hx, -, hk⟩ := in_ex (a := 0) (b := 11) (in1 h) rfl rfl (by omega) (by omega)
    exact opc_get G (lo k (by omega)) (fun R ns cnt hg B => s_X10_tank_yes hl hg x k hx hk) (fun Y B => s_X11_tank_yes hl x (in1 h) k hx hk)
theorem op_setting (hl : l.stackTraces = false) (G : GAp (C, W, T, U, S, V, ns, cnt, ln, po, wd, t, nu) (I, J, A, a, v, t, n)) (x : Int32) : OPC om l M_X10_setting M_X11_setting [.int x] [.int x] [1] exI (C, W, T, U, S, V, ns, cnt, ln, po, wd, t, nu) (I, J, A, a, v, t, n) := by
  have gA : AG C W A := G.1
  have gO : OKA A := G.2.1
  have lo : ∀ j, j ≤ 31 → C j = A j := fun j hj => gA.1.lo hj
  by_cases h : R_in x 0 11 = 0
  · exact opc_no G 1 (by decide) (by decide) (fun R ns cnt hg B hB => s_X10_setting_no hl hB hg x h) (fun Y B => s_X11_setting_no hl x h) rfl rfl rfl
  · obtain ⟨k, hx, -, hk⟩ := in_ex (a := 0) (b := 11) (in1 h) rfl rfl (by omega) (by omega)
    exact opc_get G (lo (12 + k) (by omega)) (fun R ns cnt hg B => s_X10_setting_yes hl hg x (in1 h) k hx (by omega)) (fun Y B => s_X11_setting_yes hl x (in1 h) k hx hk)
theorem op_gauge (hl : l.stackTraces = false) (G : GAp (C, W, T, U, S, V, ns, cnt, ln, po, wd, t, nu) (I, J, A, a, v, t, n)) (x : Int32) : OPC om l M_X10_gauge M_X11_gauge [.int x] [.int x] [1] exI (C, W, T, U, S, V, ns, cnt, ln, po, wd, t, nu) (I, J, A, a, v, t, n) := by
  have gA : AG C W A := G.1
  have gO : OKA A := G.2.1
  have lo : ∀ j, j ≤ 31 → C j = A j := fun j hj => gA.1.lo hj
  obtain ⟨K, h31, hK⟩ := gO.1.K31
  by_cases h : R_in x 0 12 = 0
  · exact opc_no G 1 (by decide) (by decide) (fun R ns cnt hg B hB => s_X10_gauge_no hl hB hg x h) (fun Y B => s_X11_gauge_no hl x h) rfl rfl rfl
  · obtain ⟨k, hx, -, hk⟩ := in_ex (a := 0) (b := 12) (in1 h) rfl rfl (by omega) (by omega)
    exact opc_get G (kgau_ag gA gO h31 hK hk) (fun R ns cnt hg B => s_X10_gauge_yes hl hg x k hx hk K ((lo 31 (by omega)).trans h31) hK) (fun Y B => s_X11_gauge_yes hl x (in1 h) k hx hk K h31 hK)
theorem op_toldAfter (hl : l.stackTraces = false) (G : GAp (C, W, T, U, S, V, ns, cnt, ln, po, wd, t, nu) (I, J, A, a, v, t, n)) (d : Int32) : OPC om l M_X10_toldAfter M_X11_toldAfter [.int d] [.int d] [1] exI (C, W, T, U, S, V, ns, cnt, ln, po, wd, t, nu) (I, J, A, a, v, t, n) := by
  have gA : AG C W A := G.1
  have gO : OKA A := G.2.1
  have lo : ∀ j, j ≤ 31 → C j = A j := fun j hj => gA.1.lo hj
  by_cases h : R_in d 0 500 = 0
  · exact opc_tryno G 1 (by decide) (by decide) (fun Q hg B hB => s_X10_toldAfter_no hl hB hg d h) (fun Y B => s_X11_toldAfter_no hl d h) rfl rfl rfl
  · obtain ⟨s, hd, -, hs⟩ := in_ex (a := 0) (b := 500) (in1 h) rfl rfl (by omega) (by omega)
    exact opc_try G (ta_ag s 0 0 C A gA gO (Nat.le_refl _) (by omega)) (fun Q hg B => s_X10_toldAfter_yes hl hg A d s hd hs gA gO.1 gO.2.1) (fun Y B => s_X11_toldAfter_yes hl d (in1 h) s hd hs gO.1)
theorem op_worstError (hl : l.stackTraces = false) (G : GAp (C, W, T, U, S, V, ns, cnt, ln, po, wd, t, nu) (I, J, A, a, v, t, n)) (d : Int32) : OPC om l M_X10_worstError M_X11_worstError [.int d] [.int d] [1] exI (C, W, T, U, S, V, ns, cnt, ln, po, wd, t, nu) (I, J, A, a, v, t, n) := by
  have gA : AG C W A := G.1
  have gO : OKA A := G.2.1
  have lo : ∀ j, j ≤ 31 → C j = A j := fun j hj => gA.1.lo hj
  by_cases h : R_in d 1 200 = 0
  · exact opc_tryno G 1 (by decide) (by decide) (fun Q hg B hB => s_X10_worstError_no hl hB hg d h) (fun Y B => s_X11_worstError_no hl d h) rfl rfl rfl
  · obtain ⟨s, hd, -, hs⟩ := in_ex (a := 1) (b := 200) (in1 h) rfl rfl (by omega) (by omega)
    have h17 : upd A 17 (C (12 + 5)) = A := funext fun j => by
      by_cases e : j = 17
      · subst e; rw [upd_s]; exact lo 17 (by omega)
      · rw [upd_n e]
    have h2 : AG (upd C (12 + 5) (C (12 + 5))) W A := by
      have e := AG_put (k := 12 + 5) (x := C (12 + 5)) gA (by omega) (by omega)
      rw [show upd A (12 + 5) (C (12 + 5)) = A from h17] at e
      exact e
    exact opc_try G (by rw [worst_ag gA gO s (by omega)]; exact congrArg (R_worst A s) (lo 17 (by omega))) (fun Q hg B => s_X10_worstError_yes hl hg A d (in1 h) s hd (by omega) h2 gO.1 gO.2.1) (fun Y B => s_X11_worstError_yes hl d (in1 h) s hd (by omega) gO.1)
theorem op_bestMode (hl : l.stackTraces = false) (G : GAp (C, W, T, U, S, V, ns, cnt, ln, po, wd, t, nu) (I, J, A, a, v, t, n)) (d : Int32) : OPC om l M_X10_bestMode M_X11_bestMode [.int d] [.int d] [1] exI (C, W, T, U, S, V, ns, cnt, ln, po, wd, t, nu) (I, J, A, a, v, t, n) := by
  have gA : AG C W A := G.1
  have gO : OKA A := G.2.1
  have lo : ∀ j, j ≤ 31 → C j = A j := fun j hj => gA.1.lo hj
  by_cases h : R_in d 1 200 = 0
  · exact opc_tryno G 1 (by decide) (by decide) (fun Q hg B hB => s_X10_bestMode_no hl hB hg d h) (fun Y B => s_X11_bestMode_no hl d h) rfl rfl rfl
  · obtain ⟨s, hd, -, hs⟩ := in_ex (a := 1) (b := 200) (in1 h) rfl rfl (by omega) (by omega)
    have o17 : ∀ k : Nat, OKA (upd A 17 (nI k)) := fun k => OKA_put gO (by omega)
    exact opc_try G (rfl) (fun Q hg B => s_X10_bestMode_yes hl hg A d (in1 h) s hd (by omega) (fun k _ => AG_put gA (by omega) (by omega)) (fun k _ => (o17 k).1) (fun k _ => (o17 k).2.1) (fun k _ => worst_ag gA gO s (by omega))) (fun Y B => s_X11_bestMode_yes hl d (in1 h) s hd (by omega) gO.1)
end OPQ
