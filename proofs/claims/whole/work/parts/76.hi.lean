/-! runCommands on both sides; digest; the mean -/
section OPR
variable {om : OM} {l : Launch} {ex : Nat → String} {C T : Nat → Int32} {W U : Nat → Int64} {S : Nat → Nat → Int32} {V : Nat → Nat → Int64} {ns cnt ln po : Int32} {wd : Value} {t nu : Nat → Int32} {I A a v n : Nat → Int32} {J : Nat → Int64}
theorem op_runCommands (hl : l.stackTraces = false) (G : GAp (C, W, T, U, S, V, ns, cnt, ln, po, wd, t, nu) (I, J, A, a, v, t, n)) : OPC om l M_X10_runCommands M_X11_runCommands [] [] [] ex (C, W, T, U, S, V, ns, cnt, ln, po, wd, t, nu) (I, J, A, a, v, t, n) := by
  have G0 := G
  obtain ⟨g1, g2, ⟨p, c, hp, hc, en, ec, e4, hs⟩, ⟨L, q1, q2, q3⟩, g5⟩ := G
  dsimp only at g1 g2 en ec e4 hs q2 q3
  have fa := flt_ag (t := t) q1 150 L 0 wd nu n (J 8) (Nat.zero_le _) (by omega) (Nat.le_add_left _ _)
  rcases fa with ⟨f1, f2⟩ | ⟨q, hq, f1, f2, f3⟩
  · have c1 : ¬ (R_c0 t L n (J 8)).1 = 0 := by
      unfold R_c0
      rw [f2]
      decide
    refine ⟨fun c1 x k1 => c1 = 0 ∧ x = nI (R_r0 t L A (R_c0 t L n (J 8)).2.2.1 (R_c0 t L n (J 8)).2.2.2).1 ∧ ∃ (C' : Nat → Int32) (W' : Nat → Int64) (po' : Int32) (wd' : Value) (nu' : Nat → Int32), k1 = (C', W', T, U, updS S ((p + 1) % 4) C, updS V ((p + 1) % 4) W, nI ((p + 1) % 4), nI (min (c + 1) 4), ln, po', wd', t, nu') ∧ AG C' W' (R_r0 t L A (R_c0 t L n (J 8)).2.2.1 (R_c0 t L n (J 8)).2.2.2).2.2.1 ∧ OKA (R_r0 t L A (R_c0 t L n (J 8)).2.2.1 (R_c0 t L n (J 8)).2.2.2).2.2.1, fun g B hB => ?_, fun c1' x k1 z g B => ?_⟩
    · have e := y_run_ok (om := om) (B := B) (R := gR (rH g I J A a v t n) T U S V ns cnt) (R' := gR (rH g I J A a v t n) T U (updS S ((p + 1) % 4) C) (updS V ((p + 1) % 4) W) (nI ((p + 1) % 4)) (nI (min (c + 1) 4))) (C := C) (W := W) (po := po) (wd := wd) (nu := nu) hl gR_0 L q2 q1 f1 gR_0 rfl (fun B po wd nu => e_save hl p c en ec hp hc B) g1 g2 (R_c0 t L n (J 8)).2.2.1 (R_c0 t L n (J 8)).2.2.2
      refine r_mono e (fun o h1 z => Or.inl ?_)
      obtain ⟨z1, C', W', po', wd', nu', z2, z3, z4⟩ := z
      exact ⟨_, (C', W', T, U, updS S ((p + 1) % 4) C, updS V ((p + 1) % 4) W, nI ((p + 1) % 4), nI (min (c + 1) 4), ln, po', wd', t, nu'), z1, z2, rfl, rfl, C', W', po', wd', nu', rfl, z3, z4⟩
    · obtain ⟨rfl, rfl, C', W', po', wd', nu', rfl, z3, z4⟩ := z
      refine r_mono (ref_on (fun Y => s_X11_runCommands_ok hl L q1 q3 c1 c e4 hc g2.1)) (fun o h2 y => ⟨_, (upd (R_saveI (upd (upd I 0 0) 7 (nI (R_c0 t L n (J 8)).2.1))) 7 (nI (R_r0 t L A (R_c0 t L n (J 8)).2.2.1 (R_c0 t L n (J 8)).2.2.2).2.1), updJ J 8 (R_r0 t L A (R_c0 t L n (J 8)).2.2.1 (R_c0 t L n (J 8)).2.2.2).2.2.2.2, (R_r0 t L A (R_c0 t L n (J 8)).2.2.1 (R_c0 t L n (J 8)).2.2.2).2.2.1, a, R_savev c A v, t, (R_r0 t L A (R_c0 t L n (J 8)).2.2.1 (R_c0 t L n (J 8)).2.2.2).2.2.2.1), y.1, y.2, ⟨z3, z4, ?_, ⟨L, q1, q2, ?_⟩, rfl⟩, ?_, fun _ => rfl⟩)
      · show SVR _ _ _ _ (upd (R_saveI (upd (upd I 0 0) 7 (nI (R_c0 t L n (J 8)).2.1))) 7 (nI (R_r0 t L A (R_c0 t L n (J 8)).2.2.1 (R_c0 t L n (J 8)).2.2.2).2.1) 4) _
        rw [upd_n (by omega), saveI_4 (c := c) (by rw [upd_n (by omega), upd_n (by omega)]; exact e4) hc]
        exact SVR_save hp hc hs g1 g2
      · show upd (R_saveI (upd (upd I 0 0) 7 (nI (R_c0 t L n (J 8)).2.1))) 7 (nI (R_r0 t L A (R_c0 t L n (J 8)).2.2.1 (R_c0 t L n (J 8)).2.2.2).2.1) 6 = nI L
        rw [upd_n (by omega), saveI_n (by omega), upd_n (by omega), upd_n (by omega)]
        exact q3
      · show upd (R_saveI (upd (upd I 0 0) 7 (nI (R_c0 t L n (J 8)).2.1))) 7 (nI (R_r0 t L A (R_c0 t L n (J 8)).2.2.1 (R_c0 t L n (J 8)).2.2.2).2.1) 0 = nI 0
        rw [upd_n (by omega), saveI_n (by omega), upd_n (by omega), upd_s]
        rfl
  · have c1 : (R_c0 t L n (J 8)).1 = 0 := f2
    have c2 : (R_c0 t L n (J 8)).2.1 = q := f3
    refine ⟨fun c1 x k1 => c1 = 0 ∧ x = -10 - nI q ∧ ∃ (po' : Int32) (wd' : Value) (nu' : Nat → Int32), k1 = (C, W, T, U, S, V, ns, cnt, ln, po', wd', t, nu'), fun g B hB => ?_, fun c1' x k1 z g B => ?_⟩
    · have e := y_run_bad (om := om) (B := B) (R := gR (rH g I J A a v t n) T U S V ns cnt) (C := C) (W := W) (po := po) (wd := wd) (nu := nu) hl gR_0 L q2 q1 q (by omega) f1
      refine r_mono e (fun o h1 z => Or.inl ?_)
      obtain ⟨z1, po', wd', nu', z2⟩ := z
      exact ⟨_, (C, W, T, U, S, V, ns, cnt, ln, po', wd', t, nu'), z1, z2, rfl, rfl, po', wd', nu', rfl⟩
    · obtain ⟨rfl, rfl, po', wd', nu', rfl⟩ := z
      refine r_mono (ref_on (fun Y => s_X11_runCommands_bad hl L q1 q3 c1)) (fun o h2 y => ⟨_, (upd (upd I 0 0) 7 (nI (R_c0 t L n (J 8)).2.1), updJ J 8 (R_c0 t L n (J 8)).2.2.2, A, a, v, t, (R_c0 t L n (J 8)).2.2.1), y.1, y.2, ⟨g1, g2, ?_, ⟨L, q1, q2, ?_⟩, rfl⟩, ?_, fun _ => by rw [c2]⟩)
      · show SVR _ _ _ _ (upd (upd I 0 0) 7 (nI (R_c0 t L n (J 8)).2.1) 4) _
        rw [upd_n (by omega), upd_n (by omega)]
        exact ⟨p, c, hp, hc, en, ec, e4, hs⟩
      · show upd (upd I 0 0) 7 (nI (R_c0 t L n (J 8)).2.1) 6 = nI L
        rw [upd_n (by omega), upd_n (by omega)]
        exact q3
      · show upd (upd I 0 0) 7 (nI (R_c0 t L n (J 8)).2.1) 0 = nI 0
        rw [upd_n (by omega), upd_s]
        rfl
/-- the digests: the class's, then the model's -/
theorem op_digest (hl : l.stackTraces = false) (G : GAp (C, W, T, U, S, V, ns, cnt, ln, po, wd, t, nu) (I, J, A, a, v, t, n)) : ∃ (x : Int64) (r' : RS), GAp (C, W, T, U, S, V, ns, cnt, ln, po, wd, t, nu) r' ∧ (∀ (g : Hp) (B : Nat × Nat), Runs om l M_X10_digest B 0 (entL (mi_ml M_X10_digest) [.ref 0]) [] (EHp g (C, W, T, U, S, V, ns, cnt, ln, po, wd, t, nu) (I, J, A, a, v, t, n)) (Det (some (.long x)) (EHp g (C, W, T, U, S, V, ns, cnt, ln, po, wd, t, nu) (I, J, A, a, v, t, n)))) ∧ ∀ (g : Hp) (B : Nat × Nat), Runs om l M_X11_digest B 0 (entL (mi_ml M_X11_digest) [.ref 119]) [] (EHp g (C, W, T, U, S, V, ns, cnt, ln, po, wd, t, nu) (I, J, A, a, v, t, n)) (Det (some (.long x)) (EHp g (C, W, T, U, S, V, ns, cnt, ln, po, wd, t, nu) r')) := by
  have G0 := G
  obtain ⟨g1, g2, ⟨p, c, hp, hc, en, ec, e4, hs⟩, ⟨L, q1, q2, q3⟩, g5⟩ := G
  dsimp only at g1 g2 en ec e4 hs q2 q3
  have lo : ∀ j, j ≤ 31 → C j = A j := fun j hj => g1.1.lo hj
  obtain ⟨K31, h31, hK31⟩ := g2.1.K31
  obtain ⟨K4, h4, hK4⟩ := g2.1.K4
  obtain ⟨K5, h5, hK5⟩ := g2.1.K5
  obtain ⟨K41, h41, hK41⟩ := g2.1.K41
  obtain ⟨K18, h18, hK18⟩ := g2.1.L18
  have e41 : C 41 = nI K41 := (g1.1 41 (by unfold Lv; omega)).trans h41
  refine ⟨R_dig I A K4 K5 K41 K18, (upd I 0 0, updJ J 10 (R_dig I A K4 K5 K41 K18), A, a, v, t, n), GA_I G0 rfl rfl, fun g B => ?_, fun g B => ref_on (fun Y => s_X11_digest hl K31 K4 K5 K41 K18 h31 hK31 h4 hK4 h5 hK5 h41 hK41 h18 hK18)⟩
  rw [← dig_ag (I := I) g1 g2 h31 hK31 h4 hK4 h41 hK41 hK18 (e4.trans ec.symm) (q3.trans q2.symm)]
  exact s_X10_digest hl EH_0 EH_HC K31 K4 K5 K41 K18 ((lo 31 (by omega)).trans h31) hK31 ((lo 4 (by omega)).trans h4) hK4 ((lo 5 (by omega)).trans h5) hK5 e41 hK41 ((lo (12 + 6) (by omega)).trans h18) hK18
theorem kp_nn {A : Nat → Int32} (k : Nat) : k ≤ 9 → ∃ q : Nat, R_kp A k = nI q ∧ q ≤ k := by
  induction k with
  | zero => exact fun _ => ⟨0, rfl, by omega⟩
  | succ k ih =>
    intro hk
    obtain ⟨q, h1, h2⟩ := ih (by omega)
    rw [R_kp, h1]
    by_cases e : A (32 + k) = -1
    · rw [if_pos e]; exact ⟨q, by rw [Int32.add_zero], by omega⟩
    · rw [if_neg e]; exact ⟨q + 1, (nI_succ q).symm, by omega⟩
theorem mean_ag {C A : Nat → Int32} {W : Nat → Int64} {K : Nat} (h : AG C W A) (h31 : A 31 = nI K) (hK : K ≤ 9) : K_mean C K = R_mean A K ∧ (R_kp C K ≤ 0 ↔ R_kp A K = 0) ∧ R_kp C K = R_kp A K ∧ R_sum C K = R_sum A K := by
  have pk : ∀ i, i < K → C (32 + i) = A (32 + i) := fun i hi => h.1 _ (by unfold Lv; rw [h31, cl_nI (x := nI K) rfl (by omega)]; omega)
  have e1 := kp_cong K pk
  have e2 := rsum_ag K pk
  obtain ⟨q, hq, hq2⟩ := kp_nn (A := A) K hK
  have e3 : R_kp A K ≤ 0 ↔ R_kp A K = 0 := by
    rw [hq]
    constructor
    · intro z
      have := (nI_le_iff (a := q) (b := 0) (by omega) (by omega)).mp z
      rw [show q = 0 by omega]
      rfl
    · intro z
      rw [z]
      exact Int32.le_refl _
  refine ⟨?_, by rw [e1]; exact e3, e1, e2⟩
  unfold K_mean R_mean
  rw [e1, e2]
  by_cases z : R_kp A K = 0
  · rw [if_pos z, if_pos (e3.mpr z)]
  · rw [if_neg z, if_neg (fun y => z (e3.mp y))]
/-- what the quotient of the picks' sum by their number is: no NaN -/
def NNq : Prop := ∀ (A : Nat → Int32) (K : Nat), K ≤ 9 → ¬ R_kp A K = 0 → vf_n64 (FP.ddiv (FP.i2d (R_sum A K)) (FP.i2d (R_kp A K)))
theorem op_meanPick (hl : l.stackTraces = false) (hN : NNq) (G : GAp (C, W, T, U, S, V, ns, cnt, ln, po, wd, t, nu) (I, J, A, a, v, t, n)) : ∃ (x : UInt64) (r' : RS), (x = 13830554455654793216 ∨ vf_n64 x) ∧ GAp (C, W, T, U, S, V, ns, cnt, ln, po, wd, t, nu) r' ∧ (∀ (g : Hp) (B : Nat × Nat), Runs om l M_X10_meanPick B 0 (entL (mi_ml M_X10_meanPick) [.ref 0]) [] (EHp g (C, W, T, U, S, V, ns, cnt, ln, po, wd, t, nu) (I, J, A, a, v, t, n)) (Det (some (.double x)) (EHp g (C, W, T, U, S, V, ns, cnt, ln, po, wd, t, nu) (I, J, A, a, v, t, n)))) ∧ ∀ (g : Hp) (B : Nat × Nat), Runs om l M_X11_meanPick B 0 (entL (mi_ml M_X11_meanPick) [.ref 119]) [] (EHp g (C, W, T, U, S, V, ns, cnt, ln, po, wd, t, nu) (I, J, A, a, v, t, n)) (Det (some (.double x)) (EHp g (C, W, T, U, S, V, ns, cnt, ln, po, wd, t, nu) r')) := by
  have G0 := G
  obtain ⟨g1, g2, -, -, -⟩ := G
  dsimp only at g1 g2
  have lo : ∀ j, j ≤ 31 → C j = A j := fun j hj => g1.1.lo hj
  obtain ⟨K, h31, hK⟩ := g2.1.K31
  obtain ⟨m1, m2, m3, m4⟩ := mean_ag g1 h31 hK
  refine ⟨R_mean A K, (upd I 0 0, J, A, a, v, t, n), ?_, GA_I G0 rfl rfl, fun g B => ?_, fun g B => ref_on (fun Y => s_X11_meanPick hl K h31 hK (hN A K hK))⟩
  · unfold R_mean
    by_cases z : R_kp A K = 0
    · rw [if_pos z]; exact Or.inl rfl
    · rw [if_neg z]; exact Or.inr (hN A K hK z)
  · rw [← m1]
    exact s_X10_meanPick hl EH_0 K ((lo 31 (by omega)).trans h31) hK (fun z => by rw [m3, m4]; exact hN A K hK (fun y => z (m2.mpr y)))
end OPR
