/-! the law's other checks, its round, its loop, its start -/
theorem cmp_eq {x y : Int64} : lg_cmp x y = 0 ↔ x = y := by
  unfold lg_cmp
  by_cases h : x > y
  · rw [if_pos h]
    refine ⟨fun z => absurd z (by decide), fun z => ?_⟩
    subst z
    exact absurd h (Int64.lt_irrefl)
  · rw [if_neg h]
    by_cases h2 : x = y
    · rw [if_pos h2]; exact ⟨fun _ => h2, fun _ => rfl⟩
    · rw [if_neg h2]; exact ⟨fun z => absurd z (by decide), fun z => absurd z h2⟩
theorem kp_ex {A : Nat → Int32} (k : Nat) : k ≤ 9 → ∃ n, n ≤ k ∧ R_kp A k = nI n := by
  induction k with
  | zero => exact fun _ => ⟨0, Nat.le_refl _, rfl⟩
  | succ k ih =>
    intro hk
    obtain ⟨n, hn, e⟩ := ih (by omega)
    by_cases z : A (32 + k) = -1
    · exact ⟨n, by omega, by rw [R_kp, e, if_pos z, Int32.add_zero]⟩
    · exact ⟨n + 1, by omega, by rw [R_kp, e, if_neg z]; exact (nI_succ n).symm⟩
theorem gl_ex {A : Nat → Int32} (o : OKA A) : ∃ D : Nat, D ≤ 10000 ∧ A 0 = nI D ∧ (R_gl A = -1 ∨ ∃ t, t ≤ D ∧ R_gl A = nI t) := by
  obtain ⟨D, hD, hD1⟩ := o.1.D
  refine ⟨D, hD1, hD, ?_⟩
  unfold R_gl
  rcases (o.2.1.2.2.2.1 D hD hD1).1 with h | ⟨t, ht, h⟩
  · rw [if_pos h]; exact Or.inl rfl
  · rw [if_neg (by rw [h]; exact neg1_ne (by omega)), hD, h, pk_sub ht]
    exact Or.inr ⟨D - t, by omega, rfl⟩
theorem gl_hi {A : Nat → Int32} (o : OKA A) : ¬ A 0 < R_gl A := by
  obtain ⟨D, hD, e, h | ⟨t, ht, h⟩⟩ := gl_ex o
  · rw [h, e]
    exact fun z => absurd (Int32.lt_of_lt_of_le z (by decide : (-1 : Int32) ≤ 0)) (nI_pos (by omega))
  · exact c_ltf e h (by omega) (by omega) ht
theorem gl_lo {A : Nat → Int32} (o : OKA A) : -1 ≤ R_gl A := by
  obtain ⟨D, hD, e, h | ⟨t, ht, h⟩⟩ := gl_ex o
  · rw [h]; exact Int32.le_refl _
  · rw [h]; exact Int32.le_trans (by decide : (-1 : Int32) ≤ 0) (nI_pos' (by omega))
theorem al_told {A : Nat → Int32} (o : OKA A) (h : ¬ A 28 = 0 → ¬ A 26 = -1) (h28 : ¬ A 28 = 0) : ¬ A 26 < 0 := by
  obtain ⟨D, hD, hD1⟩ := o.1.D
  obtain ⟨t, ht, e⟩ := (o.2.1.2.2.2.1 D hD hD1).1.resolve_left (h h28)
  rw [e]
  exact nI_pos (by omega)
theorem isM_b {A : Nat → Int32} (h : B01 A) {b : Nat} (hb : b ≤ 500) : R_isM A (20 * b) = A (146 + b) := by
  unfold R_isM
  rw [show 20 * b / 20 = b by omega]
  rcases h b hb with z | z <;> rw [z] <;> decide
theorem qm {om : OM} {l : Launch} {B : Nat × Nat} {g : Hp} {C : Nat → Int32} {W : Nat → Int64} {S : Nat → Nat → Int32} {V : Nat → Nat → Int64} {p c : Nat} {A : Nat → Int32} (hl : l.stackTraces = false) (hA : AG C W A) (d : Int32) (x : Nat) (hd : d = nI x) (hx : x ≤ 10000) {r : Int32} (hr : R_isM A x = r) : Runs om l M_X10_isMasked B 0 (entL 2 [.ref 0, .int d]) [] (EW g C W S V p c) (Det (some (.int r)) (EW g C W S V p c)) := by
  rw [← hr]
  exact qs_isM hl hA d x hd hx
theorem qset {om : OM} {l : Launch} {B : Nat × Nat} {g : Hp} {C : Nat → Int32} {W : Nat → Int64} {S : Nat → Nat → Int32} {V : Nat → Nat → Int64} {p c : Nat} {A : Nat → Int32} (hl : l.stackTraces = false) (hA : AG C W A) (x : Int32) (hx : x = nI 6) {r : Int32} (hr : A 18 = r) : Runs om l M_X10_setting B 0 (entL 2 [.ref 0, .int x]) [] (EW g C W S V p c) (Det (some (.int r)) (EW g C W S V p c)) := by
  rw [← hr]
  exact qs_setting hl hA x hx
section LM
variable {om : OM} {l : Launch} {B : Nat × Nat} {g : Hp} {C : Nat → Int32} {W : Nat → Int64} {S : Nat → Nat → Int32} {V : Nat → Nat → Int64} {p c m : Nat} {A : Nat → Int32} {sv e v sh sn got pd kk : Int32} {was : Int64} {k K : Nat} {Post : Out → Hp → Prop}
theorem seg_F (hl : l.stackTraces = false) (hA : AG C W A) (o : OKA A) (x : XA m A) (hm : m ≤ 1000) (hp1 : ¬ 1 < pd) (KK : Runs om l M_L_law B 417 (LL0 sv e v sh sn was got pd kk) [] (EW g C W S V p c) Post) : Runs om l M_L_law B 366 (LL0 sv e v sh sn was got pd kk) [] (EW g C W S V p c) Post := by
  obtain ⟨⟨a, b, h24, h25, hba, ham⟩, -⟩ := x
  obtain ⟨K3, L, h31, h18, hKL, hL9⟩ := o.2.2
  obtain ⟨n, hn, h9⟩ := kp_ex (A := A) (cl (A 31)) (by rw [cl_nI h31 (by omega)]; omega)
  rw [cl_nI h31 (by omega)] at hn
  refine r_iload (pc := 366) dL_law_366 rfl ?_
  refine r_iconst (v := 1) (pc := 368) dL_law_368 (by decide) ?_
  refine r_icmp_gt 415 (pc := 369) dL_law_369 (by decide) (fun c369 => absurd c369 hp1) (fun c369 => ?_)
  refine r_aload_n (pc := 372) dL_law_372 rfl rfl ?_
  refine r_iconst (v := 1) (pc := 373) dL_law_373 (by decide) ?_
  refine q_callV (ci := 8) (T := TX10) (N := 6) (vs := [.int _]) (pc := 374) dL_law_374 rfl l_RL_68 rfl ⟨by decide, by decide⟩ rfl (Nat.le_of_ble_eq_true rfl) hl EW_0 rfl (Nat.le_of_ble_eq_true rfl) (qg hl hA o _ 1 rfl (by omega) (gau_1.trans h25)) rfl ?_
  refine r_aload_n (pc := 377) dL_law_377 rfl rfl ?_
  refine r_iconst (v := 0) (pc := 378) dL_law_378 (by decide) ?_
  refine q_callV (ci := 8) (T := TX10) (N := 6) (vs := [.int _]) (pc := 379) dL_law_379 rfl l_RL_68 rfl ⟨by decide, by decide⟩ rfl (Nat.le_of_ble_eq_true rfl) hl EW_0 rfl (Nat.le_of_ble_eq_true rfl) (qg hl hA o _ 0 rfl (by omega) (gau_0.trans h24)) rfl ?_
  refine r_icmp_gt 415 (pc := 382) dL_law_382 (by decide) (fun c382 => absurd c382 (c_ltf (a := a) (b := b) rfl rfl (by omega) (by omega) (by omega))) (fun c382 => ?_)
  refine r_aload_n (pc := 385) dL_law_385 rfl rfl ?_
  refine r_bipush (v := 9) (pc := 386) dL_law_386 (by decide) ?_
  refine q_callV (ci := 8) (T := TX10) (N := 6) (vs := [.int _]) (pc := 388) dL_law_388 rfl l_RL_68 rfl ⟨by decide, by decide⟩ rfl (Nat.le_of_ble_eq_true rfl) hl EW_0 rfl (Nat.le_of_ble_eq_true rfl) (qg hl hA o _ 9 rfl (by omega) (gau_9.trans h9)) rfl ?_
  refine r_aload_n (pc := 391) dL_law_391 rfl rfl ?_
  refine r_bipush (v := 8) (pc := 392) dL_law_392 (by decide) ?_
  refine q_callV (ci := 8) (T := TX10) (N := 6) (vs := [.int _]) (pc := 394) dL_law_394 rfl l_RL_68 rfl ⟨by decide, by decide⟩ rfl (Nat.le_of_ble_eq_true rfl) hl EW_0 rfl (Nat.le_of_ble_eq_true rfl) (qg hl hA o _ 8 rfl (by omega) (gau_8.trans h31)) rfl ?_
  refine r_icmp_gt 415 (pc := 397) dL_law_397 (by decide) (fun c397 => absurd c397 (c_ltf (a := K3) (b := n) rfl rfl (by omega) (by omega) (by omega))) (fun c397 => ?_)
  refine r_aload_n (pc := 400) dL_law_400 rfl rfl ?_
  refine r_bipush (v := 8) (pc := 401) dL_law_401 (by decide) ?_
  refine q_callV (ci := 8) (T := TX10) (N := 6) (vs := [.int _]) (pc := 403) dL_law_403 rfl l_RL_68 rfl ⟨by decide, by decide⟩ rfl (Nat.le_of_ble_eq_true rfl) hl EW_0 rfl (Nat.le_of_ble_eq_true rfl) (qg hl hA o _ 8 rfl (by omega) (gau_8.trans h31)) rfl ?_
  refine r_aload_n (pc := 406) dL_law_406 rfl rfl ?_
  refine r_bipush (v := 6) (pc := 407) dL_law_407 (by decide) ?_
  refine q_callV (ci := 8) (T := TX10) (N := 6) (vs := [.int _]) (pc := 409) dL_law_409 rfl l_RL_92 rfl ⟨by decide, by decide⟩ rfl (Nat.le_of_ble_eq_true rfl) hl EW_0 rfl (Nat.le_of_ble_eq_true rfl) (qset hl hA _ rfl h18) rfl ?_
  refine r_icmp_le 417 (pc := 412) dL_law_412 (by decide) (fun c412 => ?_) (fun c412 => absurd (c_let rfl rfl (a := K3) (b := L) (by omega) (by omega) (by omega)) c412)
  exact KK
theorem seg_G0 (KK : Runs om l M_L_law B 462 (LL0 sv e v 0 sn was got pd kk) [] (EW g C W S V p c) Post) : Runs om l M_L_law B 417 (LL0 sv e v 0 sn was got pd kk) [] (EW g C W S V p c) Post := by
  refine r_iload (pc := 417) dL_law_417 rfl ?_
  refine r_if_eq 462 (pc := 419) dL_law_419 (by decide) (fun c419 => ?_) (fun c419 => absurd (c_eqt rfl rfl (a := 0) (b := 0) (by omega) (by omega) (by omega)) c419)
  exact KK
theorem seg_G1 (hl : l.stackTraces = false) (hA : AG C W A) (o : OKA A) (hF : SF A) (KK : Runs om l M_L_law B 462 (LL0 sv e v 1 sn was got pd kk) [] (EW g C W S V p c) Post) : Runs om l M_L_law B 417 (LL0 sv e v 1 sn was got pd kk) [] (EW g C W S V p c) Post := by
  refine r_iload (pc := 417) dL_law_417 rfl ?_
  refine r_if_eq 462 (pc := 419) dL_law_419 (by decide) (fun c419 => absurd c419 (c_eqf rfl rfl (a := 1) (b := 0) (by omega) (by omega) (by omega))) (fun c419 => ?_)
  refine r_aload_n (pc := 422) dL_law_422 rfl rfl ?_
  refine r_iconst (v := 5) (pc := 423) dL_law_423 (by decide) ?_
  refine q_callV (ci := 8) (T := TX10) (N := 6) (vs := [.int _]) (pc := 424) dL_law_424 rfl l_RL_68 rfl ⟨by decide, by decide⟩ rfl (Nat.le_of_ble_eq_true rfl) hl EW_0 rfl (Nat.le_of_ble_eq_true rfl) (qg hl hA o _ 5 rfl (by omega) gau_5) rfl ?_
  refine r_if_eq 438 (pc := 427) dL_law_427 (by decide) (fun c427 => ?_) (fun c427 => ?_)
  · refine r_aload_n (pc := 438) dL_law_438 rfl rfl ?_
    refine r_iconst (v := 3) (pc := 439) dL_law_439 (by decide) ?_
    refine q_callV (ci := 8) (T := TX10) (N := 6) (vs := [.int _]) (pc := 440) dL_law_440 rfl l_RL_68 rfl ⟨by decide, by decide⟩ rfl (Nat.le_of_ble_eq_true rfl) hl EW_0 rfl (Nat.le_of_ble_eq_true rfl) (qg hl hA o _ 3 rfl (by omega) gau_3) rfl ?_
    refine r_aload_n (pc := 443) dL_law_443 rfl rfl ?_
    refine r_iconst (v := 0) (pc := 444) dL_law_444 (by decide) ?_
    refine q_callV (ci := 8) (T := TX10) (N := 6) (vs := [.int _]) (pc := 445) dL_law_445 rfl l_RL_8 rfl ⟨by decide, by decide⟩ rfl (Nat.le_of_ble_eq_true rfl) hl EW_0 rfl (Nat.le_of_ble_eq_true rfl) (qt0 hl hA _ rfl) rfl ?_
    refine r_icmp_gt 460 (pc := 448) dL_law_448 (by decide) (fun c448 => absurd c448 (gl_hi o)) (fun c448 => ?_)
    refine r_aload_n (pc := 451) dL_law_451 rfl rfl ?_
    refine r_iconst (v := 3) (pc := 452) dL_law_452 (by decide) ?_
    refine q_callV (ci := 8) (T := TX10) (N := 6) (vs := [.int _]) (pc := 453) dL_law_453 rfl l_RL_68 rfl ⟨by decide, by decide⟩ rfl (Nat.le_of_ble_eq_true rfl) hl EW_0 rfl (Nat.le_of_ble_eq_true rfl) (qg hl hA o _ 3 rfl (by omega) gau_3) rfl ?_
    refine r_iconst (v := (-1)) (pc := 456) dL_law_456 (by decide) ?_
    refine r_icmp_ge 462 (pc := 457) dL_law_457 (by decide) (fun c457 => ?_) (fun c457 => absurd (gl_lo o) c457)
    exact KK
  · refine r_aload_n (pc := 430) dL_law_430 rfl rfl ?_
    refine r_iconst (v := 2) (pc := 431) dL_law_431 (by decide) ?_
    refine q_callV (ci := 8) (T := TX10) (N := 6) (vs := [.int _]) (pc := 432) dL_law_432 rfl l_RL_68 rfl ⟨by decide, by decide⟩ rfl (Nat.le_of_ble_eq_true rfl) hl EW_0 rfl (Nat.le_of_ble_eq_true rfl) (qg hl hA o _ 2 rfl (by omega) gau_2) rfl ?_
    refine r_if_lt 460 (pc := 435) dL_law_435 (by decide) (fun c435 => absurd c435 (al_told o hF.2 c427)) (fun c435 => ?_)
    refine r_aload_n (pc := 438) dL_law_438 rfl rfl ?_
    refine r_iconst (v := 3) (pc := 439) dL_law_439 (by decide) ?_
    refine q_callV (ci := 8) (T := TX10) (N := 6) (vs := [.int _]) (pc := 440) dL_law_440 rfl l_RL_68 rfl ⟨by decide, by decide⟩ rfl (Nat.le_of_ble_eq_true rfl) hl EW_0 rfl (Nat.le_of_ble_eq_true rfl) (qg hl hA o _ 3 rfl (by omega) gau_3) rfl ?_
    refine r_aload_n (pc := 443) dL_law_443 rfl rfl ?_
    refine r_iconst (v := 0) (pc := 444) dL_law_444 (by decide) ?_
    refine q_callV (ci := 8) (T := TX10) (N := 6) (vs := [.int _]) (pc := 445) dL_law_445 rfl l_RL_8 rfl ⟨by decide, by decide⟩ rfl (Nat.le_of_ble_eq_true rfl) hl EW_0 rfl (Nat.le_of_ble_eq_true rfl) (qt0 hl hA _ rfl) rfl ?_
    refine r_icmp_gt 460 (pc := 448) dL_law_448 (by decide) (fun c448 => absurd c448 (gl_hi o)) (fun c448 => ?_)
    refine r_aload_n (pc := 451) dL_law_451 rfl rfl ?_
    refine r_iconst (v := 3) (pc := 452) dL_law_452 (by decide) ?_
    refine q_callV (ci := 8) (T := TX10) (N := 6) (vs := [.int _]) (pc := 453) dL_law_453 rfl l_RL_68 rfl ⟨by decide, by decide⟩ rfl (Nat.le_of_ble_eq_true rfl) hl EW_0 rfl (Nat.le_of_ble_eq_true rfl) (qg hl hA o _ 3 rfl (by omega) gau_3) rfl ?_
    refine r_iconst (v := (-1)) (pc := 456) dL_law_456 (by decide) ?_
    refine r_icmp_ge 462 (pc := 457) dL_law_457 (by decide) (fun c457 => ?_) (fun c457 => absurd (gl_lo o) c457)
    exact KK
theorem lp_mask (hl : l.stackTraces = false) (hA : AG C W A) (o : OKA A) (KK : Runs om l M_L_law B 504 (LL sv e v sh sn was got pd (R_mkd A 501) (nI 501)) [] (EW g C W S V p c) Post) : ∀ n b, b + n = 501 → Runs om l M_L_law B 468 (LL sv e v sh sn was got pd (R_mkd A b) (nI b)) [] (EW g C W S V p c) Post := by
  intro n
  induction n with
  | zero =>
    intro b hb
    have hb' : b = 501 := by omega
    subst hb'
    refine r_iload (pc := 468) dL_law_468 rfl ?_
    refine r_sipush (v := 501) (pc := 470) dL_law_470 (by decide) ?_
    exact r_icmp_ge 504 (pc := 473) dL_law_473 (by decide) (fun _ => KK) (fun z => absurd (Int32.le_refl _) z)
  | succ n ih =>
    intro b hb
    have K8 : R_mkd A b + A (146 + b) = R_mkd A (b + 1) := rfl
    rcases o.2.1.b01 b (by omega) with z | z
    · refine r_iload (pc := 468) dL_law_468 rfl ?_
      refine r_sipush (v := 501) (pc := 470) dL_law_470 (by decide) ?_
      refine r_icmp_ge 504 (pc := 473) dL_law_473 (by decide) (fun c473 => absurd c473 (c_gef rfl rfl (a := b) (b := 501) (by omega) (by omega) (by omega))) (fun c473 => ?_)
      refine r_iload (pc := 476) dL_law_476 rfl ?_
      refine r_aload_n (pc := 478) dL_law_478 rfl rfl ?_
      refine r_bipush (v := 20) (pc := 479) dL_law_479 (by decide) ?_
      refine r_iload (pc := 481) dL_law_481 rfl ?_
      refine r_imul (pc := 483) dL_law_483 ?_
      refine q_callV (ci := 8) (T := TX10) (N := 6) (vs := [.int _]) (pc := 484) dL_law_484 rfl l_RL_82 rfl ⟨by decide, by decide⟩ rfl (Nat.le_of_ble_eq_true rfl) hl EW_0 rfl (Nat.le_of_ble_eq_true rfl) (qm hl hA _ (20 * b) (show (20 : Int32) * nI b = nI (20 * b) from nmul rfl rfl) (by omega) ((isM_b o.2.1.b01 (by omega)).trans z)) rfl ?_
      refine r_if_eq 494 (pc := 487) dL_law_487 (by decide) (fun c487 => ?_) (fun c487 => absurd (c_eqt rfl rfl (a := 0) (b := 0) (by omega) (by omega) (by omega)) c487)
      refine r_iconst (v := 0) (pc := 494) dL_law_494 (by decide) ?_
      refine r_iadd (pc := 495) dL_law_495 ?_
      rw [show R_mkd A b + (0 : Int32) = R_mkd A (b + 1) by rw [← K8, z]]
      refine q_istore [_, _, _, _, _, _, _, _, _, _, _, _, _] (pc := 496) dL_law_496 (by decide) rfl ?_
      refine q_iinc (nI (b + 1)) [_, _, _, _, _, _, _, _, _, _, _, _, _] (pc := 498) dL_law_498 rfl (by decide) (ninc 1 rfl) rfl ?_
      refine r_goto 468 (pc := 501) dL_law_501 (by decide) ?_
      exact ih (b + 1) (by omega)
    · refine r_iload (pc := 468) dL_law_468 rfl ?_
      refine r_sipush (v := 501) (pc := 470) dL_law_470 (by decide) ?_
      refine r_icmp_ge 504 (pc := 473) dL_law_473 (by decide) (fun c473 => absurd c473 (c_gef rfl rfl (a := b) (b := 501) (by omega) (by omega) (by omega))) (fun c473 => ?_)
      refine r_iload (pc := 476) dL_law_476 rfl ?_
      refine r_aload_n (pc := 478) dL_law_478 rfl rfl ?_
      refine r_bipush (v := 20) (pc := 479) dL_law_479 (by decide) ?_
      refine r_iload (pc := 481) dL_law_481 rfl ?_
      refine r_imul (pc := 483) dL_law_483 ?_
      refine q_callV (ci := 8) (T := TX10) (N := 6) (vs := [.int _]) (pc := 484) dL_law_484 rfl l_RL_82 rfl ⟨by decide, by decide⟩ rfl (Nat.le_of_ble_eq_true rfl) hl EW_0 rfl (Nat.le_of_ble_eq_true rfl) (qm hl hA _ (20 * b) (show (20 : Int32) * nI b = nI (20 * b) from nmul rfl rfl) (by omega) ((isM_b o.2.1.b01 (by omega)).trans z)) rfl ?_
      refine r_if_eq 494 (pc := 487) dL_law_487 (by decide) (fun c487 => absurd c487 (c_eqf rfl rfl (a := 1) (b := 0) (by omega) (by omega) (by omega))) (fun c487 => ?_)
      refine r_iconst (v := 1) (pc := 490) dL_law_490 (by decide) ?_
      refine r_goto 495 (pc := 491) dL_law_491 (by decide) ?_
      refine r_iadd (pc := 495) dL_law_495 ?_
      rw [show R_mkd A b + (1 : Int32) = R_mkd A (b + 1) by rw [← K8, z]]
      refine q_istore [_, _, _, _, _, _, _, _, _, _, _, _, _] (pc := 496) dL_law_496 (by decide) rfl ?_
      refine q_iinc (nI (b + 1)) [_, _, _, _, _, _, _, _, _, _, _, _, _] (pc := 498) dL_law_498 rfl (by decide) (ninc 1 rfl) rfl ?_
      refine r_goto 468 (pc := 501) dL_law_501 (by decide) ?_
      exact ih (b + 1) (by omega)
theorem seg_H (hl : l.stackTraces = false) (hA : AG C W A) (o : OKA A) (KK : Runs om l M_L_law B 517 (LL sv e v sh sn was got pd (R_mkd A 501) (nI 501)) [] (EW g C W S V p c) Post) : Runs om l M_L_law B 462 (LL0 sv e v sh sn was got pd kk) [] (EW g C W S V p c) Post := by
  have KH : Runs om l M_L_law B 504 (LL sv e v sh sn was got pd (R_mkd A 501) (nI 501)) [] (EW g C W S V p c) Post := by
    refine r_iload (pc := 504) dL_law_504 rfl ?_
    refine r_aload_n (pc := 506) dL_law_506 rfl rfl ?_
    refine r_bipush (v := 6) (pc := 507) dL_law_507 (by decide) ?_
    refine q_callV (ci := 8) (T := TX10) (N := 6) (vs := [.int _]) (pc := 509) dL_law_509 rfl l_RL_68 rfl ⟨by decide, by decide⟩ rfl (Nat.le_of_ble_eq_true rfl) hl EW_0 rfl (Nat.le_of_ble_eq_true rfl) (qg hl hA o _ 6 rfl (by omega) gau_6) rfl ?_
    refine r_icmp_eq 517 (pc := 512) dL_law_512 (by decide) (fun c512 => ?_) (fun c512 => absurd rfl c512)
    exact KK
  refine r_iconst (v := 0) (pc := 462) dL_law_462 (by decide) ?_
  refine q_istore [_, _, _, _, _, _, _, _, _, _, _, _, _] (pc := 463) dL_law_463 (by decide) rfl ?_
  refine r_iconst (v := 0) (pc := 465) dL_law_465 (by decide) ?_
  refine q_istore [_, _, _, _, _, _, _, _, _, _, _, _, _] (pc := 466) dL_law_466 (by decide) rfl ?_
  exact lp_mask hl hA o KH 501 0 (by omega)
/-- all checks: from the echoes to the masks -/
theorem chk (hl : l.stackTraces = false) (hA : AG C W A) (o : OKA A) (x : XA m A) (hm : m ≤ 1000) (hF : sh = 0 ∨ (sh = 1 ∧ SF A)) (KK : ∀ pd kk d : Int32, Runs om l M_L_law B 517 (LL sv e v sh sn was got pd kk d) [] (EW g C W S V p c) Post) : Runs om l M_L_law B 126 (LL0 sv e v sh sn was got 0 (nI 0)) [] (EW g C W S V p c) Post := by
  obtain ⟨K, h41, hK⟩ := o.1.K41
  have hS : SOp K A := by
    have y := x.2.2.1
    rw [cl_nI h41 (by omega)] at y
    exact y
  have hU : U5 K A := by
    have y := x.2.2.2
    rw [cl_nI h41 (by omega)] at y
    exact y
  have hM : ∀ e, e < K → M4 (A (42 + 4 * e + 3)) := by
    have y := o.2.1.2.2.2.2.2.2.1
    rw [cl_nI h41 (by omega)] at y
    exact y
  refine lp_echo hl hA o h41 hK hS hM hF ?_ K 0 (by omega)
  have hp1 : ¬ 1 < P5 A K := by
    rcases P5_ex hM hU K (Nat.le_refl _) with h | ⟨h, -⟩ <;> rw [h] <;> decide
  refine seg_F hl hA o x hm hp1 ?_
  have KH := seg_H (kk := nI K) (pd := P5 A K) (sv := sv) (e := e) (v := v) (sh := sh) (sn := sn) (was := was) (got := got) hl hA o (KK _ _ _)
  rcases hF with rfl | ⟨rfl, hF⟩
  · exact seg_G0 KH
  · exact seg_G1 hl hA o hF KH
end LM
section LU
variable {om : OM} {l : Launch} {B : Nat × Nat} {g : Hp} {C : Nat → Int32} {W : Nat → Int64} {S : Nat → Nat → Int32} {V : Nat → Nat → Int64} {p c m : Nat} {A : Nat → Int32} {sv e v sh sn got pd kk d : Int32} {was : Int64} {Post : Out → Hp → Prop}
abbrev M9 (sv e v sh sn : Int32) (was : Int64) (got : Int32) : List (Option Value) := [some (.ref 100000), some (.ref 0), some (.int sv), some (.int e), some (.int v), some (.int sh), some (.int sn), some (.long was), none, some (.int got), none, none, none]
theorem seg_I (hl : l.stackTraces = false) (hp : p < 4) (hc : c < 4) (hA : AG (S p) (V p) A) (o : OKA A) (hw : c < 3 → was = dgv (S p) (V p) c) (K0 : Runs om l M_L_law B 559 (LL (nI (c + 1)) e v sh sn was got pd kk d) [] (EW g C W S V p (c + 1)) Post) (K1 : Runs om l M_L_law B 559 (LL (nI c) e v sh sn was got pd kk d) [] (EW g (S p) (V p) S V ((p + 3) % 4) c) Post) : Runs om l M_L_law B 517 (LL (nI (c + 1)) e v sh sn was got pd kk d) [] (EW g C W S V p (c + 1)) Post := by
  by_cases h3 : c < 3
  · refine r_iload (pc := 517) dL_law_517 rfl ?_
    refine r_bipush (v := 27) (pc := 519) dL_law_519 (by decide) ?_
    refine r_ishr (pc := 521) dL_law_521 ?_
    refine r_iconst (v := 3) (pc := 522) dL_law_522 (by decide) ?_
    refine r_iand (pc := 523) dL_law_523 ?_
    refine r_if_ne 559 (pc := 524) dL_law_524 (by decide) (fun c524 => ?_) (fun c524 => ?_)
    · exact K0
    · refine r_aload_n (pc := 527) dL_law_527 rfl rfl ?_
      refine q_callV (ci := 8) (T := TX10) (N := 6) (vs := []) (pc := 528) dL_law_528 rfl l_RL_95 rfl ⟨by decide, by decide⟩ rfl (Nat.le_of_ble_eq_true rfl) hl EW_0 rfl (Nat.le_of_ble_eq_true rfl) (qs_undo hl hp hc) rfl ?_
      refine r_iload_n (pc := 531) dL_law_531 rfl rfl ?_
      refine r_iconst (v := 1) (pc := 532) dL_law_532 (by decide) ?_
      refine r_isub (pc := 533) dL_law_533 ?_
      refine r_icmp_eq 539 (pc := 534) dL_law_534 (by decide) (fun c534 => ?_) (fun c534 => absurd (c_eqt rfl (nsub rfl rfl (by omega)) (a := c) (b := (c + 1) - 1) (by omega) (by omega) (by omega)) c534)
      refine q_iinc (nI (c)) [_, _, _, _, _, _, _, _, _, _, _, _, _] (pc := 539) dL_law_539 rfl (by decide) (pk_m1 _) rfl ?_
      refine r_iload_n (pc := 542) dL_law_542 rfl rfl ?_
      refine r_iconst (v := 3) (pc := 543) dL_law_543 (by decide) ?_
      refine r_icmp_ge 559 (pc := 544) dL_law_544 (by decide) (fun c544 => absurd c544 (c_gef rfl rfl (a := c) (b := 3) (by omega) (by omega) (by omega))) (fun c544 => ?_)
      refine r_aload_n (pc := 547) dL_law_547 rfl rfl ?_
      refine q_callV (ci := 8) (T := TX10) (N := 6) (vs := []) (pc := 548) dL_law_548 rfl l_RL_71 rfl ⟨by decide, by decide⟩ rfl (Nat.le_of_ble_eq_true rfl) hl EW_0 rfl (Nat.le_of_ble_eq_true rfl) (qs_digest hl hA o) rfl ?_
      refine r_lload (pc := 551) dL_law_551 rfl ?_
      refine r_lcmp (pc := 553) dL_law_553 ?_
      refine r_if_eq 559 (pc := 554) dL_law_554 (by decide) (fun c554 => ?_) (fun c554 => absurd (cmp_eq.mpr (hw h3).symm) c554)
      exact K1
  · refine r_iload (pc := 517) dL_law_517 rfl ?_
    refine r_bipush (v := 27) (pc := 519) dL_law_519 (by decide) ?_
    refine r_ishr (pc := 521) dL_law_521 ?_
    refine r_iconst (v := 3) (pc := 522) dL_law_522 (by decide) ?_
    refine r_iand (pc := 523) dL_law_523 ?_
    refine r_if_ne 559 (pc := 524) dL_law_524 (by decide) (fun c524 => ?_) (fun c524 => ?_)
    · exact K0
    · refine r_aload_n (pc := 527) dL_law_527 rfl rfl ?_
      refine q_callV (ci := 8) (T := TX10) (N := 6) (vs := []) (pc := 528) dL_law_528 rfl l_RL_95 rfl ⟨by decide, by decide⟩ rfl (Nat.le_of_ble_eq_true rfl) hl EW_0 rfl (Nat.le_of_ble_eq_true rfl) (qs_undo hl hp hc) rfl ?_
      refine r_iload_n (pc := 531) dL_law_531 rfl rfl ?_
      refine r_iconst (v := 1) (pc := 532) dL_law_532 (by decide) ?_
      refine r_isub (pc := 533) dL_law_533 ?_
      refine r_icmp_eq 539 (pc := 534) dL_law_534 (by decide) (fun c534 => ?_) (fun c534 => absurd (c_eqt rfl (nsub rfl rfl (by omega)) (a := c) (b := (c + 1) - 1) (by omega) (by omega) (by omega)) c534)
      refine q_iinc (nI (c)) [_, _, _, _, _, _, _, _, _, _, _, _, _] (pc := 539) dL_law_539 rfl (by decide) (pk_m1 _) rfl ?_
      refine r_iload_n (pc := 542) dL_law_542 rfl rfl ?_
      refine r_iconst (v := 3) (pc := 543) dL_law_543 (by decide) ?_
      refine r_icmp_ge 559 (pc := 544) dL_law_544 (by decide) (fun c544 => ?_) (fun c544 => absurd (c_get rfl rfl (a := c) (b := 3) (by omega) (by omega) (by omega)) c544)
      exact K1
theorem seg_S3 {q : Nat} (hq : q ≤ 4) (KK : Runs om l M_L_law B 76 (M9 (nI (min (q + 1) 4)) e v sh sn was got) [] (EW g C W S V p c) Post) : Runs om l M_L_law B 63 (M9 (nI q) e v sh sn was got) [] (EW g C W S V p c) Post := by
  by_cases h4 : q < 4
  · refine r_iload_n (pc := 63) dL_law_63 rfl rfl ?_
    refine r_iconst (v := 4) (pc := 64) dL_law_64 (by decide) ?_
    refine r_icmp_ge 74 (pc := 65) dL_law_65 (by decide) (fun c65 => absurd c65 (c_gef rfl rfl (a := q) (b := 4) (by omega) (by omega) (by omega))) (fun c65 => ?_)
    refine r_iload_n (pc := 68) dL_law_68 rfl rfl ?_
    refine r_iconst (v := 1) (pc := 69) dL_law_69 (by decide) ?_
    refine r_iadd (pc := 70) dL_law_70 ?_
    rw [show (nI q + 1 : Int32) = nI (min (q + 1) 4) by rw [show min (q + 1) 4 = q + 1 by omega]; exact (nI_succ q).symm]
    refine r_goto 75 (pc := 71) dL_law_71 (by decide) ?_
    refine q_istore_n [_, _, _, _, _, _, _, _, _, _, _, _, _] (pc := 75) dL_law_75 rfl (by decide) rfl ?_
    exact KK
  · refine r_iload_n (pc := 63) dL_law_63 rfl rfl ?_
    refine r_iconst (v := 4) (pc := 64) dL_law_64 (by decide) ?_
    refine r_icmp_ge 74 (pc := 65) dL_law_65 (by decide) (fun c65 => ?_) (fun c65 => absurd (c_get rfl rfl (a := q) (b := 4) (by omega) (by omega) (by omega)) c65)
    have e4 : min (q + 1) 4 = 4 := by omega
    rw [e4] at KK
    refine r_iconst (v := nI 4) (pc := 74) dL_law_74 (by decide) ?_
    refine q_istore_n [_, _, _, _, _, _, _, _, _, _, _, _, _] (pc := 75) dL_law_75 rfl (by decide) rfl ?_
    exact KK
theorem seg_S4 (h : 0 ≤ got ∨ v &&& 15 = 1) (KK : Runs om l M_L_law B 92 (M9 sv e v sh sn was got) [] (EW g C W S V p c) Post) : Runs om l M_L_law B 76 (M9 sv e v sh sn was got) [] (EW g C W S V p c) Post := by
  refine r_iload (pc := 76) dL_law_76 rfl ?_
  refine r_if_ge 92 (pc := 78) dL_law_78 (by decide) (fun c78 => ?_) (fun c78 => ?_)
  · exact KK
  · refine r_iload (pc := 81) dL_law_81 rfl ?_
    refine r_bipush (v := 15) (pc := 83) dL_law_83 (by decide) ?_
    refine r_iand (pc := 85) dL_law_85 ?_
    refine r_iconst (v := 1) (pc := 86) dL_law_86 (by decide) ?_
    refine r_icmp_eq 92 (pc := 87) dL_law_87 (by decide) (fun c87 => ?_) (fun c87 => absurd (h.resolve_left c78) c87)
    exact KK
theorem seg_S50 (KK : Runs om l M_L_law B 126 (LL0 sv e v 0 sn was got 0 (nI 0)) [] (EW g C W S V p c) Post) : Runs om l M_L_law B 92 (M9 sv e v 0 sn was got) [] (EW g C W S V p c) Post := by
  refine r_iload (pc := 92) dL_law_92 rfl ?_
  refine r_if_eq 120 (pc := 94) dL_law_94 (by decide) (fun c94 => ?_) (fun c94 => absurd (c_eqt rfl rfl (a := 0) (b := 0) (by omega) (by omega) (by omega)) c94)
  refine r_iconst (v := 0) (pc := 120) dL_law_120 (by decide) ?_
  refine q_istore [_, _, _, _, _, _, _, _, _, _, _, _, _] (pc := 121) dL_law_121 (by decide) rfl ?_
  refine r_iconst (v := 0) (pc := 123) dL_law_123 (by decide) ?_
  refine q_istore [_, _, _, _, _, _, _, _, _, _, _, _, _] (pc := 124) dL_law_124 (by decide) rfl ?_
  exact KK
theorem seg_S51 (hl : l.stackTraces = false) (hA : AG C W A) (o : OKA A) (h24 : A 24 = sn + 1 + lw (v >>> ((4 : Int32) &&& 31)) 4) (KK : Runs om l M_L_law B 126 (LL0 sv e v 1 sn was got 0 (nI 0)) [] (EW g C W S V p c) Post) : Runs om l M_L_law B 92 (M9 sv e v 1 sn was got) [] (EW g C W S V p c) Post := by
  refine r_iload (pc := 92) dL_law_92 rfl ?_
  refine r_if_eq 120 (pc := 94) dL_law_94 (by decide) (fun c94 => absurd c94 (c_eqf rfl rfl (a := 1) (b := 0) (by omega) (by omega) (by omega))) (fun c94 => ?_)
  refine r_aload_n (pc := 97) dL_law_97 rfl rfl ?_
  refine r_iconst (v := 0) (pc := 98) dL_law_98 (by decide) ?_
  refine q_callV (ci := 8) (T := TX10) (N := 6) (vs := [.int _]) (pc := 99) dL_law_99 rfl l_RL_68 rfl ⟨by decide, by decide⟩ rfl (Nat.le_of_ble_eq_true rfl) hl EW_0 rfl (Nat.le_of_ble_eq_true rfl) (qg hl hA o _ 0 rfl (by omega) gau_0) rfl ?_
  refine r_iload (pc := 102) dL_law_102 rfl ?_
  refine r_iconst (v := 1) (pc := 104) dL_law_104 (by decide) ?_
  refine r_iadd (pc := 105) dL_law_105 ?_
  refine r_iload (pc := 106) dL_law_106 rfl ?_
  refine r_iconst (v := 4) (pc := 108) dL_law_108 (by decide) ?_
  refine r_ishr (pc := 109) dL_law_109 ?_
  refine r_iconst (v := 4) (pc := 110) dL_law_110 (by decide) ?_
  refine q_callS (vs := [.int _, .int _]) (pc := 111) dL_law_111 rfl l_RL_14 rfl ⟨by decide, by decide⟩ rfl (Nat.le_of_ble_eq_true rfl) hl (Nat.le_of_ble_eq_true rfl) (s_L_low _ _ (by decide)) rfl ?_
  refine r_iadd (pc := 114) dL_law_114 ?_
  refine r_icmp_eq 120 (pc := 115) dL_law_115 (by decide) (fun c115 => ?_) (fun c115 => absurd h24 c115)
  refine r_iconst (v := 0) (pc := 120) dL_law_120 (by decide) ?_
  refine q_istore [_, _, _, _, _, _, _, _, _, _, _, _, _] (pc := 121) dL_law_121 (by decide) rfl ?_
  refine r_iconst (v := 0) (pc := 123) dL_law_123 (by decide) ?_
  refine q_istore [_, _, _, _, _, _, _, _, _, _, _, _, _] (pc := 124) dL_law_124 (by decide) rfl ?_
  exact KK
end LU
