/-! text, commands, undo on both sides -/
section OPT
variable {om : OM} {l : Launch} {mC mR : MI} {vC vR : List Value} {cs : List Nat} {ex : Nat → String} {C T : Nat → Int32} {W U : Nat → Int64} {S : Nat → Nat → Int32} {V : Nat → Nat → Int64} {ns cnt ln po : Int32} {wd : Value} {t nu : Nat → Int32} {I A a v n : Nat → Int32} {J : Nat → Int64}
theorem opc_det {k k' : GS} {r r' : RS} {x1 x2 : Int32} (hx : x1 = x2) (hC : ∀ (g : Hp) (B : Nat × Nat), Runs om l mC B 0 (entL (mi_ml mC) (.ref 0 :: vC)) [] (EHp g k r) (Det (some (.int x1)) (EHp g k' r))) (hR : ∀ (g : Hp) (B : Nat × Nat), Runs om l mR B 0 (entL (mi_ml mR) (.ref 119 :: vR)) [] (EHp g k' r) (Det (some (.int x2)) (EHp g k' r'))) (G : GAp k' r') (h0 : r'.1 0 = nI 0) : OPC om l mC mR vC vR cs ex k r := by
  refine ⟨fun c1 x k1 => c1 = 0 ∧ x = x1 ∧ k1 = k', fun g B hB => ?_, fun c1 x k1 q g B => ?_⟩
  · exact r_mono (hC g B) (fun o h1 z => Or.inl ⟨x1, k', z.1, z.2, rfl, rfl, rfl⟩)
  · obtain ⟨rfl, rfl, rfl⟩ := q
    exact r_mono (hR g B) (fun o h2 z => ⟨x2, r', z.1, z.2, G, h0, fun _ => hx⟩)
theorem opc_exc {k : GS} {r r' : RS} (c : Nat) (hc : c ∈ cs) (hc0 : c ≠ 0) (hC : ∀ (g : Hp) (B : Nat × Nat), 1 ≤ B.1 ∧ 6 ≤ B.2 → Runs om l mC B 0 (entL (mi_ml mC) (.ref 0 :: vC)) [] (EHp g k r) (Exc (ex c) (EHp g k r))) (hR : ∀ (g : Hp) (B : Nat × Nat), Runs om l mR B 0 (entL (mi_ml mR) (.ref 119 :: vR)) [] (EHp g k r) (Det (some (.int 0)) (EHp g k r'))) (G : GAp k r') (h0 : r'.1 0 = nI c) : OPC om l mC mR vC vR cs ex k r := by
  refine ⟨fun c1 x k1 => c1 = c ∧ k1 = k, fun g B hB => ?_, fun c1 x k1 q g B => ?_⟩
  · exact r_mono (hC g B hB) (fun o h1 z => Or.inr ⟨c, hc, z.1, z.2, rfl, rfl⟩)
  · obtain ⟨rfl, rfl⟩ := q
    exact r_mono (hR g B) (fun o h2 z => ⟨0, r', z.1, z.2, G, h0, fun e => absurd e hc0⟩)
theorem GA_I {I' : Nat → Int32} {J' : Nat → Int64} {a' n' : Nat → Int32} (G : GAp (C, W, T, U, S, V, ns, cnt, ln, po, wd, t, nu) (I, J, A, a, v, t, n)) (h4 : I' 4 = I 4) (h6 : I' 6 = I 6) : GAp (C, W, T, U, S, V, ns, cnt, ln, po, wd, t, nu) (I', J', A, a', v, t, n') := by
  obtain ⟨g1, g2, g3, ⟨L, q1, q2, q3⟩, g5⟩ := G
  refine ⟨g1, g2, ?_, ⟨L, q1, q2, h6.trans q3⟩, g5⟩
  show SVR S V ns cnt (I' 4) v
  rw [h4]
  exact g3
theorem op_type (hl : l.stackTraces = false) (G : GAp (C, W, T, U, S, V, ns, cnt, ln, po, wd, t, nu) (I, J, A, a, v, t, n)) (x : Int32) : OPC om l M_X10_type M_X11_type [.int x] [.int x] [1, 2] exIS (C, W, T, U, S, V, ns, cnt, ln, po, wd, t, nu) (I, J, A, a, v, t, n) := by
  have G0 := G
  obtain ⟨g1, g2, g3, ⟨L, q1, q2, q3⟩, g5⟩ := G
  dsimp only at q2 q3
  by_cases h : R_in x 0 127 = 0
  · exact opc_exc (r' := (upd I 0 1, J, A, a, v, t, n)) 1 (by decide) (by decide) (fun g B hB => y_type_no hl hB x h) (fun g B => ref_on (fun Y => s_X11_type_no hl x h)) (GA_I G0 rfl rfl) rfl
  · have h1 := in1 h
    by_cases hL : L = 150
    · subst hL
      exact opc_exc (r' := (upd (upd I 0 0) 0 2, J, A, a, v, t, n)) 2 (by decide) (by decide) (fun g B hB => y_type_no2 hl hB gR_0 x h1 q2) (fun g B => ref_on (fun Y => s_X11_type_no2 hl x h1 q3)) (GA_I G0 rfl rfl) rfl
    · refine opc_det (k' := (C, W, T, U, S, V, ns, cnt, ln + 1, po, wd, upd t L (vp_nar .byte x.toInt8.toInt32), nu)) (r' := (upd (upd I 0 0) 6 (I 6 + 1), J, A, a, v, upd t L (vp_nar .byte x.toInt8.toInt32), n)) (x1 := ln + 1) (x2 := I 6 + 1) (by rw [q2, q3]) (fun g B => y_type_yes hl gR_0 x h1 L q2 (by omega)) (fun g B => ref_on (fun Y => s_X11_type_yes hl x h1 L q3 (by omega))) ⟨g1, g2, ?_, ⟨L + 1, by omega, ?_, ?_⟩, rfl⟩ rfl
      · exact g3
      · show ln + 1 = nI (L + 1)
        rw [q2]; exact (nI_succ L).symm
      · show upd (upd I 0 0) 6 (I 6 + 1) 6 = nI (L + 1)
        rw [upd_s, q3]; exact (nI_succ L).symm
theorem op_clearCommands (hl : l.stackTraces = false) (G : GAp (C, W, T, U, S, V, ns, cnt, ln, po, wd, t, nu) (I, J, A, a, v, t, n)) : OPC om l M_X10_clearCommands M_X11_clearCommands [] [] [] ex (C, W, T, U, S, V, ns, cnt, ln, po, wd, t, nu) (I, J, A, a, v, t, n) := by
  obtain ⟨g1, g2, g3, ⟨L, q1, q2, q3⟩, g5⟩ := G
  dsimp only at q2 q3
  exact opc_det (k' := (C, W, T, U, S, V, ns, cnt, 0, po, wd, t, nu)) (r' := (upd (upd I 0 0) 6 0, J, A, a, v, t, n)) (x1 := ln) (x2 := I 6) (q2.trans q3.symm) (fun g B => y_clear gR_0) (fun g B => ref_on (fun Y => s_X11_clearCommands hl)) ⟨g1, g2, g3, ⟨0, by omega, rfl, rfl⟩, rfl⟩ rfl
theorem op_undo (hl : l.stackTraces = false) (G : GAp (C, W, T, U, S, V, ns, cnt, ln, po, wd, t, nu) (I, J, A, a, v, t, n)) : OPC om l M_X10_undo M_X11_undo [] [] [1] exS (C, W, T, U, S, V, ns, cnt, ln, po, wd, t, nu) (I, J, A, a, v, t, n) := by
  have G0 := G
  obtain ⟨g1, g2, ⟨p, c, hp, hc, en, ec, e4, hs⟩, ⟨L, q1, q2, q3⟩, g5⟩ := G
  dsimp only at en ec e4 hs q2 q3
  by_cases c0 : c = 0
  · subst c0
    exact opc_exc (r' := (upd I 0 1, J, A, a, v, t, n)) 1 (by decide) (by decide) (fun g B hB => s_X10_undo_no hl hB EH_0 ec) (fun g B => ref_on (fun Y => s_X11_undo0 hl e4)) (GA_I G0 rfl rfl) rfl
  · obtain ⟨c, rfl⟩ : ∃ c', c = c' + 1 := ⟨c - 1, by omega⟩
    obtain ⟨s1, s2, s3⟩ := SVR_undo (A := A) hp (by omega) hs
    refine opc_det (k' := (S p, V p, T, U, S, V, nI ((p + 3) % 4), nI c, ln, po, wd, t, nu)) (r' := (upd (upd I 0 0) 4 (nI c), J, cpT (fun j => v (647 * c + j)) A 647, a, v, t, n)) (x1 := nI c) (x2 := nI c) rfl (fun g B => ?_) (fun g B => ref_on (fun Y => s_X11_undoP hl c e4 (by omega))) ⟨s2, s3, s1, ⟨L, q1, q2, q3⟩, rfl⟩ rfl
    have e := s_undo (om := om) (B := B) (h0 := cH (rH g I J A a v t n) ln po wd t nu) (C := C) (T := T) (W := W) (U := U) (S := S) (V := V) hl p c en ec hp (by omega)
    rw [← cH_gR, ← cH_gR] at e
    exact e
end OPT
