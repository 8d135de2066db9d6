/-! one call on both sides -/
abbrev RS : Type := (Nat → Int32) × (Nat → Int64) × (Nat → Int32) × (Nat → Int32) × (Nat → Int32) × (Nat → Int32) × (Nat → Int32)
def EHp (g : Hp) (k : GS) (r : RS) : Hp := EH (rH g r.1 r.2.1 r.2.2.1 r.2.2.2.1 r.2.2.2.2.1 r.2.2.2.2.2.1 r.2.2.2.2.2.2) k.1 k.2.1 k.2.2.1 k.2.2.2.1 k.2.2.2.2.1 k.2.2.2.2.2.1 k.2.2.2.2.2.2.1 k.2.2.2.2.2.2.2.1 k.2.2.2.2.2.2.2.2.1 k.2.2.2.2.2.2.2.2.2.1 k.2.2.2.2.2.2.2.2.2.2.1 k.2.2.2.2.2.2.2.2.2.2.2.1 k.2.2.2.2.2.2.2.2.2.2.2.2
/-- gauge and model agree: C W S V ns cnt ln t against I A v x -/
def GAt (C : Nat → Int32) (W : Nat → Int64) (S : Nat → Nat → Int32) (V : Nat → Nat → Int64) (ns cnt ln : Int32) (t : Nat → Int32) (I A v x : Nat → Int32) : Prop := AG C W A ∧ OKA A ∧ SVR S V ns cnt (I 4) v ∧ (∃ L : Nat, L ≤ 150 ∧ ln = nI L ∧ I 6 = nI L) ∧ t = x
def GAp (k : GS) (r : RS) : Prop := GAt k.1 k.2.1 k.2.2.2.2.1 k.2.2.2.2.2.1 k.2.2.2.2.2.2.1 k.2.2.2.2.2.2.2.1 k.2.2.2.2.2.2.2.2.1 k.2.2.2.2.2.2.2.2.2.2.2.1 r.1 r.2.2.1 r.2.2.2.2.1 r.2.2.2.2.2.1
/-- a call of the class (mC) and then of the model (mR), from what agrees to what agrees; ex: the classes that the law's codes 1, 2 stand for -/
def OPC (om : OM) (l : Launch) (mC mR : MI) (vC vR : List Value) (cs : List Nat) (ex : Nat → String) (k : GS) (r : RS) : Prop :=
  ∃ Q : Nat → Int32 → GS → Prop,
    (∀ (g : Hp) (B : Nat × Nat), 1 ≤ B.1 ∧ 6 ≤ B.2 → Runs om l mC B 0 (entL (mi_ml mC) (.ref 0 :: vC)) [] (EHp g k r) (fun o h1 => (∃ (x : Int32) (k' : GS), o = .inl (some (.int x)) ∧ h1 = EHp g k' r ∧ Q 0 x k') ∨ (∃ c : Nat, c ∈ cs ∧ o = .inr (ex c) ∧ h1 = ((EHp g k r).1, (EHp g k r).2.1, false) ∧ Q c 0 k))) ∧
    (∀ (c : Nat) (x : Int32) (k' : GS), Q c x k' → ∀ (g : Hp) (B : Nat × Nat), Runs om l mR B 0 (entL (mi_ml mR) (.ref 119 :: vR)) [] (EHp g k' r) (fun o h2 => ∃ (y : Int32) (r' : RS), o = .inl (some (.int y)) ∧ h2 = EHp g k' r' ∧ GAp k' r' ∧ r'.1 0 = nI c ∧ (c = 0 → x = y)))
section OC
variable {om : OM} {l : Launch} {mC mR : MI} {vC vR : List Value} {cs : List Nat} {ex : Nat → String} {C T : Nat → Int32} {W U : Nat → Int64} {S : Nat → Nat → Int32} {V : Nat → Nat → Int64} {ns cnt ln po : Int32} {wd : Value} {t nu : Nat → Int32} {I A a v n : Nat → Int32} {J : Nat → Int64}
theorem ref_on {L : List (Option Value)} {B : Nat × Nat} {g : Hp} {x : Nat → Int32} {ans : Option Value} {I' A' a' v' x' n' : Nat → Int32} {J' : Nat → Int64} (h : ∀ Y : Hp, Runs om l mR B 0 L [] (rH Y I J A a v x n) (Det ans (rH Y I' J' A' a' v' x' n'))) : Runs om l mR B 0 L [] (EH (rH g I J A a v x n) C W T U S V ns cnt ln po wd t nu) (Det ans (EH (rH g I' J' A' a' v' x' n') C W T U S V ns cnt ln po wd t nu)) := by
  have := h (EH (rH g I J A a v x n) C W T U S V ns cnt ln po wd t nu)
  rw [EH_rs, EH_r] at this
  exact this
theorem EH_22 {h : Hp} : (cH (gR h T U S V ns cnt) ln po wd t nu).2 = h.2 := rfl
theorem e_save (hl : l.stackTraces = false) {h : Hp} (p c : Nat) (hn : ns = nI p) (hc : cnt = nI c) (hp : p < 4) (hc4 : c ≤ 4) (B : Nat × Nat) : Runs om l M_X10_save B 0 (entL 1 [.ref 0]) [] (sH (cH (gR h T U S V ns cnt) ln po wd t nu) 1 C W) (Det none (sH (cH (gR h T U (updS S ((p + 1) % 4) C) (updS V ((p + 1) % 4) W) (nI ((p + 1) % 4)) (nI (min (c + 1) 4))) ln po wd t nu) 1 C W)) := by
  rw [cH_gR, cH_gR]
  exact s_save hl p c hn hc hp hc4
theorem opc_no (G : GAp (C, W, T, U, S, V, ns, cnt, ln, po, wd, t, nu) (I, J, A, a, v, t, n)) (c : Nat) (hc : c ∈ cs) (hc0 : c ≠ 0) {I' n' : Nat → Int32} {J' : Nat → Int64}
    (hC : ∀ (R : Hp) (ns cnt : Int32), R.1 0 = .inr (8, gf ns cnt) → ∀ B : Nat × Nat, 1 ≤ B.1 ∧ 6 ≤ B.2 → Runs om l mC B 0 (entL (mi_ml mC) (.ref 0 :: vC)) [] (sH R 1 C W) (Exc (ex c) (sH R 1 C W)))
    (hR : ∀ (Y : Hp) (B : Nat × Nat), Runs om l mR B 0 (entL (mi_ml mR) (.ref 119 :: vR)) [] (rH Y I J A a v t n) (Det (some (.int 0)) (rH Y I' J' A a v t n'))) (h0 : I' 0 = nI c) (h4 : I' 4 = I 4) (h6 : I' 6 = I 6) : OPC om l mC mR vC vR cs ex (C, W, T, U, S, V, ns, cnt, ln, po, wd, t, nu) (I, J, A, a, v, t, n) := by
  refine ⟨fun c1 x1 k1 => c1 = c ∧ k1 = (C, W, T, U, S, V, ns, cnt, ln, po, wd, t, nu), fun g B hB => ?_, fun c1 x1 k1 q g B => ?_⟩
  · exact r_mono (hC _ ns cnt EH_0 B hB) (fun o h1 z => Or.inr ⟨c, hc, z.1, z.2, rfl, rfl⟩)
  · obtain ⟨rfl, rfl⟩ := q
    refine r_mono (ref_on (fun Y => hR Y B)) (fun o h2 z => ⟨0, (I', J', A, a, v, t, n'), z.1, z.2, ?_, h0, fun e => ?_⟩)
    · obtain ⟨g1, g2, g3, ⟨L, q1, q2, q3⟩, g5⟩ := G
      refine ⟨g1, g2, ?_, ⟨L, q1, q2, h6.trans q3⟩, g5⟩
      show SVR S V ns cnt (I' 4) v
      rw [h4]
      exact g3
    · exact absurd e hc0
theorem opc_set (hl : l.stackTraces = false) (G : GAp (C, W, T, U, S, V, ns, cnt, ln, po, wd, t, nu) (I, J, A, a, v, t, n)) {x1 x2 : Int32} (hx : x1 = x2) {C' A' : Nat → Int32} {W' : Nat → Int64}
    (hC : ∀ (R R' : Hp) (ns cnt ns' cnt' : Int32), R.1 0 = .inr (8, gf ns cnt) → R'.1 0 = .inr (8, gf ns' cnt') → R'.2 = R.2 → (∀ B : Nat × Nat, Runs om l M_X10_save B 0 (entL 1 [.ref 0]) [] (sH R 1 C W) (Det none (sH R' 1 C W))) → ∀ B : Nat × Nat, Runs om l mC B 0 (entL (mi_ml mC) (.ref 0 :: vC)) [] (sH R 1 C W) (Det (some (.int x1)) (sH R' 1 C' W')))
    (hR : ∀ (Y : Hp) (B : Nat × Nat) (c : Nat), I 4 = nI c → c ≤ 4 → Runs om l mR B 0 (entL (mi_ml mR) (.ref 119 :: vR)) [] (rH Y I J A a v t n) (Det (some (.int x2)) (rH Y (R_saveI (upd I 0 0)) J A' a (R_savev c A v) t n)))
    (hA : AG C' W' A') (hO : OKA A') : OPC om l mC mR vC vR cs ex (C, W, T, U, S, V, ns, cnt, ln, po, wd, t, nu) (I, J, A, a, v, t, n) := by
  obtain ⟨g1, g2, ⟨p, c, hp, hc, en, ec, e4, hs⟩, ⟨L, q1, q2, q3⟩, g5⟩ := G
  dsimp only at g1 g2 hs q2 q3 en ec e4
  refine ⟨fun c1 x k1 => c1 = 0 ∧ x = x1 ∧ k1 = (C', W', T, U, updS S ((p + 1) % 4) C, updS V ((p + 1) % 4) W, nI ((p + 1) % 4), nI (min (c + 1) 4), ln, po, wd, t, nu), fun g B _ => ?_, fun c1 x k1 q g B => ?_⟩
  · have e := hC (cH (gR (rH g I J A a v t n) T U S V ns cnt) ln po wd t nu) (cH (gR (rH g I J A a v t n) T U (updS S ((p + 1) % 4) C) (updS V ((p + 1) % 4) W) (nI ((p + 1) % 4)) (nI (min (c + 1) 4))) ln po wd t nu) ns cnt _ _ EH_0 EH_0 (EH_22.trans EH_22.symm) (e_save hl p c en ec hp hc) B
    exact r_mono e (fun o h1 z => Or.inl ⟨x1, (C', W', T, U, updS S ((p + 1) % 4) C, updS V ((p + 1) % 4) W, nI ((p + 1) % 4), nI (min (c + 1) 4), ln, po, wd, t, nu), z.1, z.2, rfl, rfl, rfl⟩)
  · obtain ⟨rfl, rfl, rfl⟩ := q
    refine r_mono (ref_on (fun Y => hR Y B c e4 hc)) (fun o h2 z => ⟨x2, (R_saveI (upd I 0 0), J, A', a, R_savev c A v, t, n), z.1, z.2, ?_, ?_, fun _ => hx⟩)
    · refine ⟨hA, hO, ?_, ⟨L, q1, q2, ?_⟩, rfl⟩
      · show SVR _ _ _ _ (R_saveI (upd I 0 0) 4) _
        rw [saveI_4 (c := c) ((upd_n (by omega)).trans e4) hc]
        exact SVR_save hp hc hs g1 g2
      · show R_saveI (upd I 0 0) 6 = nI L
        rw [saveI_n (by omega), upd_n (by omega)]
        exact q3
    · show R_saveI (upd I 0 0) 0 = nI 0
      rw [saveI_n (by omega), upd_s]
      rfl
theorem opc_get (G : GAp (C, W, T, U, S, V, ns, cnt, ln, po, wd, t, nu) (I, J, A, a, v, t, n)) {x1 x2 : Int32} (hx : x1 = x2)
    (hC : ∀ (R : Hp) (ns cnt : Int32), R.1 0 = .inr (8, gf ns cnt) → ∀ B : Nat × Nat, Runs om l mC B 0 (entL (mi_ml mC) (.ref 0 :: vC)) [] (sH R 1 C W) (Det (some (.int x1)) (sH R 1 C W)))
    (hR : ∀ (Y : Hp) (B : Nat × Nat), Runs om l mR B 0 (entL (mi_ml mR) (.ref 119 :: vR)) [] (rH Y I J A a v t n) (Det (some (.int x2)) (rH Y (upd I 0 0) J A a v t n))) : OPC om l mC mR vC vR cs ex (C, W, T, U, S, V, ns, cnt, ln, po, wd, t, nu) (I, J, A, a, v, t, n) := by
  refine ⟨fun c1 x k1 => c1 = 0 ∧ x = x1 ∧ k1 = (C, W, T, U, S, V, ns, cnt, ln, po, wd, t, nu), fun g B hB => ?_, fun c1 x k1 q g B => ?_⟩
  · exact r_mono (hC _ ns cnt EH_0 B) (fun o h1 z => Or.inl ⟨x1, _, z.1, z.2, rfl, rfl, rfl⟩)
  · obtain ⟨rfl, rfl, rfl⟩ := q
    refine r_mono (ref_on (fun Y => hR Y B)) (fun o h2 z => ⟨x2, (upd I 0 0, J, A, a, v, t, n), z.1, z.2, ?_, (show upd I 0 0 0 = nI 0 from upd_s), fun _ => hx⟩)
    obtain ⟨g1, g2, g3, ⟨L, q1, q2, q3⟩, g5⟩ := G
    refine ⟨g1, g2, ?_, ⟨L, q1, q2, (show upd I 0 0 6 = nI L from (upd_n (by omega)).trans q3)⟩, g5⟩
    show SVR S V ns cnt (upd I 0 0 4) v
    rw [upd_n (by omega)]
    exact g3
end OC
