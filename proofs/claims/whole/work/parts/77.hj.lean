/-! the law's calls of the class, with what they catch -/
def LA (w : Nat → Int64) : va_E := .inl (2, 1, .inr (.inl w))
def CPo (cs : List Nat) (ex : Nat → String) (g : Hp) (k : GS) (r : RS) (Q : Nat → Int32 → GS → Prop) : Out → Hp → Prop := fun o h1 => (∃ (x : Int32) (k' : GS), o = .inl (some (.int x)) ∧ h1 = EHp g k' r ∧ Q 0 x k') ∨ (∃ c : Nat, c ∈ cs ∧ o = .inr (ex c) ∧ h1 = ((EHp g k r).1, (EHp g k r).2.1, false) ∧ Q c 0 k)
def WP (g : Hp) (r : RS) (Q : Nat → Int32 → GS → Prop) : Out → Hp → Prop := fun o h1 => ∃ (c : Nat) (x : Int32) (k' : GS) (w : Nat → Int64), o = .inl (some (.int (nI c))) ∧ c ≤ 2 ∧ h1 = EHp (hs g 125 (LA w)) k' r ∧ Q c x k' ∧ (c = 0 → w 0 = x.toInt64)
section WL
variable {g : Hp} {k : GS} {r : RS} {e : va_E}
theorem rH_out {h0 : Hp} {I A a v x n : Nat → Int32} {J : Nat → Int64} {j : Nat} (hj : 125 ≤ j) : (rH h0 I J A a v x n).1 j = h0.1 j := by
  show (if j = 119 then _ else if j = 120 then _ else if j = 121 then _ else if j = 122 then _ else if j = 123 then _ else if j = 124 then _ else h0.1 j) = h0.1 j
  rw [if_neg (by omega), if_neg (by omega), if_neg (by omega), if_neg (by omega), if_neg (by omega), if_neg (by omega)]
theorem EHp_out {j : Nat} (hj : 125 ≤ j) : (EHp g k r).1 j = g.1 j := (EH_out (by omega)).trans (rH_out hj)
theorem EHp_2 : (EHp g k r).2 = g.2 := rfl
theorem rH_hsN {h0 : Hp} {I A a v x n : Nat → Int32} {J : Nat → Int64} : hs (rH h0 I J A a v x n) 125 e = rH (hs h0 125 e) I J A a v x n := by
  refine hp_ext (fun j => ?_) rfl
  show (if j = 125 then e else (rH h0 I J A a v x n).1 j) = (rH (hs h0 125 e) I J A a v x n).1 j
  by_cases h : j = 125
  · subst h
    rw [if_pos rfl, rH_out (by omega)]
    exact hs_same.symm
  · rw [if_neg h]
    by_cases h2 : 125 ≤ j
    · rw [rH_out h2, rH_out h2, hs_ne h]
    · show (if j = 119 then _ else if j = 120 then _ else if j = 121 then _ else if j = 122 then _ else if j = 123 then _ else if j = 124 then _ else h0.1 j) = (if j = 119 then _ else if j = 120 then _ else if j = 121 then _ else if j = 122 then _ else if j = 123 then _ else if j = 124 then _ else (hs h0 125 e).1 j)
      rw [hs_ne h]
theorem EHp_hs : hs (EHp g k r) 125 e = EHp (hs g 125 e) k r := by
  refine hp_ext (fun j => ?_) rfl
  show (if j = 125 then e else (EHp g k r).1 j) = (EHp (hs g 125 e) k r).1 j
  by_cases h : j = 125
  · subst h
    rw [if_pos rfl, EHp_out (by omega)]
    exact hs_same.symm
  · rw [if_neg h]
    by_cases h2 : j < 119
    · exact EH_in h2
    · unfold EHp
      rw [EH_out (by omega), EH_out (by omega), ← rH_hsN, hs_ne h]
theorem hs_id (h : g.1 125 = e) : hs g 125 e = g := by
  refine hp_ext (fun j => ?_) rfl
  show (if j = 125 then e else g.1 j) = g.1 j
  by_cases hj : j = 125
  · subst hj; rw [if_pos rfl]; exact h.symm
  · rw [if_neg hj]
theorem EHp_f (hf : g.2.2 = false) : ((EHp g k r).1, (EHp g k r).2.1, false) = EHp g k r := by
  refine hp_ext (fun j => rfl) ?_
  show (g.2.1, false) = g.2
  rw [← hf]
theorem EHp_0 : ∃ ns cnt : Int32, (EHp g k r).1 0 = .inr (8, gf ns cnt) := ⟨_, _, (sH_out (Or.inl (by decide))).trans EH_0⟩
theorem updL_0 {w : Nat → Int64} {y : Int64} : vp_updL w 0 y 0 = y := if_pos rfl
end WL
theorem w_begin {om : OM} {l : Launch} {k : GS} {r : RS} {Q : Nat → Int32 → GS → Prop} (hl : l.stackTraces = false) (x0 : Int32) (q1 : ∀ (g : Hp) (B : Nat × Nat), 1 ≤ B.1 ∧ 6 ≤ B.2 → Runs om l M_X10_begin B 0 (entL (mi_ml M_X10_begin) (.ref 0 :: [.int x0])) [] (EHp g k r) (CPo [1] exI g k r Q)) {g : Hp} {w : Nat → Int64} (hg : g.1 125 = LA w) (hf : g.2.2 = false) {B : Nat × Nat} (hB : 1 ≤ B.1 ∧ 6 ≤ B.2) : Runs om l M_L_begin B 0 (entL 4 [.ref 0, .int x0, .ref 125]) [] (EHp g k r) (WP g r Q) := by
  show Runs om l M_L_begin B 0 [some (.ref 0), some (.int x0), some (.ref 125), none] [] _ _
  obtain ⟨ns, cnt, h0⟩ := EHp_0 (g := g) (k := k) (r := r)
  refine r_aload_n (pc := 0) dL_begin_0 rfl rfl ?_
  refine r_iconst (v := 0) (pc := 1) dL_begin_1 rfl ?_
  refine r_aload_n (pc := 2) dL_begin_2 rfl rfl ?_
  refine r_iload_n (pc := 3) dL_begin_3 rfl rfl ?_
  refine r_callVX (vs := [.int _]) (pc := 4) 1 6 (ci := 8) (T := TX10) (N := 6) dL_begin_4 rfl l_RL_7 rfl ⟨by decide, by decide⟩ rfl (Nat.le_of_ble_eq_true rfl) hl h0 rfl hB.1 hB.2 (Nat.le_of_ble_eq_true rfl) (q1 g (1, 6) ⟨Nat.le_refl _, Nat.le_refl _⟩) (fun o h1 z hc => ?_) (fun E h1 z => ?_) (fun o h1 z => ?_)
  · rcases z with ⟨x, k', -, rfl, -⟩ | ⟨c, -, -, rfl, -⟩
    · rw [EHp_2, hf] at hc; cases hc
    · cases hc
  · rcases z with ⟨x, k', z, -, -⟩ | ⟨c, hc, he, rfl, hq⟩
    · cases z
    · rw [EHp_f hf]
      rw [List.mem_singleton.mp hc] at he hq
      cases he
      refine ⟨_, _, _, ca_L_begin_IllegalArgumentException, ?_⟩
      refine r_iconst (v := 1) (pc := 13) dL_begin_13 rfl ?_
      exact r_ireturn (S := []) (pc := 14) dL_begin_14 rfl rfl ⟨1, 0, k, w, rfl, by decide, by rw [hs_id hg], hq, fun e => absurd e (by decide)⟩
  · rcases z with ⟨x, k', z, rfl, hq⟩ | ⟨c, hc, he, -, -⟩
    · cases z
      refine r_i2l (pc := 7) dL_begin_7 ?_
      refine r_lastore (n := 1) (f := w) (pc := 8) dL_begin_8 ((EHp_out (by omega)).trans hg) (vin_n (k := 0) rfl (by decide) (by decide)) ?_
      rw [show Int32.toNatClampNeg 0 = 0 from by decide, EHp_hs]
      refine r_goto 15 (pc := 9) dL_begin_9 (by decide) ?_
      refine r_iconst (v := 0) (pc := 15) dL_begin_15 rfl ?_
      exact r_ireturn (S := []) (pc := 16) dL_begin_16 rfl rfl ⟨0, x, k', vp_updL w 0 x.toInt64, rfl, by decide, rfl, hq, fun _ => updL_0⟩
    · cases he
theorem w_setLevel {om : OM} {l : Launch} {k : GS} {r : RS} {Q : Nat → Int32 → GS → Prop} (hl : l.stackTraces = false) (x0 : Int32) (q1 : ∀ (g : Hp) (B : Nat × Nat), 1 ≤ B.1 ∧ 6 ≤ B.2 → Runs om l M_X10_setLevel B 0 (entL (mi_ml M_X10_setLevel) (.ref 0 :: [.int x0])) [] (EHp g k r) (CPo [1] exI g k r Q)) {g : Hp} {w : Nat → Int64} (hg : g.1 125 = LA w) (hf : g.2.2 = false) {B : Nat × Nat} (hB : 1 ≤ B.1 ∧ 6 ≤ B.2) : Runs om l M_L_setLevel B 0 (entL 4 [.ref 0, .int x0, .ref 125]) [] (EHp g k r) (WP g r Q) := by
  show Runs om l M_L_setLevel B 0 [some (.ref 0), some (.int x0), some (.ref 125), none] [] _ _
  obtain ⟨ns, cnt, h0⟩ := EHp_0 (g := g) (k := k) (r := r)
  refine r_aload_n (pc := 0) dL_setLevel_0 rfl rfl ?_
  refine r_iconst (v := 0) (pc := 1) dL_setLevel_1 rfl ?_
  refine r_aload_n (pc := 2) dL_setLevel_2 rfl rfl ?_
  refine r_iload_n (pc := 3) dL_setLevel_3 rfl rfl ?_
  refine r_callVX (vs := [.int _]) (pc := 4) 1 6 (ci := 8) (T := TX10) (N := 6) dL_setLevel_4 rfl l_RL_15 rfl ⟨by decide, by decide⟩ rfl (Nat.le_of_ble_eq_true rfl) hl h0 rfl hB.1 hB.2 (Nat.le_of_ble_eq_true rfl) (q1 g (1, 6) ⟨Nat.le_refl _, Nat.le_refl _⟩) (fun o h1 z hc => ?_) (fun E h1 z => ?_) (fun o h1 z => ?_)
  · rcases z with ⟨x, k', -, rfl, -⟩ | ⟨c, -, -, rfl, -⟩
    · rw [EHp_2, hf] at hc; cases hc
    · cases hc
  · rcases z with ⟨x, k', z, -, -⟩ | ⟨c, hc, he, rfl, hq⟩
    · cases z
    · rw [EHp_f hf]
      rw [List.mem_singleton.mp hc] at he hq
      cases he
      refine ⟨_, _, _, ca_L_setLevel_IllegalArgumentException, ?_⟩
      refine r_iconst (v := 1) (pc := 13) dL_setLevel_13 rfl ?_
      exact r_ireturn (S := []) (pc := 14) dL_setLevel_14 rfl rfl ⟨1, 0, k, w, rfl, by decide, by rw [hs_id hg], hq, fun e => absurd e (by decide)⟩
  · rcases z with ⟨x, k', z, rfl, hq⟩ | ⟨c, hc, he, -, -⟩
    · cases z
      refine r_i2l (pc := 7) dL_setLevel_7 ?_
      refine r_lastore (n := 1) (f := w) (pc := 8) dL_setLevel_8 ((EHp_out (by omega)).trans hg) (vin_n (k := 0) rfl (by decide) (by decide)) ?_
      rw [show Int32.toNatClampNeg 0 = 0 from by decide, EHp_hs]
      refine r_goto 15 (pc := 9) dL_setLevel_9 (by decide) ?_
      refine r_iconst (v := 0) (pc := 15) dL_setLevel_15 rfl ?_
      exact r_ireturn (S := []) (pc := 16) dL_setLevel_16 rfl rfl ⟨0, x, k', vp_updL w 0 x.toInt64, rfl, by decide, rfl, hq, fun _ => updL_0⟩
    · cases he
theorem w_setFlow {om : OM} {l : Launch} {k : GS} {r : RS} {Q : Nat → Int32 → GS → Prop} (hl : l.stackTraces = false) (x0 : Int32) (q1 : ∀ (g : Hp) (B : Nat × Nat), 1 ≤ B.1 ∧ 6 ≤ B.2 → Runs om l M_X10_setFlow B 0 (entL (mi_ml M_X10_setFlow) (.ref 0 :: [.int x0])) [] (EHp g k r) (CPo [1] exI g k r Q)) {g : Hp} {w : Nat → Int64} (hg : g.1 125 = LA w) (hf : g.2.2 = false) {B : Nat × Nat} (hB : 1 ≤ B.1 ∧ 6 ≤ B.2) : Runs om l M_L_setFlow B 0 (entL 4 [.ref 0, .int x0, .ref 125]) [] (EHp g k r) (WP g r Q) := by
  show Runs om l M_L_setFlow B 0 [some (.ref 0), some (.int x0), some (.ref 125), none] [] _ _
  obtain ⟨ns, cnt, h0⟩ := EHp_0 (g := g) (k := k) (r := r)
  refine r_aload_n (pc := 0) dL_setFlow_0 rfl rfl ?_
  refine r_iconst (v := 0) (pc := 1) dL_setFlow_1 rfl ?_
  refine r_aload_n (pc := 2) dL_setFlow_2 rfl rfl ?_
  refine r_iload_n (pc := 3) dL_setFlow_3 rfl rfl ?_
  refine r_callVX (vs := [.int _]) (pc := 4) 1 6 (ci := 8) (T := TX10) (N := 6) dL_setFlow_4 rfl l_RL_18 rfl ⟨by decide, by decide⟩ rfl (Nat.le_of_ble_eq_true rfl) hl h0 rfl hB.1 hB.2 (Nat.le_of_ble_eq_true rfl) (q1 g (1, 6) ⟨Nat.le_refl _, Nat.le_refl _⟩) (fun o h1 z hc => ?_) (fun E h1 z => ?_) (fun o h1 z => ?_)
  · rcases z with ⟨x, k', -, rfl, -⟩ | ⟨c, -, -, rfl, -⟩
    · rw [EHp_2, hf] at hc; cases hc
    · cases hc
  · rcases z with ⟨x, k', z, -, -⟩ | ⟨c, hc, he, rfl, hq⟩
    · cases z
    · rw [EHp_f hf]
      rw [List.mem_singleton.mp hc] at he hq
      cases he
      refine ⟨_, _, _, ca_L_setFlow_IllegalArgumentException, ?_⟩
      refine r_iconst (v := 1) (pc := 13) dL_setFlow_13 rfl ?_
      exact r_ireturn (S := []) (pc := 14) dL_setFlow_14 rfl rfl ⟨1, 0, k, w, rfl, by decide, by rw [hs_id hg], hq, fun e => absurd e (by decide)⟩
  · rcases z with ⟨x, k', z, rfl, hq⟩ | ⟨c, hc, he, -, -⟩
    · cases z
      refine r_i2l (pc := 7) dL_setFlow_7 ?_
      refine r_lastore (n := 1) (f := w) (pc := 8) dL_setFlow_8 ((EHp_out (by omega)).trans hg) (vin_n (k := 0) rfl (by decide) (by decide)) ?_
      rw [show Int32.toNatClampNeg 0 = 0 from by decide, EHp_hs]
      refine r_goto 15 (pc := 9) dL_setFlow_9 (by decide) ?_
      refine r_iconst (v := 0) (pc := 15) dL_setFlow_15 rfl ?_
      exact r_ireturn (S := []) (pc := 16) dL_setFlow_16 rfl rfl ⟨0, x, k', vp_updL w 0 x.toInt64, rfl, by decide, rfl, hq, fun _ => updL_0⟩
    · cases he
theorem w_setFoam {om : OM} {l : Launch} {k : GS} {r : RS} {Q : Nat → Int32 → GS → Prop} (hl : l.stackTraces = false) (x0 : Int32) (q1 : ∀ (g : Hp) (B : Nat × Nat), 1 ≤ B.1 ∧ 6 ≤ B.2 → Runs om l M_X10_setFoam B 0 (entL (mi_ml M_X10_setFoam) (.ref 0 :: [.int x0])) [] (EHp g k r) (CPo [1] exI g k r Q)) {g : Hp} {w : Nat → Int64} (hg : g.1 125 = LA w) (hf : g.2.2 = false) {B : Nat × Nat} (hB : 1 ≤ B.1 ∧ 6 ≤ B.2) : Runs om l M_L_setFoam B 0 (entL 4 [.ref 0, .int x0, .ref 125]) [] (EHp g k r) (WP g r Q) := by
  show Runs om l M_L_setFoam B 0 [some (.ref 0), some (.int x0), some (.ref 125), none] [] _ _
  obtain ⟨ns, cnt, h0⟩ := EHp_0 (g := g) (k := k) (r := r)
  refine r_aload_n (pc := 0) dL_setFoam_0 rfl rfl ?_
  refine r_iconst (v := 0) (pc := 1) dL_setFoam_1 rfl ?_
  refine r_aload_n (pc := 2) dL_setFoam_2 rfl rfl ?_
  refine r_iload_n (pc := 3) dL_setFoam_3 rfl rfl ?_
  refine r_callVX (vs := [.int _]) (pc := 4) 1 6 (ci := 8) (T := TX10) (N := 6) dL_setFoam_4 rfl l_RL_21 rfl ⟨by decide, by decide⟩ rfl (Nat.le_of_ble_eq_true rfl) hl h0 rfl hB.1 hB.2 (Nat.le_of_ble_eq_true rfl) (q1 g (1, 6) ⟨Nat.le_refl _, Nat.le_refl _⟩) (fun o h1 z hc => ?_) (fun E h1 z => ?_) (fun o h1 z => ?_)
  · rcases z with ⟨x, k', -, rfl, -⟩ | ⟨c, -, -, rfl, -⟩
    · rw [EHp_2, hf] at hc; cases hc
    · cases hc
  · rcases z with ⟨x, k', z, -, -⟩ | ⟨c, hc, he, rfl, hq⟩
    · cases z
    · rw [EHp_f hf]
      rw [List.mem_singleton.mp hc] at he hq
      cases he
      refine ⟨_, _, _, ca_L_setFoam_IllegalArgumentException, ?_⟩
      refine r_iconst (v := 1) (pc := 13) dL_setFoam_13 rfl ?_
      exact r_ireturn (S := []) (pc := 14) dL_setFoam_14 rfl rfl ⟨1, 0, k, w, rfl, by decide, by rw [hs_id hg], hq, fun e => absurd e (by decide)⟩
  · rcases z with ⟨x, k', z, rfl, hq⟩ | ⟨c, hc, he, -, -⟩
    · cases z
      refine r_i2l (pc := 7) dL_setFoam_7 ?_
      refine r_lastore (n := 1) (f := w) (pc := 8) dL_setFoam_8 ((EHp_out (by omega)).trans hg) (vin_n (k := 0) rfl (by decide) (by decide)) ?_
      rw [show Int32.toNatClampNeg 0 = 0 from by decide, EHp_hs]
      refine r_goto 15 (pc := 9) dL_setFoam_9 (by decide) ?_
      refine r_iconst (v := 0) (pc := 15) dL_setFoam_15 rfl ?_
      exact r_ireturn (S := []) (pc := 16) dL_setFoam_16 rfl rfl ⟨0, x, k', vp_updL w 0 x.toInt64, rfl, by decide, rfl, hq, fun _ => updL_0⟩
    · cases he
theorem w_addThing {om : OM} {l : Launch} {k : GS} {r : RS} {Q : Nat → Int32 → GS → Prop} (hl : l.stackTraces = false) (x0 x1 : Int32) (q1 : ∀ (g : Hp) (B : Nat × Nat), 1 ≤ B.1 ∧ 6 ≤ B.2 → Runs om l M_X10_addThing B 0 (entL (mi_ml M_X10_addThing) (.ref 0 :: [.int x0, .int x1])) [] (EHp g k r) (CPo [1, 2] exIS g k r Q)) {g : Hp} {w : Nat → Int64} (hg : g.1 125 = LA w) (hf : g.2.2 = false) {B : Nat × Nat} (hB : 1 ≤ B.1 ∧ 6 ≤ B.2) : Runs om l M_L_addThing B 0 (entL 5 [.ref 0, .int x0, .int x1, .ref 125]) [] (EHp g k r) (WP g r Q) := by
  show Runs om l M_L_addThing B 0 [some (.ref 0), some (.int x0), some (.int x1), some (.ref 125), none] [] _ _
  obtain ⟨ns, cnt, h0⟩ := EHp_0 (g := g) (k := k) (r := r)
  refine r_aload_n (pc := 0) dL_addThing_0 rfl rfl ?_
  refine r_iconst (v := 0) (pc := 1) dL_addThing_1 rfl ?_
  refine r_aload_n (pc := 2) dL_addThing_2 rfl rfl ?_
  refine r_iload_n (pc := 3) dL_addThing_3 rfl rfl ?_
  refine r_iload_n (pc := 4) dL_addThing_4 rfl rfl ?_
  refine r_callVX (vs := [.int _, .int _]) (pc := 5) 1 6 (ci := 8) (T := TX10) (N := 6) dL_addThing_5 rfl l_RL_24 rfl ⟨by decide, by decide⟩ rfl (Nat.le_of_ble_eq_true rfl) hl h0 rfl hB.1 hB.2 (Nat.le_of_ble_eq_true rfl) (q1 g (1, 6) ⟨Nat.le_refl _, Nat.le_refl _⟩) (fun o h1 z hc => ?_) (fun E h1 z => ?_) (fun o h1 z => ?_)
  · rcases z with ⟨x, k', -, rfl, -⟩ | ⟨c, -, -, rfl, -⟩
    · rw [EHp_2, hf] at hc; cases hc
    · cases hc
  · rcases z with ⟨x, k', z, -, -⟩ | ⟨c, hc, he, rfl, hq⟩
    · cases z
    · rw [EHp_f hf]
      have hc2 : c = 1 ∨ c = 2 := by simpa using hc
      rcases hc2 with rfl | rfl
      · cases he
        refine ⟨_, _, _, ca_L_addThing_IllegalArgumentException, ?_⟩
        refine r_iconst (v := 1) (pc := 15) dL_addThing_15 rfl ?_
        exact r_ireturn (S := []) (pc := 16) dL_addThing_16 rfl rfl ⟨1, 0, k, w, rfl, by decide, by rw [hs_id hg], hq, fun e => absurd e (by decide)⟩
      · cases he
        refine ⟨_, _, _, ca_L_addThing_IllegalStateException, ?_⟩
        refine r_iconst (v := 2) (pc := 19) dL_addThing_19 rfl ?_
        exact r_ireturn (S := []) (pc := 20) dL_addThing_20 rfl rfl ⟨2, 0, k, w, rfl, by decide, by rw [hs_id hg], hq, fun e => absurd e (by decide)⟩
  · rcases z with ⟨x, k', z, rfl, hq⟩ | ⟨c, hc, he, -, -⟩
    · cases z
      refine r_i2l (pc := 8) dL_addThing_8 ?_
      refine r_lastore (n := 1) (f := w) (pc := 9) dL_addThing_9 ((EHp_out (by omega)).trans hg) (vin_n (k := 0) rfl (by decide) (by decide)) ?_
      rw [show Int32.toNatClampNeg 0 = 0 from by decide, EHp_hs]
      refine r_goto 21 (pc := 10) dL_addThing_10 (by decide) ?_
      refine r_iconst (v := 0) (pc := 21) dL_addThing_21 rfl ?_
      exact r_ireturn (S := []) (pc := 22) dL_addThing_22 rfl rfl ⟨0, x, k', vp_updL w 0 x.toInt64, rfl, by decide, rfl, hq, fun _ => updL_0⟩
    · cases he
theorem w_removeThing {om : OM} {l : Launch} {k : GS} {r : RS} {Q : Nat → Int32 → GS → Prop} (hl : l.stackTraces = false) (x0 : Int32) (q1 : ∀ (g : Hp) (B : Nat × Nat), 1 ≤ B.1 ∧ 6 ≤ B.2 → Runs om l M_X10_removeThing B 0 (entL (mi_ml M_X10_removeThing) (.ref 0 :: [.int x0])) [] (EHp g k r) (CPo [1] exO g k r Q)) {g : Hp} {w : Nat → Int64} (hg : g.1 125 = LA w) (hf : g.2.2 = false) {B : Nat × Nat} (hB : 1 ≤ B.1 ∧ 6 ≤ B.2) : Runs om l M_L_removeThing B 0 (entL 4 [.ref 0, .int x0, .ref 125]) [] (EHp g k r) (WP g r Q) := by
  show Runs om l M_L_removeThing B 0 [some (.ref 0), some (.int x0), some (.ref 125), none] [] _ _
  obtain ⟨ns, cnt, h0⟩ := EHp_0 (g := g) (k := k) (r := r)
  refine r_aload_n (pc := 0) dL_removeThing_0 rfl rfl ?_
  refine r_iconst (v := 0) (pc := 1) dL_removeThing_1 rfl ?_
  refine r_aload_n (pc := 2) dL_removeThing_2 rfl rfl ?_
  refine r_iload_n (pc := 3) dL_removeThing_3 rfl rfl ?_
  refine r_callVX (vs := [.int _]) (pc := 4) 1 6 (ci := 8) (T := TX10) (N := 6) dL_removeThing_4 rfl l_RL_30 rfl ⟨by decide, by decide⟩ rfl (Nat.le_of_ble_eq_true rfl) hl h0 rfl hB.1 hB.2 (Nat.le_of_ble_eq_true rfl) (q1 g (1, 6) ⟨Nat.le_refl _, Nat.le_refl _⟩) (fun o h1 z hc => ?_) (fun E h1 z => ?_) (fun o h1 z => ?_)
  · rcases z with ⟨x, k', -, rfl, -⟩ | ⟨c, -, -, rfl, -⟩
    · rw [EHp_2, hf] at hc; cases hc
    · cases hc
  · rcases z with ⟨x, k', z, -, -⟩ | ⟨c, hc, he, rfl, hq⟩
    · cases z
    · rw [EHp_f hf]
      rw [List.mem_singleton.mp hc] at he hq
      cases he
      refine ⟨_, _, _, ca_L_removeThing_IndexOutOfBoundsException, ?_⟩
      refine r_iconst (v := 1) (pc := 13) dL_removeThing_13 rfl ?_
      exact r_ireturn (S := []) (pc := 14) dL_removeThing_14 rfl rfl ⟨1, 0, k, w, rfl, by decide, by rw [hs_id hg], hq, fun e => absurd e (by decide)⟩
  · rcases z with ⟨x, k', z, rfl, hq⟩ | ⟨c, hc, he, -, -⟩
    · cases z
      refine r_i2l (pc := 7) dL_removeThing_7 ?_
      refine r_lastore (n := 1) (f := w) (pc := 8) dL_removeThing_8 ((EHp_out (by omega)).trans hg) (vin_n (k := 0) rfl (by decide) (by decide)) ?_
      rw [show Int32.toNatClampNeg 0 = 0 from by decide, EHp_hs]
      refine r_goto 15 (pc := 9) dL_removeThing_9 (by decide) ?_
      refine r_iconst (v := 0) (pc := 15) dL_removeThing_15 rfl ?_
      exact r_ireturn (S := []) (pc := 16) dL_removeThing_16 rfl rfl ⟨0, x, k', vp_updL w 0 x.toInt64, rfl, by decide, rfl, hq, fun _ => updL_0⟩
    · cases he
theorem w_setStirrer {om : OM} {l : Launch} {k : GS} {r : RS} {Q : Nat → Int32 → GS → Prop} (hl : l.stackTraces = false) (x0 x1 x2 x3 x4 : Int32) (q1 : ∀ (g : Hp) (B : Nat × Nat), 1 ≤ B.1 ∧ 6 ≤ B.2 → Runs om l M_X10_setStirrer B 0 (entL (mi_ml M_X10_setStirrer) (.ref 0 :: [.int x0, .int x1, .int x2, .int x3, .int x4])) [] (EHp g k r) (CPo [1] exI g k r Q)) {g : Hp} {w : Nat → Int64} (hg : g.1 125 = LA w) (hf : g.2.2 = false) {B : Nat × Nat} (hB : 1 ≤ B.1 ∧ 6 ≤ B.2) : Runs om l M_L_setStirrer B 0 (entL 8 [.ref 0, .int x0, .int x1, .int x2, .int x3, .int x4, .ref 125]) [] (EHp g k r) (WP g r Q) := by
  show Runs om l M_L_setStirrer B 0 [some (.ref 0), some (.int x0), some (.int x1), some (.int x2), some (.int x3), some (.int x4), some (.ref 125), none] [] _ _
  obtain ⟨ns, cnt, h0⟩ := EHp_0 (g := g) (k := k) (r := r)
  refine r_aload (pc := 0) dL_setStirrer_0 rfl ?_
  refine r_iconst (v := 0) (pc := 2) dL_setStirrer_2 rfl ?_
  refine r_aload_n (pc := 3) dL_setStirrer_3 rfl rfl ?_
  refine r_iload_n (pc := 4) dL_setStirrer_4 rfl rfl ?_
  refine r_iload_n (pc := 5) dL_setStirrer_5 rfl rfl ?_
  refine r_iload_n (pc := 6) dL_setStirrer_6 rfl rfl ?_
  refine r_iload (pc := 7) dL_setStirrer_7 rfl ?_
  refine r_iload (pc := 9) dL_setStirrer_9 rfl ?_
  refine r_callVX (vs := [.int _, .int _, .int _, .int _, .int _]) (pc := 11) 1 6 (ci := 8) (T := TX10) (N := 6) dL_setStirrer_11 rfl l_RL_35 rfl ⟨by decide, by decide⟩ rfl (Nat.le_of_ble_eq_true rfl) hl h0 rfl hB.1 hB.2 (Nat.le_of_ble_eq_true rfl) (q1 g (1, 6) ⟨Nat.le_refl _, Nat.le_refl _⟩) (fun o h1 z hc => ?_) (fun E h1 z => ?_) (fun o h1 z => ?_)
  · rcases z with ⟨x, k', -, rfl, -⟩ | ⟨c, -, -, rfl, -⟩
    · rw [EHp_2, hf] at hc; cases hc
    · cases hc
  · rcases z with ⟨x, k', z, -, -⟩ | ⟨c, hc, he, rfl, hq⟩
    · cases z
    · rw [EHp_f hf]
      rw [List.mem_singleton.mp hc] at he hq
      cases he
      refine ⟨_, _, _, ca_L_setStirrer_IllegalArgumentException, ?_⟩
      refine r_iconst (v := 1) (pc := 21) dL_setStirrer_21 rfl ?_
      exact r_ireturn (S := []) (pc := 22) dL_setStirrer_22 rfl rfl ⟨1, 0, k, w, rfl, by decide, by rw [hs_id hg], hq, fun e => absurd e (by decide)⟩
  · rcases z with ⟨x, k', z, rfl, hq⟩ | ⟨c, hc, he, -, -⟩
    · cases z
      refine r_i2l (pc := 14) dL_setStirrer_14 ?_
      refine r_lastore (n := 1) (f := w) (pc := 15) dL_setStirrer_15 ((EHp_out (by omega)).trans hg) (vin_n (k := 0) rfl (by decide) (by decide)) ?_
      rw [show Int32.toNatClampNeg 0 = 0 from by decide, EHp_hs]
      refine r_goto 23 (pc := 16) dL_setStirrer_16 (by decide) ?_
      refine r_iconst (v := 0) (pc := 23) dL_setStirrer_23 rfl ?_
      exact r_ireturn (S := []) (pc := 24) dL_setStirrer_24 rfl rfl ⟨0, x, k', vp_updL w 0 x.toInt64, rfl, by decide, rfl, hq, fun _ => updL_0⟩
    · cases he
theorem w_set {om : OM} {l : Launch} {k : GS} {r : RS} {Q : Nat → Int32 → GS → Prop} (hl : l.stackTraces = false) (x0 x1 : Int32) (q1 : ∀ (g : Hp) (B : Nat × Nat), 1 ≤ B.1 ∧ 6 ≤ B.2 → Runs om l M_X10_set B 0 (entL (mi_ml M_X10_set) (.ref 0 :: [.int x0, .int x1])) [] (EHp g k r) (CPo [1] exI g k r Q)) {g : Hp} {w : Nat → Int64} (hg : g.1 125 = LA w) (hf : g.2.2 = false) {B : Nat × Nat} (hB : 1 ≤ B.1 ∧ 6 ≤ B.2) : Runs om l M_L_set B 0 (entL 5 [.ref 0, .int x0, .int x1, .ref 125]) [] (EHp g k r) (WP g r Q) := by
  show Runs om l M_L_set B 0 [some (.ref 0), some (.int x0), some (.int x1), some (.ref 125), none] [] _ _
  obtain ⟨ns, cnt, h0⟩ := EHp_0 (g := g) (k := k) (r := r)
  refine r_aload_n (pc := 0) dL_set_0 rfl rfl ?_
  refine r_iconst (v := 0) (pc := 1) dL_set_1 rfl ?_
  refine r_aload_n (pc := 2) dL_set_2 rfl rfl ?_
  refine r_iload_n (pc := 3) dL_set_3 rfl rfl ?_
  refine r_iload_n (pc := 4) dL_set_4 rfl rfl ?_
  refine r_callVX (vs := [.int _, .int _]) (pc := 5) 1 6 (ci := 8) (T := TX10) (N := 6) dL_set_5 rfl l_RL_39 rfl ⟨by decide, by decide⟩ rfl (Nat.le_of_ble_eq_true rfl) hl h0 rfl hB.1 hB.2 (Nat.le_of_ble_eq_true rfl) (q1 g (1, 6) ⟨Nat.le_refl _, Nat.le_refl _⟩) (fun o h1 z hc => ?_) (fun E h1 z => ?_) (fun o h1 z => ?_)
  · rcases z with ⟨x, k', -, rfl, -⟩ | ⟨c, -, -, rfl, -⟩
    · rw [EHp_2, hf] at hc; cases hc
    · cases hc
  · rcases z with ⟨x, k', z, -, -⟩ | ⟨c, hc, he, rfl, hq⟩
    · cases z
    · rw [EHp_f hf]
      rw [List.mem_singleton.mp hc] at he hq
      cases he
      refine ⟨_, _, _, ca_L_set_IllegalArgumentException, ?_⟩
      refine r_iconst (v := 1) (pc := 15) dL_set_15 rfl ?_
      exact r_ireturn (S := []) (pc := 16) dL_set_16 rfl rfl ⟨1, 0, k, w, rfl, by decide, by rw [hs_id hg], hq, fun e => absurd e (by decide)⟩
  · rcases z with ⟨x, k', z, rfl, hq⟩ | ⟨c, hc, he, -, -⟩
    · cases z
      refine r_i2l (pc := 8) dL_set_8 ?_
      refine r_lastore (n := 1) (f := w) (pc := 9) dL_set_9 ((EHp_out (by omega)).trans hg) (vin_n (k := 0) rfl (by decide) (by decide)) ?_
      rw [show Int32.toNatClampNeg 0 = 0 from by decide, EHp_hs]
      refine r_goto 17 (pc := 10) dL_set_10 (by decide) ?_
      refine r_iconst (v := 0) (pc := 17) dL_set_17 rfl ?_
      exact r_ireturn (S := []) (pc := 18) dL_set_18 rfl rfl ⟨0, x, k', vp_updL w 0 x.toInt64, rfl, by decide, rfl, hq, fun _ => updL_0⟩
    · cases he
theorem w_setS {om : OM} {l : Launch} {k : GS} {r : RS} {Q : Nat → Int32 → GS → Prop} (hl : l.stackTraces = false) (x0 : Int32) (q1 : ∀ (g : Hp) (B : Nat × Nat), 1 ≤ B.1 ∧ 6 ≤ B.2 → Runs om l M_X10_setS B 0 (entL (mi_ml M_X10_setS) (.ref 0 :: [.int x0])) [] (EHp g k r) (CPo [1] exI g k r Q)) {g : Hp} {w : Nat → Int64} (hg : g.1 125 = LA w) (hf : g.2.2 = false) {B : Nat × Nat} (hB : 1 ≤ B.1 ∧ 6 ≤ B.2) : Runs om l M_L_setS B 0 (entL 4 [.ref 0, .int x0, .ref 125]) [] (EHp g k r) (WP g r Q) := by
  show Runs om l M_L_setS B 0 [some (.ref 0), some (.int x0), some (.ref 125), none] [] _ _
  obtain ⟨ns, cnt, h0⟩ := EHp_0 (g := g) (k := k) (r := r)
  refine r_aload_n (pc := 0) dL_setS_0 rfl rfl ?_
  refine r_iconst (v := 0) (pc := 1) dL_setS_1 rfl ?_
  refine r_aload_n (pc := 2) dL_setS_2 rfl rfl ?_
  refine r_iload_n (pc := 3) dL_setS_3 rfl rfl ?_
  refine r_callVX (vs := [.int _]) (pc := 4) 1 6 (ci := 8) (T := TX10) (N := 6) dL_setS_4 rfl l_RL_42 rfl ⟨by decide, by decide⟩ rfl (Nat.le_of_ble_eq_true rfl) hl h0 rfl hB.1 hB.2 (Nat.le_of_ble_eq_true rfl) (q1 g (1, 6) ⟨Nat.le_refl _, Nat.le_refl _⟩) (fun o h1 z hc => ?_) (fun E h1 z => ?_) (fun o h1 z => ?_)
  · rcases z with ⟨x, k', -, rfl, -⟩ | ⟨c, -, -, rfl, -⟩
    · rw [EHp_2, hf] at hc; cases hc
    · cases hc
  · rcases z with ⟨x, k', z, -, -⟩ | ⟨c, hc, he, rfl, hq⟩
    · cases z
    · rw [EHp_f hf]
      rw [List.mem_singleton.mp hc] at he hq
      cases he
      refine ⟨_, _, _, ca_L_setS_IllegalArgumentException, ?_⟩
      refine r_iconst (v := 1) (pc := 13) dL_setS_13 rfl ?_
      exact r_ireturn (S := []) (pc := 14) dL_setS_14 rfl rfl ⟨1, 0, k, w, rfl, by decide, by rw [hs_id hg], hq, fun e => absurd e (by decide)⟩
  · rcases z with ⟨x, k', z, rfl, hq⟩ | ⟨c, hc, he, -, -⟩
    · cases z
      refine r_i2l (pc := 7) dL_setS_7 ?_
      refine r_lastore (n := 1) (f := w) (pc := 8) dL_setS_8 ((EHp_out (by omega)).trans hg) (vin_n (k := 0) rfl (by decide) (by decide)) ?_
      rw [show Int32.toNatClampNeg 0 = 0 from by decide, EHp_hs]
      refine r_goto 15 (pc := 9) dL_setS_9 (by decide) ?_
      refine r_iconst (v := 0) (pc := 15) dL_setS_15 rfl ?_
      exact r_ireturn (S := []) (pc := 16) dL_setS_16 rfl rfl ⟨0, x, k', vp_updL w 0 x.toInt64, rfl, by decide, rfl, hq, fun _ => updL_0⟩
    · cases he
theorem w_mask {om : OM} {l : Launch} {k : GS} {r : RS} {Q : Nat → Int32 → GS → Prop} (hl : l.stackTraces = false) (x0 x1 : Int32) (q1 : ∀ (g : Hp) (B : Nat × Nat), 1 ≤ B.1 ∧ 6 ≤ B.2 → Runs om l M_X10_mask B 0 (entL (mi_ml M_X10_mask) (.ref 0 :: [.int x0, .int x1])) [] (EHp g k r) (CPo [1] exI g k r Q)) {g : Hp} {w : Nat → Int64} (hg : g.1 125 = LA w) (hf : g.2.2 = false) {B : Nat × Nat} (hB : 1 ≤ B.1 ∧ 6 ≤ B.2) : Runs om l M_L_mask B 0 (entL 5 [.ref 0, .int x0, .int x1, .ref 125]) [] (EHp g k r) (WP g r Q) := by
  show Runs om l M_L_mask B 0 [some (.ref 0), some (.int x0), some (.int x1), some (.ref 125), none] [] _ _
  obtain ⟨ns, cnt, h0⟩ := EHp_0 (g := g) (k := k) (r := r)
  refine r_aload_n (pc := 0) dL_mask_0 rfl rfl ?_
  refine r_iconst (v := 0) (pc := 1) dL_mask_1 rfl ?_
  refine r_aload_n (pc := 2) dL_mask_2 rfl rfl ?_
  refine r_iload_n (pc := 3) dL_mask_3 rfl rfl ?_
  refine r_iload_n (pc := 4) dL_mask_4 rfl rfl ?_
  refine r_callVX (vs := [.int _, .int _]) (pc := 5) 1 6 (ci := 8) (T := TX10) (N := 6) dL_mask_5 rfl l_RL_45 rfl ⟨by decide, by decide⟩ rfl (Nat.le_of_ble_eq_true rfl) hl h0 rfl hB.1 hB.2 (Nat.le_of_ble_eq_true rfl) (q1 g (1, 6) ⟨Nat.le_refl _, Nat.le_refl _⟩) (fun o h1 z hc => ?_) (fun E h1 z => ?_) (fun o h1 z => ?_)
  · rcases z with ⟨x, k', -, rfl, -⟩ | ⟨c, -, -, rfl, -⟩
    · rw [EHp_2, hf] at hc; cases hc
    · cases hc
  · rcases z with ⟨x, k', z, -, -⟩ | ⟨c, hc, he, rfl, hq⟩
    · cases z
    · rw [EHp_f hf]
      rw [List.mem_singleton.mp hc] at he hq
      cases he
      refine ⟨_, _, _, ca_L_mask_IllegalArgumentException, ?_⟩
      refine r_iconst (v := 1) (pc := 15) dL_mask_15 rfl ?_
      exact r_ireturn (S := []) (pc := 16) dL_mask_16 rfl rfl ⟨1, 0, k, w, rfl, by decide, by rw [hs_id hg], hq, fun e => absurd e (by decide)⟩
  · rcases z with ⟨x, k', z, rfl, hq⟩ | ⟨c, hc, he, -, -⟩
    · cases z
      refine r_i2l (pc := 8) dL_mask_8 ?_
      refine r_lastore (n := 1) (f := w) (pc := 9) dL_mask_9 ((EHp_out (by omega)).trans hg) (vin_n (k := 0) rfl (by decide) (by decide)) ?_
      rw [show Int32.toNatClampNeg 0 = 0 from by decide, EHp_hs]
      refine r_goto 17 (pc := 10) dL_mask_10 (by decide) ?_
      refine r_iconst (v := 0) (pc := 17) dL_mask_17 rfl ?_
      exact r_ireturn (S := []) (pc := 18) dL_mask_18 rfl rfl ⟨0, x, k', vp_updL w 0 x.toInt64, rfl, by decide, rfl, hq, fun _ => updL_0⟩
    · cases he
theorem w_learn {om : OM} {l : Launch} {k : GS} {r : RS} {Q : Nat → Int32 → GS → Prop} (hl : l.stackTraces = false) (x0 : Int32) (q1 : ∀ (g : Hp) (B : Nat × Nat), 1 ≤ B.1 ∧ 6 ≤ B.2 → Runs om l M_X10_learn B 0 (entL (mi_ml M_X10_learn) (.ref 0 :: [.int x0])) [] (EHp g k r) (CPo [1] exI g k r Q)) {g : Hp} {w : Nat → Int64} (hg : g.1 125 = LA w) (hf : g.2.2 = false) {B : Nat × Nat} (hB : 1 ≤ B.1 ∧ 6 ≤ B.2) : Runs om l M_L_learn B 0 (entL 4 [.ref 0, .int x0, .ref 125]) [] (EHp g k r) (WP g r Q) := by
  show Runs om l M_L_learn B 0 [some (.ref 0), some (.int x0), some (.ref 125), none] [] _ _
  obtain ⟨ns, cnt, h0⟩ := EHp_0 (g := g) (k := k) (r := r)
  refine r_aload_n (pc := 0) dL_learn_0 rfl rfl ?_
  refine r_iconst (v := 0) (pc := 1) dL_learn_1 rfl ?_
  refine r_aload_n (pc := 2) dL_learn_2 rfl rfl ?_
  refine r_iload_n (pc := 3) dL_learn_3 rfl rfl ?_
  refine r_callVX (vs := [.int _]) (pc := 4) 1 6 (ci := 8) (T := TX10) (N := 6) dL_learn_4 rfl l_RL_49 rfl ⟨by decide, by decide⟩ rfl (Nat.le_of_ble_eq_true rfl) hl h0 rfl hB.1 hB.2 (Nat.le_of_ble_eq_true rfl) (q1 g (1, 6) ⟨Nat.le_refl _, Nat.le_refl _⟩) (fun o h1 z hc => ?_) (fun E h1 z => ?_) (fun o h1 z => ?_)
  · rcases z with ⟨x, k', -, rfl, -⟩ | ⟨c, -, -, rfl, -⟩
    · rw [EHp_2, hf] at hc; cases hc
    · cases hc
  · rcases z with ⟨x, k', z, -, -⟩ | ⟨c, hc, he, rfl, hq⟩
    · cases z
    · rw [EHp_f hf]
      rw [List.mem_singleton.mp hc] at he hq
      cases he
      refine ⟨_, _, _, ca_L_learn_IllegalArgumentException, ?_⟩
      refine r_iconst (v := 1) (pc := 13) dL_learn_13 rfl ?_
      exact r_ireturn (S := []) (pc := 14) dL_learn_14 rfl rfl ⟨1, 0, k, w, rfl, by decide, by rw [hs_id hg], hq, fun e => absurd e (by decide)⟩
  · rcases z with ⟨x, k', z, rfl, hq⟩ | ⟨c, hc, he, -, -⟩
    · cases z
      refine r_i2l (pc := 7) dL_learn_7 ?_
      refine r_lastore (n := 1) (f := w) (pc := 8) dL_learn_8 ((EHp_out (by omega)).trans hg) (vin_n (k := 0) rfl (by decide) (by decide)) ?_
      rw [show Int32.toNatClampNeg 0 = 0 from by decide, EHp_hs]
      refine r_goto 15 (pc := 9) dL_learn_9 (by decide) ?_
      refine r_iconst (v := 0) (pc := 15) dL_learn_15 rfl ?_
      exact r_ireturn (S := []) (pc := 16) dL_learn_16 rfl rfl ⟨0, x, k', vp_updL w 0 x.toInt64, rfl, by decide, rfl, hq, fun _ => updL_0⟩
    · cases he
theorem w_shoot {om : OM} {l : Launch} {k : GS} {r : RS} {Q : Nat → Int32 → GS → Prop} (hl : l.stackTraces = false) (x0 : Int32) (q1 : ∀ (g : Hp) (B : Nat × Nat), 1 ≤ B.1 ∧ 6 ≤ B.2 → Runs om l M_X10_shoot B 0 (entL (mi_ml M_X10_shoot) (.ref 0 :: [.int x0])) [] (EHp g k r) (CPo [1] exI g k r Q)) {g : Hp} {w : Nat → Int64} (hg : g.1 125 = LA w) (hf : g.2.2 = false) {B : Nat × Nat} (hB : 1 ≤ B.1 ∧ 6 ≤ B.2) : Runs om l M_L_shoot B 0 (entL 4 [.ref 0, .int x0, .ref 125]) [] (EHp g k r) (WP g r Q) := by
  show Runs om l M_L_shoot B 0 [some (.ref 0), some (.int x0), some (.ref 125), none] [] _ _
  obtain ⟨ns, cnt, h0⟩ := EHp_0 (g := g) (k := k) (r := r)
  refine r_aload_n (pc := 0) dL_shoot_0 rfl rfl ?_
  refine r_iconst (v := 0) (pc := 1) dL_shoot_1 rfl ?_
  refine r_aload_n (pc := 2) dL_shoot_2 rfl rfl ?_
  refine r_iload_n (pc := 3) dL_shoot_3 rfl rfl ?_
  refine r_callVX (vs := [.int _]) (pc := 4) 1 6 (ci := 8) (T := TX10) (N := 6) dL_shoot_4 rfl l_RL_52 rfl ⟨by decide, by decide⟩ rfl (Nat.le_of_ble_eq_true rfl) hl h0 rfl hB.1 hB.2 (Nat.le_of_ble_eq_true rfl) (q1 g (1, 6) ⟨Nat.le_refl _, Nat.le_refl _⟩) (fun o h1 z hc => ?_) (fun E h1 z => ?_) (fun o h1 z => ?_)
  · rcases z with ⟨x, k', -, rfl, -⟩ | ⟨c, -, -, rfl, -⟩
    · rw [EHp_2, hf] at hc; cases hc
    · cases hc
  · rcases z with ⟨x, k', z, -, -⟩ | ⟨c, hc, he, rfl, hq⟩
    · cases z
    · rw [EHp_f hf]
      rw [List.mem_singleton.mp hc] at he hq
      cases he
      refine ⟨_, _, _, ca_L_shoot_IllegalArgumentException, ?_⟩
      refine r_iconst (v := 1) (pc := 13) dL_shoot_13 rfl ?_
      exact r_ireturn (S := []) (pc := 14) dL_shoot_14 rfl rfl ⟨1, 0, k, w, rfl, by decide, by rw [hs_id hg], hq, fun e => absurd e (by decide)⟩
  · rcases z with ⟨x, k', z, rfl, hq⟩ | ⟨c, hc, he, -, -⟩
    · cases z
      refine r_i2l (pc := 7) dL_shoot_7 ?_
      refine r_lastore (n := 1) (f := w) (pc := 8) dL_shoot_8 ((EHp_out (by omega)).trans hg) (vin_n (k := 0) rfl (by decide) (by decide)) ?_
      rw [show Int32.toNatClampNeg 0 = 0 from by decide, EHp_hs]
      refine r_goto 15 (pc := 9) dL_shoot_9 (by decide) ?_
      refine r_iconst (v := 0) (pc := 15) dL_shoot_15 rfl ?_
      exact r_ireturn (S := []) (pc := 16) dL_shoot_16 rfl rfl ⟨0, x, k', vp_updL w 0 x.toInt64, rfl, by decide, rfl, hq, fun _ => updL_0⟩
    · cases he
theorem w_echo {om : OM} {l : Launch} {k : GS} {r : RS} {Q : Nat → Int32 → GS → Prop} (hl : l.stackTraces = false) (x0 x1 : Int32) (q1 : ∀ (g : Hp) (B : Nat × Nat), 1 ≤ B.1 ∧ 6 ≤ B.2 → Runs om l M_X10_echo B 0 (entL (mi_ml M_X10_echo) (.ref 0 :: [.int x0, .int x1])) [] (EHp g k r) (CPo [1] exI g k r Q)) {g : Hp} {w : Nat → Int64} (hg : g.1 125 = LA w) (hf : g.2.2 = false) {B : Nat × Nat} (hB : 1 ≤ B.1 ∧ 6 ≤ B.2) : Runs om l M_L_echo B 0 (entL 5 [.ref 0, .int x0, .int x1, .ref 125]) [] (EHp g k r) (WP g r Q) := by
  show Runs om l M_L_echo B 0 [some (.ref 0), some (.int x0), some (.int x1), some (.ref 125), none] [] _ _
  obtain ⟨ns, cnt, h0⟩ := EHp_0 (g := g) (k := k) (r := r)
  refine r_aload_n (pc := 0) dL_echo_0 rfl rfl ?_
  refine r_iconst (v := 0) (pc := 1) dL_echo_1 rfl ?_
  refine r_aload_n (pc := 2) dL_echo_2 rfl rfl ?_
  refine r_iload_n (pc := 3) dL_echo_3 rfl rfl ?_
  refine r_iload_n (pc := 4) dL_echo_4 rfl rfl ?_
  refine r_callVX (vs := [.int _, .int _]) (pc := 5) 1 6 (ci := 8) (T := TX10) (N := 6) dL_echo_5 rfl l_RL_55 rfl ⟨by decide, by decide⟩ rfl (Nat.le_of_ble_eq_true rfl) hl h0 rfl hB.1 hB.2 (Nat.le_of_ble_eq_true rfl) (q1 g (1, 6) ⟨Nat.le_refl _, Nat.le_refl _⟩) (fun o h1 z hc => ?_) (fun E h1 z => ?_) (fun o h1 z => ?_)
  · rcases z with ⟨x, k', -, rfl, -⟩ | ⟨c, -, -, rfl, -⟩
    · rw [EHp_2, hf] at hc; cases hc
    · cases hc
  · rcases z with ⟨x, k', z, -, -⟩ | ⟨c, hc, he, rfl, hq⟩
    · cases z
    · rw [EHp_f hf]
      rw [List.mem_singleton.mp hc] at he hq
      cases he
      refine ⟨_, _, _, ca_L_echo_IllegalArgumentException, ?_⟩
      refine r_iconst (v := 1) (pc := 15) dL_echo_15 rfl ?_
      exact r_ireturn (S := []) (pc := 16) dL_echo_16 rfl rfl ⟨1, 0, k, w, rfl, by decide, by rw [hs_id hg], hq, fun e => absurd e (by decide)⟩
  · rcases z with ⟨x, k', z, rfl, hq⟩ | ⟨c, hc, he, -, -⟩
    · cases z
      refine r_i2l (pc := 8) dL_echo_8 ?_
      refine r_lastore (n := 1) (f := w) (pc := 9) dL_echo_9 ((EHp_out (by omega)).trans hg) (vin_n (k := 0) rfl (by decide) (by decide)) ?_
      rw [show Int32.toNatClampNeg 0 = 0 from by decide, EHp_hs]
      refine r_goto 17 (pc := 10) dL_echo_10 (by decide) ?_
      refine r_iconst (v := 0) (pc := 17) dL_echo_17 rfl ?_
      exact r_ireturn (S := []) (pc := 18) dL_echo_18 rfl rfl ⟨0, x, k', vp_updL w 0 x.toInt64, rfl, by decide, rfl, hq, fun _ => updL_0⟩
    · cases he
theorem w_pick {om : OM} {l : Launch} {k : GS} {r : RS} {Q : Nat → Int32 → GS → Prop} (hl : l.stackTraces = false) (x0 : Int32) (q1 : ∀ (g : Hp) (B : Nat × Nat), 1 ≤ B.1 ∧ 6 ≤ B.2 → Runs om l M_X10_pick B 0 (entL (mi_ml M_X10_pick) (.ref 0 :: [.int x0])) [] (EHp g k r) (CPo [1] exI g k r Q)) {g : Hp} {w : Nat → Int64} (hg : g.1 125 = LA w) (hf : g.2.2 = false) {B : Nat × Nat} (hB : 1 ≤ B.1 ∧ 6 ≤ B.2) : Runs om l M_L_pick B 0 (entL 4 [.ref 0, .int x0, .ref 125]) [] (EHp g k r) (WP g r Q) := by
  show Runs om l M_L_pick B 0 [some (.ref 0), some (.int x0), some (.ref 125), none] [] _ _
  obtain ⟨ns, cnt, h0⟩ := EHp_0 (g := g) (k := k) (r := r)
  refine r_aload_n (pc := 0) dL_pick_0 rfl rfl ?_
  refine r_iconst (v := 0) (pc := 1) dL_pick_1 rfl ?_
  refine r_aload_n (pc := 2) dL_pick_2 rfl rfl ?_
  refine r_iload_n (pc := 3) dL_pick_3 rfl rfl ?_
  refine r_callVX (vs := [.int _]) (pc := 4) 1 6 (ci := 8) (T := TX10) (N := 6) dL_pick_4 rfl l_RL_58 rfl ⟨by decide, by decide⟩ rfl (Nat.le_of_ble_eq_true rfl) hl h0 rfl hB.1 hB.2 (Nat.le_of_ble_eq_true rfl) (q1 g (1, 6) ⟨Nat.le_refl _, Nat.le_refl _⟩) (fun o h1 z hc => ?_) (fun E h1 z => ?_) (fun o h1 z => ?_)
  · rcases z with ⟨x, k', -, rfl, -⟩ | ⟨c, -, -, rfl, -⟩
    · rw [EHp_2, hf] at hc; cases hc
    · cases hc
  · rcases z with ⟨x, k', z, -, -⟩ | ⟨c, hc, he, rfl, hq⟩
    · cases z
    · rw [EHp_f hf]
      rw [List.mem_singleton.mp hc] at he hq
      cases he
      refine ⟨_, _, _, ca_L_pick_IllegalArgumentException, ?_⟩
      refine r_iconst (v := 1) (pc := 13) dL_pick_13 rfl ?_
      exact r_ireturn (S := []) (pc := 14) dL_pick_14 rfl rfl ⟨1, 0, k, w, rfl, by decide, by rw [hs_id hg], hq, fun e => absurd e (by decide)⟩
  · rcases z with ⟨x, k', z, rfl, hq⟩ | ⟨c, hc, he, -, -⟩
    · cases z
      refine r_i2l (pc := 7) dL_pick_7 ?_
      refine r_lastore (n := 1) (f := w) (pc := 8) dL_pick_8 ((EHp_out (by omega)).trans hg) (vin_n (k := 0) rfl (by decide) (by decide)) ?_
      rw [show Int32.toNatClampNeg 0 = 0 from by decide, EHp_hs]
      refine r_goto 15 (pc := 9) dL_pick_9 (by decide) ?_
      refine r_iconst (v := 0) (pc := 15) dL_pick_15 rfl ?_
      exact r_ireturn (S := []) (pc := 16) dL_pick_16 rfl rfl ⟨0, x, k', vp_updL w 0 x.toInt64, rfl, by decide, rfl, hq, fun _ => updL_0⟩
    · cases he
theorem w_isMasked {om : OM} {l : Launch} {k : GS} {r : RS} {Q : Nat → Int32 → GS → Prop} (hl : l.stackTraces = false) (x0 : Int32) (q1 : ∀ (g : Hp) (B : Nat × Nat), 1 ≤ B.1 ∧ 6 ≤ B.2 → Runs om l M_X10_isMasked B 0 (entL (mi_ml M_X10_isMasked) (.ref 0 :: [.int x0])) [] (EHp g k r) (CPo [1] exI g k r Q)) {g : Hp} {w : Nat → Int64} (hg : g.1 125 = LA w) (hf : g.2.2 = false) {B : Nat × Nat} (hB : 1 ≤ B.1 ∧ 6 ≤ B.2) (h01 : ∀ x k, Q 0 x k → x = 0 ∨ x = 1) : Runs om l M_L_isMasked B 0 (entL 4 [.ref 0, .int x0, .ref 125]) [] (EHp g k r) (WP g r Q) := by
  show Runs om l M_L_isMasked B 0 [some (.ref 0), some (.int x0), some (.ref 125), none] [] _ _
  obtain ⟨ns, cnt, h0⟩ := EHp_0 (g := g) (k := k) (r := r)
  refine r_aload_n (pc := 0) dL_isMasked_0 rfl rfl ?_
  refine r_iconst (v := 0) (pc := 1) dL_isMasked_1 rfl ?_
  refine r_aload_n (pc := 2) dL_isMasked_2 rfl rfl ?_
  refine r_iload_n (pc := 3) dL_isMasked_3 rfl rfl ?_
  refine r_callVX (vs := [.int _]) (pc := 4) 1 6 (ci := 8) (T := TX10) (N := 6) dL_isMasked_4 rfl l_RL_61 rfl ⟨by decide, by decide⟩ rfl (Nat.le_of_ble_eq_true rfl) hl h0 rfl hB.1 hB.2 (Nat.le_of_ble_eq_true rfl) (q1 g (1, 6) ⟨Nat.le_refl _, Nat.le_refl _⟩) (fun o h1 z hc => ?_) (fun E h1 z => ?_) (fun o h1 z => ?_)
  · rcases z with ⟨x, k', -, rfl, -⟩ | ⟨c, -, -, rfl, -⟩
    · rw [EHp_2, hf] at hc; cases hc
    · cases hc
  · rcases z with ⟨x, k', z, -, -⟩ | ⟨c, hc, he, rfl, hq⟩
    · cases z
    · rw [EHp_f hf]
      rw [List.mem_singleton.mp hc] at he hq
      cases he
      refine ⟨_, _, _, ca_L_isMasked_IllegalArgumentException, ?_⟩
      refine r_iconst (v := 1) (pc := 20) dL_isMasked_20 rfl ?_
      exact r_ireturn (S := []) (pc := 21) dL_isMasked_21 rfl rfl ⟨1, 0, k, w, rfl, by decide, by rw [hs_id hg], hq, fun e => absurd e (by decide)⟩
  · rcases z with ⟨x, k', z, rfl, hq⟩ | ⟨c, hc, he, -, -⟩
    · cases z
      refine r_if_eq 14 (pc := 7) dL_isMasked_7 (by decide) (fun c7 => ?_) (fun c7 => ?_)
      · refine r_lconst (v := 0) (pc := 14) dL_isMasked_14 rfl ?_
        refine r_lastore (n := 1) (f := w) (pc := 15) dL_isMasked_15 ((EHp_out (by omega)).trans hg) (vin_n (k := 0) rfl (by decide) (by decide)) ?_
        rw [show Int32.toNatClampNeg 0 = 0 from by decide, EHp_hs]
        refine r_goto 22 (pc := 16) dL_isMasked_16 (by decide) ?_
        refine r_iconst (v := 0) (pc := 22) dL_isMasked_22 rfl ?_
        exact r_ireturn (S := []) (pc := 23) dL_isMasked_23 rfl rfl ⟨0, x, k', vp_updL w 0 0, rfl, by decide, rfl, hq, fun _ => by rw [updL_0, c7]; rfl⟩
      · refine r_lconst (v := 1) (pc := 10) dL_isMasked_10 rfl ?_
        refine r_goto 15 (pc := 11) dL_isMasked_11 (by decide) ?_
        refine r_lastore (n := 1) (f := w) (pc := 15) dL_isMasked_15 ((EHp_out (by omega)).trans hg) (vin_n (k := 0) rfl (by decide) (by decide)) ?_
        rw [show Int32.toNatClampNeg 0 = 0 from by decide, EHp_hs]
        refine r_goto 22 (pc := 16) dL_isMasked_16 (by decide) ?_
        refine r_iconst (v := 0) (pc := 22) dL_isMasked_22 rfl ?_
        exact r_ireturn (S := []) (pc := 23) dL_isMasked_23 rfl rfl ⟨0, x, k', vp_updL w 0 1, rfl, by decide, rfl, hq, fun _ => by rw [updL_0, (h01 x k' hq).resolve_left c7]; rfl⟩
    · cases he
theorem w_need {om : OM} {l : Launch} {k : GS} {r : RS} {Q : Nat → Int32 → GS → Prop} (hl : l.stackTraces = false) (x0 : Int32) (q1 : ∀ (g : Hp) (B : Nat × Nat), 1 ≤ B.1 ∧ 6 ≤ B.2 → Runs om l M_X10_need B 0 (entL (mi_ml M_X10_need) (.ref 0 :: [.int x0])) [] (EHp g k r) (CPo [1] exI g k r Q)) {g : Hp} {w : Nat → Int64} (hg : g.1 125 = LA w) (hf : g.2.2 = false) {B : Nat × Nat} (hB : 1 ≤ B.1 ∧ 6 ≤ B.2) : Runs om l M_L_need B 0 (entL 4 [.ref 0, .int x0, .ref 125]) [] (EHp g k r) (WP g r Q) := by
  show Runs om l M_L_need B 0 [some (.ref 0), some (.int x0), some (.ref 125), none] [] _ _
  obtain ⟨ns, cnt, h0⟩ := EHp_0 (g := g) (k := k) (r := r)
  refine r_aload_n (pc := 0) dL_need_0 rfl rfl ?_
  refine r_iconst (v := 0) (pc := 1) dL_need_1 rfl ?_
  refine r_aload_n (pc := 2) dL_need_2 rfl rfl ?_
  refine r_iload_n (pc := 3) dL_need_3 rfl rfl ?_
  refine r_callVX (vs := [.int _]) (pc := 4) 1 6 (ci := 8) (T := TX10) (N := 6) dL_need_4 rfl l_RL_65 rfl ⟨by decide, by decide⟩ rfl (Nat.le_of_ble_eq_true rfl) hl h0 rfl hB.1 hB.2 (Nat.le_of_ble_eq_true rfl) (q1 g (1, 6) ⟨Nat.le_refl _, Nat.le_refl _⟩) (fun o h1 z hc => ?_) (fun E h1 z => ?_) (fun o h1 z => ?_)
  · rcases z with ⟨x, k', -, rfl, -⟩ | ⟨c, -, -, rfl, -⟩
    · rw [EHp_2, hf] at hc; cases hc
    · cases hc
  · rcases z with ⟨x, k', z, -, -⟩ | ⟨c, hc, he, rfl, hq⟩
    · cases z
    · rw [EHp_f hf]
      rw [List.mem_singleton.mp hc] at he hq
      cases he
      refine ⟨_, _, _, ca_L_need_IllegalArgumentException, ?_⟩
      refine r_iconst (v := 1) (pc := 13) dL_need_13 rfl ?_
      exact r_ireturn (S := []) (pc := 14) dL_need_14 rfl rfl ⟨1, 0, k, w, rfl, by decide, by rw [hs_id hg], hq, fun e => absurd e (by decide)⟩
  · rcases z with ⟨x, k', z, rfl, hq⟩ | ⟨c, hc, he, -, -⟩
    · cases z
      refine r_i2l (pc := 7) dL_need_7 ?_
      refine r_lastore (n := 1) (f := w) (pc := 8) dL_need_8 ((EHp_out (by omega)).trans hg) (vin_n (k := 0) rfl (by decide) (by decide)) ?_
      rw [show Int32.toNatClampNeg 0 = 0 from by decide, EHp_hs]
      refine r_goto 15 (pc := 9) dL_need_9 (by decide) ?_
      refine r_iconst (v := 0) (pc := 15) dL_need_15 rfl ?_
      exact r_ireturn (S := []) (pc := 16) dL_need_16 rfl rfl ⟨0, x, k', vp_updL w 0 x.toInt64, rfl, by decide, rfl, hq, fun _ => updL_0⟩
    · cases he
theorem w_thing {om : OM} {l : Launch} {k : GS} {r : RS} {Q : Nat → Int32 → GS → Prop} (hl : l.stackTraces = false) (x0 x1 : Int32) (q1 : ∀ (g : Hp) (B : Nat × Nat), 1 ≤ B.1 ∧ 6 ≤ B.2 → Runs om l M_X10_thing B 0 (entL (mi_ml M_X10_thing) (.ref 0 :: [.int x0, .int x1])) [] (EHp g k r) (CPo [1, 2] exOI g k r Q)) {g : Hp} {w : Nat → Int64} (hg : g.1 125 = LA w) (hf : g.2.2 = false) {B : Nat × Nat} (hB : 1 ≤ B.1 ∧ 6 ≤ B.2) : Runs om l M_L_thing B 0 (entL 5 [.ref 0, .int x0, .int x1, .ref 125]) [] (EHp g k r) (WP g r Q) := by
  show Runs om l M_L_thing B 0 [some (.ref 0), some (.int x0), some (.int x1), some (.ref 125), none] [] _ _
  obtain ⟨ns, cnt, h0⟩ := EHp_0 (g := g) (k := k) (r := r)
  refine r_aload_n (pc := 0) dL_thing_0 rfl rfl ?_
  refine r_iconst (v := 0) (pc := 1) dL_thing_1 rfl ?_
  refine r_aload_n (pc := 2) dL_thing_2 rfl rfl ?_
  refine r_iload_n (pc := 3) dL_thing_3 rfl rfl ?_
  refine r_iload_n (pc := 4) dL_thing_4 rfl rfl ?_
  refine r_callVX (vs := [.int _, .int _]) (pc := 5) 1 6 (ci := 8) (T := TX10) (N := 6) dL_thing_5 rfl l_RL_68 rfl ⟨by decide, by decide⟩ rfl (Nat.le_of_ble_eq_true rfl) hl h0 rfl hB.1 hB.2 (Nat.le_of_ble_eq_true rfl) (q1 g (1, 6) ⟨Nat.le_refl _, Nat.le_refl _⟩) (fun o h1 z hc => ?_) (fun E h1 z => ?_) (fun o h1 z => ?_)
  · rcases z with ⟨x, k', -, rfl, -⟩ | ⟨c, -, -, rfl, -⟩
    · rw [EHp_2, hf] at hc; cases hc
    · cases hc
  · rcases z with ⟨x, k', z, -, -⟩ | ⟨c, hc, he, rfl, hq⟩
    · cases z
    · rw [EHp_f hf]
      have hc2 : c = 1 ∨ c = 2 := by simpa using hc
      rcases hc2 with rfl | rfl
      · cases he
        refine ⟨_, _, _, ca_L_thing_IndexOutOfBoundsException, ?_⟩
        refine r_iconst (v := 1) (pc := 15) dL_thing_15 rfl ?_
        exact r_ireturn (S := []) (pc := 16) dL_thing_16 rfl rfl ⟨1, 0, k, w, rfl, by decide, by rw [hs_id hg], hq, fun e => absurd e (by decide)⟩
      · cases he
        refine ⟨_, _, _, ca_L_thing_IllegalArgumentException, ?_⟩
        refine r_iconst (v := 2) (pc := 19) dL_thing_19 rfl ?_
        exact r_ireturn (S := []) (pc := 20) dL_thing_20 rfl rfl ⟨2, 0, k, w, rfl, by decide, by rw [hs_id hg], hq, fun e => absurd e (by decide)⟩
  · rcases z with ⟨x, k', z, rfl, hq⟩ | ⟨c, hc, he, -, -⟩
    · cases z
      refine r_i2l (pc := 8) dL_thing_8 ?_
      refine r_lastore (n := 1) (f := w) (pc := 9) dL_thing_9 ((EHp_out (by omega)).trans hg) (vin_n (k := 0) rfl (by decide) (by decide)) ?_
      rw [show Int32.toNatClampNeg 0 = 0 from by decide, EHp_hs]
      refine r_goto 21 (pc := 10) dL_thing_10 (by decide) ?_
      refine r_iconst (v := 0) (pc := 21) dL_thing_21 rfl ?_
      exact r_ireturn (S := []) (pc := 22) dL_thing_22 rfl rfl ⟨0, x, k', vp_updL w 0 x.toInt64, rfl, by decide, rfl, hq, fun _ => updL_0⟩
    · cases he
theorem w_angle {om : OM} {l : Launch} {k : GS} {r : RS} {Q : Nat → Int32 → GS → Prop} (hl : l.stackTraces = false) (x0 : Int32) (q1 : ∀ (g : Hp) (B : Nat × Nat), 1 ≤ B.1 ∧ 6 ≤ B.2 → Runs om l M_X10_angle B 0 (entL (mi_ml M_X10_angle) (.ref 0 :: [.int x0])) [] (EHp g k r) (CPo [1] exO g k r Q)) {g : Hp} {w : Nat → Int64} (hg : g.1 125 = LA w) (hf : g.2.2 = false) {B : Nat × Nat} (hB : 1 ≤ B.1 ∧ 6 ≤ B.2) : Runs om l M_L_angle B 0 (entL 4 [.ref 0, .int x0, .ref 125]) [] (EHp g k r) (WP g r Q) := by
  show Runs om l M_L_angle B 0 [some (.ref 0), some (.int x0), some (.ref 125), none] [] _ _
  obtain ⟨ns, cnt, h0⟩ := EHp_0 (g := g) (k := k) (r := r)
  refine r_aload_n (pc := 0) dL_angle_0 rfl rfl ?_
  refine r_iconst (v := 0) (pc := 1) dL_angle_1 rfl ?_
  refine r_aload_n (pc := 2) dL_angle_2 rfl rfl ?_
  refine r_iload_n (pc := 3) dL_angle_3 rfl rfl ?_
  refine r_callVX (vs := [.int _]) (pc := 4) 1 6 (ci := 8) (T := TX10) (N := 6) dL_angle_4 rfl l_RL_71 rfl ⟨by decide, by decide⟩ rfl (Nat.le_of_ble_eq_true rfl) hl h0 rfl hB.1 hB.2 (Nat.le_of_ble_eq_true rfl) (q1 g (1, 6) ⟨Nat.le_refl _, Nat.le_refl _⟩) (fun o h1 z hc => ?_) (fun E h1 z => ?_) (fun o h1 z => ?_)
  · rcases z with ⟨x, k', -, rfl, -⟩ | ⟨c, -, -, rfl, -⟩
    · rw [EHp_2, hf] at hc; cases hc
    · cases hc
  · rcases z with ⟨x, k', z, -, -⟩ | ⟨c, hc, he, rfl, hq⟩
    · cases z
    · rw [EHp_f hf]
      rw [List.mem_singleton.mp hc] at he hq
      cases he
      refine ⟨_, _, _, ca_L_angle_IndexOutOfBoundsException, ?_⟩
      refine r_iconst (v := 1) (pc := 13) dL_angle_13 rfl ?_
      exact r_ireturn (S := []) (pc := 14) dL_angle_14 rfl rfl ⟨1, 0, k, w, rfl, by decide, by rw [hs_id hg], hq, fun e => absurd e (by decide)⟩
  · rcases z with ⟨x, k', z, rfl, hq⟩ | ⟨c, hc, he, -, -⟩
    · cases z
      refine r_i2l (pc := 7) dL_angle_7 ?_
      refine r_lastore (n := 1) (f := w) (pc := 8) dL_angle_8 ((EHp_out (by omega)).trans hg) (vin_n (k := 0) rfl (by decide) (by decide)) ?_
      rw [show Int32.toNatClampNeg 0 = 0 from by decide, EHp_hs]
      refine r_goto 15 (pc := 9) dL_angle_9 (by decide) ?_
      refine r_iconst (v := 0) (pc := 15) dL_angle_15 rfl ?_
      exact r_ireturn (S := []) (pc := 16) dL_angle_16 rfl rfl ⟨0, x, k', vp_updL w 0 x.toInt64, rfl, by decide, rfl, hq, fun _ => updL_0⟩
    · cases he
theorem w_tank {om : OM} {l : Launch} {k : GS} {r : RS} {Q : Nat → Int32 → GS → Prop} (hl : l.stackTraces = false) (x0 : Int32) (q1 : ∀ (g : Hp) (B : Nat × Nat), 1 ≤ B.1 ∧ 6 ≤ B.2 → Runs om l M_X10_tank B 0 (entL (mi_ml M_X10_tank) (.ref 0 :: [.int x0])) [] (EHp g k r) (CPo [1] exI g k r Q)) {g : Hp} {w : Nat → Int64} (hg : g.1 125 = LA w) (hf : g.2.2 = false) {B : Nat × Nat} (hB : 1 ≤ B.1 ∧ 6 ≤ B.2) : Runs om l M_L_tank B 0 (entL 4 [.ref 0, .int x0, .ref 125]) [] (EHp g k r) (WP g r Q) := by
  show Runs om l M_L_tank B 0 [some (.ref 0), some (.int x0), some (.ref 125), none] [] _ _
  obtain ⟨ns, cnt, h0⟩ := EHp_0 (g := g) (k := k) (r := r)
  refine r_aload_n (pc := 0) dL_tank_0 rfl rfl ?_
  refine r_iconst (v := 0) (pc := 1) dL_tank_1 rfl ?_
  refine r_aload_n (pc := 2) dL_tank_2 rfl rfl ?_
  refine r_iload_n (pc := 3) dL_tank_3 rfl rfl ?_
  refine r_callVX (vs := [.int _]) (pc := 4) 1 6 (ci := 8) (T := TX10) (N := 6) dL_tank_4 rfl l_RL_74 rfl ⟨by decide, by decide⟩ rfl (Nat.le_of_ble_eq_true rfl) hl h0 rfl hB.1 hB.2 (Nat.le_of_ble_eq_true rfl) (q1 g (1, 6) ⟨Nat.le_refl _, Nat.le_refl _⟩) (fun o h1 z hc => ?_) (fun E h1 z => ?_) (fun o h1 z => ?_)
  · rcases z with ⟨x, k', -, rfl, -⟩ | ⟨c, -, -, rfl, -⟩
    · rw [EHp_2, hf] at hc; cases hc
    · cases hc
  · rcases z with ⟨x, k', z, -, -⟩ | ⟨c, hc, he, rfl, hq⟩
    · cases z
    · rw [EHp_f hf]
      rw [List.mem_singleton.mp hc] at he hq
      cases he
      refine ⟨_, _, _, ca_L_tank_IllegalArgumentException, ?_⟩
      refine r_iconst (v := 1) (pc := 13) dL_tank_13 rfl ?_
      exact r_ireturn (S := []) (pc := 14) dL_tank_14 rfl rfl ⟨1, 0, k, w, rfl, by decide, by rw [hs_id hg], hq, fun e => absurd e (by decide)⟩
  · rcases z with ⟨x, k', z, rfl, hq⟩ | ⟨c, hc, he, -, -⟩
    · cases z
      refine r_i2l (pc := 7) dL_tank_7 ?_
      refine r_lastore (n := 1) (f := w) (pc := 8) dL_tank_8 ((EHp_out (by omega)).trans hg) (vin_n (k := 0) rfl (by decide) (by decide)) ?_
      rw [show Int32.toNatClampNeg 0 = 0 from by decide, EHp_hs]
      refine r_goto 15 (pc := 9) dL_tank_9 (by decide) ?_
      refine r_iconst (v := 0) (pc := 15) dL_tank_15 rfl ?_
      exact r_ireturn (S := []) (pc := 16) dL_tank_16 rfl rfl ⟨0, x, k', vp_updL w 0 x.toInt64, rfl, by decide, rfl, hq, fun _ => updL_0⟩
    · cases he
theorem w_setting {om : OM} {l : Launch} {k : GS} {r : RS} {Q : Nat → Int32 → GS → Prop} (hl : l.stackTraces = false) (x0 : Int32) (q1 : ∀ (g : Hp) (B : Nat × Nat), 1 ≤ B.1 ∧ 6 ≤ B.2 → Runs om l M_X10_setting B 0 (entL (mi_ml M_X10_setting) (.ref 0 :: [.int x0])) [] (EHp g k r) (CPo [1] exI g k r Q)) {g : Hp} {w : Nat → Int64} (hg : g.1 125 = LA w) (hf : g.2.2 = false) {B : Nat × Nat} (hB : 1 ≤ B.1 ∧ 6 ≤ B.2) : Runs om l M_L_setting B 0 (entL 4 [.ref 0, .int x0, .ref 125]) [] (EHp g k r) (WP g r Q) := by
  show Runs om l M_L_setting B 0 [some (.ref 0), some (.int x0), some (.ref 125), none] [] _ _
  obtain ⟨ns, cnt, h0⟩ := EHp_0 (g := g) (k := k) (r := r)
  refine r_aload_n (pc := 0) dL_setting_0 rfl rfl ?_
  refine r_iconst (v := 0) (pc := 1) dL_setting_1 rfl ?_
  refine r_aload_n (pc := 2) dL_setting_2 rfl rfl ?_
  refine r_iload_n (pc := 3) dL_setting_3 rfl rfl ?_
  refine r_callVX (vs := [.int _]) (pc := 4) 1 6 (ci := 8) (T := TX10) (N := 6) dL_setting_4 rfl l_RL_77 rfl ⟨by decide, by decide⟩ rfl (Nat.le_of_ble_eq_true rfl) hl h0 rfl hB.1 hB.2 (Nat.le_of_ble_eq_true rfl) (q1 g (1, 6) ⟨Nat.le_refl _, Nat.le_refl _⟩) (fun o h1 z hc => ?_) (fun E h1 z => ?_) (fun o h1 z => ?_)
  · rcases z with ⟨x, k', -, rfl, -⟩ | ⟨c, -, -, rfl, -⟩
    · rw [EHp_2, hf] at hc; cases hc
    · cases hc
  · rcases z with ⟨x, k', z, -, -⟩ | ⟨c, hc, he, rfl, hq⟩
    · cases z
    · rw [EHp_f hf]
      rw [List.mem_singleton.mp hc] at he hq
      cases he
      refine ⟨_, _, _, ca_L_setting_IllegalArgumentException, ?_⟩
      refine r_iconst (v := 1) (pc := 13) dL_setting_13 rfl ?_
      exact r_ireturn (S := []) (pc := 14) dL_setting_14 rfl rfl ⟨1, 0, k, w, rfl, by decide, by rw [hs_id hg], hq, fun e => absurd e (by decide)⟩
  · rcases z with ⟨x, k', z, rfl, hq⟩ | ⟨c, hc, he, -, -⟩
    · cases z
      refine r_i2l (pc := 7) dL_setting_7 ?_
      refine r_lastore (n := 1) (f := w) (pc := 8) dL_setting_8 ((EHp_out (by omega)).trans hg) (vin_n (k := 0) rfl (by decide) (by decide)) ?_
      rw [show Int32.toNatClampNeg 0 = 0 from by decide, EHp_hs]
      refine r_goto 15 (pc := 9) dL_setting_9 (by decide) ?_
      refine r_iconst (v := 0) (pc := 15) dL_setting_15 rfl ?_
      exact r_ireturn (S := []) (pc := 16) dL_setting_16 rfl rfl ⟨0, x, k', vp_updL w 0 x.toInt64, rfl, by decide, rfl, hq, fun _ => updL_0⟩
    · cases he
theorem w_gauge {om : OM} {l : Launch} {k : GS} {r : RS} {Q : Nat → Int32 → GS → Prop} (hl : l.stackTraces = false) (x0 : Int32) (q1 : ∀ (g : Hp) (B : Nat × Nat), 1 ≤ B.1 ∧ 6 ≤ B.2 → Runs om l M_X10_gauge B 0 (entL (mi_ml M_X10_gauge) (.ref 0 :: [.int x0])) [] (EHp g k r) (CPo [1] exI g k r Q)) {g : Hp} {w : Nat → Int64} (hg : g.1 125 = LA w) (hf : g.2.2 = false) {B : Nat × Nat} (hB : 1 ≤ B.1 ∧ 6 ≤ B.2) : Runs om l M_L_gauge B 0 (entL 4 [.ref 0, .int x0, .ref 125]) [] (EHp g k r) (WP g r Q) := by
  show Runs om l M_L_gauge B 0 [some (.ref 0), some (.int x0), some (.ref 125), none] [] _ _
  obtain ⟨ns, cnt, h0⟩ := EHp_0 (g := g) (k := k) (r := r)
  refine r_aload_n (pc := 0) dL_gauge_0 rfl rfl ?_
  refine r_iconst (v := 0) (pc := 1) dL_gauge_1 rfl ?_
  refine r_aload_n (pc := 2) dL_gauge_2 rfl rfl ?_
  refine r_iload_n (pc := 3) dL_gauge_3 rfl rfl ?_
  refine r_callVX (vs := [.int _]) (pc := 4) 1 6 (ci := 8) (T := TX10) (N := 6) dL_gauge_4 rfl l_RL_80 rfl ⟨by decide, by decide⟩ rfl (Nat.le_of_ble_eq_true rfl) hl h0 rfl hB.1 hB.2 (Nat.le_of_ble_eq_true rfl) (q1 g (1, 6) ⟨Nat.le_refl _, Nat.le_refl _⟩) (fun o h1 z hc => ?_) (fun E h1 z => ?_) (fun o h1 z => ?_)
  · rcases z with ⟨x, k', -, rfl, -⟩ | ⟨c, -, -, rfl, -⟩
    · rw [EHp_2, hf] at hc; cases hc
    · cases hc
  · rcases z with ⟨x, k', z, -, -⟩ | ⟨c, hc, he, rfl, hq⟩
    · cases z
    · rw [EHp_f hf]
      rw [List.mem_singleton.mp hc] at he hq
      cases he
      refine ⟨_, _, _, ca_L_gauge_IllegalArgumentException, ?_⟩
      refine r_iconst (v := 1) (pc := 13) dL_gauge_13 rfl ?_
      exact r_ireturn (S := []) (pc := 14) dL_gauge_14 rfl rfl ⟨1, 0, k, w, rfl, by decide, by rw [hs_id hg], hq, fun e => absurd e (by decide)⟩
  · rcases z with ⟨x, k', z, rfl, hq⟩ | ⟨c, hc, he, -, -⟩
    · cases z
      refine r_i2l (pc := 7) dL_gauge_7 ?_
      refine r_lastore (n := 1) (f := w) (pc := 8) dL_gauge_8 ((EHp_out (by omega)).trans hg) (vin_n (k := 0) rfl (by decide) (by decide)) ?_
      rw [show Int32.toNatClampNeg 0 = 0 from by decide, EHp_hs]
      refine r_goto 15 (pc := 9) dL_gauge_9 (by decide) ?_
      refine r_iconst (v := 0) (pc := 15) dL_gauge_15 rfl ?_
      exact r_ireturn (S := []) (pc := 16) dL_gauge_16 rfl rfl ⟨0, x, k', vp_updL w 0 x.toInt64, rfl, by decide, rfl, hq, fun _ => updL_0⟩
    · cases he
theorem w_toldAfter {om : OM} {l : Launch} {k : GS} {r : RS} {Q : Nat → Int32 → GS → Prop} (hl : l.stackTraces = false) (x0 : Int32) (q1 : ∀ (g : Hp) (B : Nat × Nat), 1 ≤ B.1 ∧ 6 ≤ B.2 → Runs om l M_X10_toldAfter B 0 (entL (mi_ml M_X10_toldAfter) (.ref 0 :: [.int x0])) [] (EHp g k r) (CPo [1] exI g k r Q)) {g : Hp} {w : Nat → Int64} (hg : g.1 125 = LA w) (hf : g.2.2 = false) {B : Nat × Nat} (hB : 1 ≤ B.1 ∧ 6 ≤ B.2) : Runs om l M_L_toldAfter B 0 (entL 4 [.ref 0, .int x0, .ref 125]) [] (EHp g k r) (WP g r Q) := by
  show Runs om l M_L_toldAfter B 0 [some (.ref 0), some (.int x0), some (.ref 125), none] [] _ _
  obtain ⟨ns, cnt, h0⟩ := EHp_0 (g := g) (k := k) (r := r)
  refine r_aload_n (pc := 0) dL_toldAfter_0 rfl rfl ?_
  refine r_iconst (v := 0) (pc := 1) dL_toldAfter_1 rfl ?_
  refine r_aload_n (pc := 2) dL_toldAfter_2 rfl rfl ?_
  refine r_iload_n (pc := 3) dL_toldAfter_3 rfl rfl ?_
  refine r_callVX (vs := [.int _]) (pc := 4) 1 6 (ci := 8) (T := TX10) (N := 6) dL_toldAfter_4 rfl l_RL_83 rfl ⟨by decide, by decide⟩ rfl (Nat.le_of_ble_eq_true rfl) hl h0 rfl hB.1 hB.2 (Nat.le_of_ble_eq_true rfl) (q1 g (1, 6) ⟨Nat.le_refl _, Nat.le_refl _⟩) (fun o h1 z hc => ?_) (fun E h1 z => ?_) (fun o h1 z => ?_)
  · rcases z with ⟨x, k', -, rfl, -⟩ | ⟨c, -, -, rfl, -⟩
    · rw [EHp_2, hf] at hc; cases hc
    · cases hc
  · rcases z with ⟨x, k', z, -, -⟩ | ⟨c, hc, he, rfl, hq⟩
    · cases z
    · rw [EHp_f hf]
      rw [List.mem_singleton.mp hc] at he hq
      cases he
      refine ⟨_, _, _, ca_L_toldAfter_IllegalArgumentException, ?_⟩
      refine r_iconst (v := 1) (pc := 13) dL_toldAfter_13 rfl ?_
      exact r_ireturn (S := []) (pc := 14) dL_toldAfter_14 rfl rfl ⟨1, 0, k, w, rfl, by decide, by rw [hs_id hg], hq, fun e => absurd e (by decide)⟩
  · rcases z with ⟨x, k', z, rfl, hq⟩ | ⟨c, hc, he, -, -⟩
    · cases z
      refine r_i2l (pc := 7) dL_toldAfter_7 ?_
      refine r_lastore (n := 1) (f := w) (pc := 8) dL_toldAfter_8 ((EHp_out (by omega)).trans hg) (vin_n (k := 0) rfl (by decide) (by decide)) ?_
      rw [show Int32.toNatClampNeg 0 = 0 from by decide, EHp_hs]
      refine r_goto 15 (pc := 9) dL_toldAfter_9 (by decide) ?_
      refine r_iconst (v := 0) (pc := 15) dL_toldAfter_15 rfl ?_
      exact r_ireturn (S := []) (pc := 16) dL_toldAfter_16 rfl rfl ⟨0, x, k', vp_updL w 0 x.toInt64, rfl, by decide, rfl, hq, fun _ => updL_0⟩
    · cases he
theorem w_worstError {om : OM} {l : Launch} {k : GS} {r : RS} {Q : Nat → Int32 → GS → Prop} (hl : l.stackTraces = false) (x0 : Int32) (q1 : ∀ (g : Hp) (B : Nat × Nat), 1 ≤ B.1 ∧ 6 ≤ B.2 → Runs om l M_X10_worstError B 0 (entL (mi_ml M_X10_worstError) (.ref 0 :: [.int x0])) [] (EHp g k r) (CPo [1] exI g k r Q)) {g : Hp} {w : Nat → Int64} (hg : g.1 125 = LA w) (hf : g.2.2 = false) {B : Nat × Nat} (hB : 1 ≤ B.1 ∧ 6 ≤ B.2) : Runs om l M_L_worstError B 0 (entL 4 [.ref 0, .int x0, .ref 125]) [] (EHp g k r) (WP g r Q) := by
  show Runs om l M_L_worstError B 0 [some (.ref 0), some (.int x0), some (.ref 125), none] [] _ _
  obtain ⟨ns, cnt, h0⟩ := EHp_0 (g := g) (k := k) (r := r)
  refine r_aload_n (pc := 0) dL_worstError_0 rfl rfl ?_
  refine r_iconst (v := 0) (pc := 1) dL_worstError_1 rfl ?_
  refine r_aload_n (pc := 2) dL_worstError_2 rfl rfl ?_
  refine r_iload_n (pc := 3) dL_worstError_3 rfl rfl ?_
  refine r_callVX (vs := [.int _]) (pc := 4) 1 6 (ci := 8) (T := TX10) (N := 6) dL_worstError_4 rfl l_RL_86 rfl ⟨by decide, by decide⟩ rfl (Nat.le_of_ble_eq_true rfl) hl h0 rfl hB.1 hB.2 (Nat.le_of_ble_eq_true rfl) (q1 g (1, 6) ⟨Nat.le_refl _, Nat.le_refl _⟩) (fun o h1 z hc => ?_) (fun E h1 z => ?_) (fun o h1 z => ?_)
  · rcases z with ⟨x, k', -, rfl, -⟩ | ⟨c, -, -, rfl, -⟩
    · rw [EHp_2, hf] at hc; cases hc
    · cases hc
  · rcases z with ⟨x, k', z, -, -⟩ | ⟨c, hc, he, rfl, hq⟩
    · cases z
    · rw [EHp_f hf]
      rw [List.mem_singleton.mp hc] at he hq
      cases he
      refine ⟨_, _, _, ca_L_worstError_IllegalArgumentException, ?_⟩
      refine r_iconst (v := 1) (pc := 13) dL_worstError_13 rfl ?_
      exact r_ireturn (S := []) (pc := 14) dL_worstError_14 rfl rfl ⟨1, 0, k, w, rfl, by decide, by rw [hs_id hg], hq, fun e => absurd e (by decide)⟩
  · rcases z with ⟨x, k', z, rfl, hq⟩ | ⟨c, hc, he, -, -⟩
    · cases z
      refine r_i2l (pc := 7) dL_worstError_7 ?_
      refine r_lastore (n := 1) (f := w) (pc := 8) dL_worstError_8 ((EHp_out (by omega)).trans hg) (vin_n (k := 0) rfl (by decide) (by decide)) ?_
      rw [show Int32.toNatClampNeg 0 = 0 from by decide, EHp_hs]
      refine r_goto 15 (pc := 9) dL_worstError_9 (by decide) ?_
      refine r_iconst (v := 0) (pc := 15) dL_worstError_15 rfl ?_
      exact r_ireturn (S := []) (pc := 16) dL_worstError_16 rfl rfl ⟨0, x, k', vp_updL w 0 x.toInt64, rfl, by decide, rfl, hq, fun _ => updL_0⟩
    · cases he
theorem w_bestMode {om : OM} {l : Launch} {k : GS} {r : RS} {Q : Nat → Int32 → GS → Prop} (hl : l.stackTraces = false) (x0 : Int32) (q1 : ∀ (g : Hp) (B : Nat × Nat), 1 ≤ B.1 ∧ 6 ≤ B.2 → Runs om l M_X10_bestMode B 0 (entL (mi_ml M_X10_bestMode) (.ref 0 :: [.int x0])) [] (EHp g k r) (CPo [1] exI g k r Q)) {g : Hp} {w : Nat → Int64} (hg : g.1 125 = LA w) (hf : g.2.2 = false) {B : Nat × Nat} (hB : 1 ≤ B.1 ∧ 6 ≤ B.2) : Runs om l M_L_bestMode B 0 (entL 4 [.ref 0, .int x0, .ref 125]) [] (EHp g k r) (WP g r Q) := by
  show Runs om l M_L_bestMode B 0 [some (.ref 0), some (.int x0), some (.ref 125), none] [] _ _
  obtain ⟨ns, cnt, h0⟩ := EHp_0 (g := g) (k := k) (r := r)
  refine r_aload_n (pc := 0) dL_bestMode_0 rfl rfl ?_
  refine r_iconst (v := 0) (pc := 1) dL_bestMode_1 rfl ?_
  refine r_aload_n (pc := 2) dL_bestMode_2 rfl rfl ?_
  refine r_iload_n (pc := 3) dL_bestMode_3 rfl rfl ?_
  refine r_callVX (vs := [.int _]) (pc := 4) 1 6 (ci := 8) (T := TX10) (N := 6) dL_bestMode_4 rfl l_RL_89 rfl ⟨by decide, by decide⟩ rfl (Nat.le_of_ble_eq_true rfl) hl h0 rfl hB.1 hB.2 (Nat.le_of_ble_eq_true rfl) (q1 g (1, 6) ⟨Nat.le_refl _, Nat.le_refl _⟩) (fun o h1 z hc => ?_) (fun E h1 z => ?_) (fun o h1 z => ?_)
  · rcases z with ⟨x, k', -, rfl, -⟩ | ⟨c, -, -, rfl, -⟩
    · rw [EHp_2, hf] at hc; cases hc
    · cases hc
  · rcases z with ⟨x, k', z, -, -⟩ | ⟨c, hc, he, rfl, hq⟩
    · cases z
    · rw [EHp_f hf]
      rw [List.mem_singleton.mp hc] at he hq
      cases he
      refine ⟨_, _, _, ca_L_bestMode_IllegalArgumentException, ?_⟩
      refine r_iconst (v := 1) (pc := 13) dL_bestMode_13 rfl ?_
      exact r_ireturn (S := []) (pc := 14) dL_bestMode_14 rfl rfl ⟨1, 0, k, w, rfl, by decide, by rw [hs_id hg], hq, fun e => absurd e (by decide)⟩
  · rcases z with ⟨x, k', z, rfl, hq⟩ | ⟨c, hc, he, -, -⟩
    · cases z
      refine r_i2l (pc := 7) dL_bestMode_7 ?_
      refine r_lastore (n := 1) (f := w) (pc := 8) dL_bestMode_8 ((EHp_out (by omega)).trans hg) (vin_n (k := 0) rfl (by decide) (by decide)) ?_
      rw [show Int32.toNatClampNeg 0 = 0 from by decide, EHp_hs]
      refine r_goto 15 (pc := 9) dL_bestMode_9 (by decide) ?_
      refine r_iconst (v := 0) (pc := 15) dL_bestMode_15 rfl ?_
      exact r_ireturn (S := []) (pc := 16) dL_bestMode_16 rfl rfl ⟨0, x, k', vp_updL w 0 x.toInt64, rfl, by decide, rfl, hq, fun _ => updL_0⟩
    · cases he
theorem w_type {om : OM} {l : Launch} {k : GS} {r : RS} {Q : Nat → Int32 → GS → Prop} (hl : l.stackTraces = false) (x0 : Int32) (q1 : ∀ (g : Hp) (B : Nat × Nat), 1 ≤ B.1 ∧ 6 ≤ B.2 → Runs om l M_X10_type B 0 (entL (mi_ml M_X10_type) (.ref 0 :: [.int x0])) [] (EHp g k r) (CPo [1, 2] exIS g k r Q)) {g : Hp} {w : Nat → Int64} (hg : g.1 125 = LA w) (hf : g.2.2 = false) {B : Nat × Nat} (hB : 1 ≤ B.1 ∧ 6 ≤ B.2) : Runs om l M_L_type B 0 (entL 4 [.ref 0, .int x0, .ref 125]) [] (EHp g k r) (WP g r Q) := by
  show Runs om l M_L_type B 0 [some (.ref 0), some (.int x0), some (.ref 125), none] [] _ _
  obtain ⟨ns, cnt, h0⟩ := EHp_0 (g := g) (k := k) (r := r)
  refine r_aload_n (pc := 0) dL_type_0 rfl rfl ?_
  refine r_iconst (v := 0) (pc := 1) dL_type_1 rfl ?_
  refine r_aload_n (pc := 2) dL_type_2 rfl rfl ?_
  refine r_iload_n (pc := 3) dL_type_3 rfl rfl ?_
  refine r_callVX (vs := [.int _]) (pc := 4) 1 6 (ci := 8) (T := TX10) (N := 6) dL_type_4 rfl l_RL_92 rfl ⟨by decide, by decide⟩ rfl (Nat.le_of_ble_eq_true rfl) hl h0 rfl hB.1 hB.2 (Nat.le_of_ble_eq_true rfl) (q1 g (1, 6) ⟨Nat.le_refl _, Nat.le_refl _⟩) (fun o h1 z hc => ?_) (fun E h1 z => ?_) (fun o h1 z => ?_)
  · rcases z with ⟨x, k', -, rfl, -⟩ | ⟨c, -, -, rfl, -⟩
    · rw [EHp_2, hf] at hc; cases hc
    · cases hc
  · rcases z with ⟨x, k', z, -, -⟩ | ⟨c, hc, he, rfl, hq⟩
    · cases z
    · rw [EHp_f hf]
      have hc2 : c = 1 ∨ c = 2 := by simpa using hc
      rcases hc2 with rfl | rfl
      · cases he
        refine ⟨_, _, _, ca_L_type_IllegalArgumentException, ?_⟩
        refine r_iconst (v := 1) (pc := 13) dL_type_13 rfl ?_
        exact r_ireturn (S := []) (pc := 14) dL_type_14 rfl rfl ⟨1, 0, k, w, rfl, by decide, by rw [hs_id hg], hq, fun e => absurd e (by decide)⟩
      · cases he
        refine ⟨_, _, _, ca_L_type_IllegalStateException, ?_⟩
        refine r_iconst (v := 2) (pc := 16) dL_type_16 rfl ?_
        exact r_ireturn (S := []) (pc := 17) dL_type_17 rfl rfl ⟨2, 0, k, w, rfl, by decide, by rw [hs_id hg], hq, fun e => absurd e (by decide)⟩
  · rcases z with ⟨x, k', z, rfl, hq⟩ | ⟨c, hc, he, -, -⟩
    · cases z
      refine r_i2l (pc := 7) dL_type_7 ?_
      refine r_lastore (n := 1) (f := w) (pc := 8) dL_type_8 ((EHp_out (by omega)).trans hg) (vin_n (k := 0) rfl (by decide) (by decide)) ?_
      rw [show Int32.toNatClampNeg 0 = 0 from by decide, EHp_hs]
      refine r_goto 18 (pc := 9) dL_type_9 (by decide) ?_
      refine r_iconst (v := 0) (pc := 18) dL_type_18 rfl ?_
      exact r_ireturn (S := []) (pc := 19) dL_type_19 rfl rfl ⟨0, x, k', vp_updL w 0 x.toInt64, rfl, by decide, rfl, hq, fun _ => updL_0⟩
    · cases he
theorem w_undo {om : OM} {l : Launch} {k : GS} {r : RS} {Q : Nat → Int32 → GS → Prop} (hl : l.stackTraces = false) (q1 : ∀ (g : Hp) (B : Nat × Nat), 1 ≤ B.1 ∧ 6 ≤ B.2 → Runs om l M_X10_undo B 0 (entL (mi_ml M_X10_undo) (.ref 0 :: [])) [] (EHp g k r) (CPo [1] exS g k r Q)) {g : Hp} {w : Nat → Int64} (hg : g.1 125 = LA w) (hf : g.2.2 = false) {B : Nat × Nat} (hB : 1 ≤ B.1 ∧ 6 ≤ B.2) : Runs om l M_L_undo B 0 (entL 3 [.ref 0, .ref 125]) [] (EHp g k r) (WP g r Q) := by
  show Runs om l M_L_undo B 0 [some (.ref 0), some (.ref 125), none] [] _ _
  obtain ⟨ns, cnt, h0⟩ := EHp_0 (g := g) (k := k) (r := r)
  refine r_aload_n (pc := 0) dL_undo_0 rfl rfl ?_
  refine r_iconst (v := 0) (pc := 1) dL_undo_1 rfl ?_
  refine r_aload_n (pc := 2) dL_undo_2 rfl rfl ?_
  refine r_callVX (vs := []) (pc := 3) 1 6 (ci := 8) (T := TX10) (N := 6) dL_undo_3 rfl l_RL_95 rfl ⟨by decide, by decide⟩ rfl (Nat.le_of_ble_eq_true rfl) hl h0 rfl hB.1 hB.2 (Nat.le_of_ble_eq_true rfl) (q1 g (1, 6) ⟨Nat.le_refl _, Nat.le_refl _⟩) (fun o h1 z hc => ?_) (fun E h1 z => ?_) (fun o h1 z => ?_)
  · rcases z with ⟨x, k', -, rfl, -⟩ | ⟨c, -, -, rfl, -⟩
    · rw [EHp_2, hf] at hc; cases hc
    · cases hc
  · rcases z with ⟨x, k', z, -, -⟩ | ⟨c, hc, he, rfl, hq⟩
    · cases z
    · rw [EHp_f hf]
      rw [List.mem_singleton.mp hc] at he hq
      cases he
      refine ⟨_, _, _, ca_L_undo_IllegalStateException, ?_⟩
      refine r_iconst (v := 1) (pc := 12) dL_undo_12 rfl ?_
      exact r_ireturn (S := []) (pc := 13) dL_undo_13 rfl rfl ⟨1, 0, k, w, rfl, by decide, by rw [hs_id hg], hq, fun e => absurd e (by decide)⟩
  · rcases z with ⟨x, k', z, rfl, hq⟩ | ⟨c, hc, he, -, -⟩
    · cases z
      refine r_i2l (pc := 6) dL_undo_6 ?_
      refine r_lastore (n := 1) (f := w) (pc := 7) dL_undo_7 ((EHp_out (by omega)).trans hg) (vin_n (k := 0) rfl (by decide) (by decide)) ?_
      rw [show Int32.toNatClampNeg 0 = 0 from by decide, EHp_hs]
      refine r_goto 14 (pc := 8) dL_undo_8 (by decide) ?_
      refine r_iconst (v := 0) (pc := 14) dL_undo_14 rfl ?_
      exact r_ireturn (S := []) (pc := 15) dL_undo_15 rfl rfl ⟨0, x, k', vp_updL w 0 x.toInt64, rfl, by decide, rfl, hq, fun _ => updL_0⟩
    · cases he
