/-! commands read: class and reference -/
theorem n0_self {t : Nat → Int32} {L p : Nat} (h : R_an t L p 32 32 = 0) : R_n0 t L p = p := by
  unfold R_n0
  cases L - p with
  | zero => rfl
  | succ m => rw [R_sp, if_pos h]
theorem sp_stop {t : Nat → Int32} {L : Nat} : ∀ (m p : Nat), L ≤ p + m → R_an t L (R_sp t L m p) 32 32 = 0 := by
  intro m
  induction m with
  | zero =>
    intro p h
    rw [R_sp]
    exact if_pos (by omega)
  | succ m ih =>
    intro p h
    rw [R_sp]
    by_cases h1 : R_an t L p 32 32 = 0
    · rw [if_pos h1]; exact h1
    · rw [if_neg h1]; exact ih (p + 1) (by omega)
theorem n0_stop {t : Nat → Int32} {L p : Nat} : R_an t L (R_n0 t L p) 32 32 = 0 := sp_stop _ _ (by omega)
theorem n0_n0 {t : Nat → Int32} {L p : Nat} : R_n0 t L (R_n0 t L p) = R_n0 t L p := n0_self n0_stop
theorem nI_lef {a b : Nat} (ha : a < 2 ^ 31) (hb : b < 2 ^ 31) : nI a ≤ nI b ↔ a ≤ b := nI_le_iff ha hb
theorem n1_no {t : Nat → Int32} {L p : Nat} (h : R_an t L (R_n0 t L p) 48 57 = 0) : (R_n1 t L p).1 = R_n0 t L p := by
  unfold R_n1
  cases L - R_n0 t L p with
  | zero => rfl
  | succ m =>
    rw [R_nl, if_neg (by rw [Int32.sub_self]; decide), if_pos h]
theorem n1_yes {t : Nat → Int32} {L p : Nat} (h : ¬ R_an t L (R_n0 t L p) 48 57 = 0) : R_n0 t L p < (R_n1 t L p).1 := by
  have hlt := an_lt h
  unfold R_n1
  obtain ⟨m, hm⟩ : ∃ m, L - R_n0 t L p = m + 1 := ⟨L - R_n0 t L p - 1, by omega⟩
  rw [hm, R_nl, if_neg (by rw [Int32.sub_self]; decide), if_neg h]
  have := (nl_le (t := t) (ln := L) (f := nI (R_n0 t L p)) m (R_n0 t L p + 1) (10 * 0 + t (R_n0 t L p) - 48)).1
  omega
theorem gt_0 {a b : Nat} (ha : a < 2 ^ 31) (hb : b < 2 ^ 31) : R_gt (nI a) (nI b) = 0 ↔ a ≤ b := by
  unfold R_gt
  by_cases h : nI a ≤ nI b
  · rw [if_pos h]; exact ⟨fun _ => (nI_lef ha hb).mp h, fun _ => rfl⟩
  · rw [if_neg h]; exact ⟨fun z => absurd z (by decide), fun z => absurd ((nI_lef ha hb).mpr z) h⟩
theorem rn_ag {t : Nat → Int32} {L : Nat} (hL : L ≤ 150) : ∀ (m k p : Nat) (nu n : Nat → Int32), p ≤ L → (∀ j, j < k → nu j = n j) → (K_rn t L m k p nu).1 = (R_rn t L m k p n).1 ∧ (K_rn t L m k p nu).2.1 = (R_rn t L m k p n).2.1 ∧ (¬ (R_rn t L m k p n).1 = 0 → ∀ j, j < k + m → (K_rn t L m k p nu).2.2 j = (R_rn t L m k p n).2.2 j) := by
  intro m
  induction m with
  | zero =>
    intro k p nu n _ h
    rw [K_rn, R_rn]
    exact ⟨rfl, rfl, fun _ j hj => h j hj⟩
  | succ m ih =>
    intro k p nu n hp h
    rw [K_rn, R_rn]
    have b0 := n0_le (t := t) hp
    have b1 := n1_le (t := t) hp
    by_cases h1 : R_an t L p 32 32 = 0
    · have e1 : K_rn1 t L p = 0 := by unfold K_rn1; rw [if_pos h1]
      rw [if_pos e1, if_pos h1]
      refine ⟨rfl, ?_, fun z => absurd rfl z⟩
      show K_rnp t L p = p
      unfold K_rnp
      rw [if_pos e1]
      exact n0_self h1
    · rw [if_neg h1]
      by_cases h2 : R_an t L (R_n0 t L p) 48 57 = 0
      · have e1 : K_rn1 t L p = 0 := by unfold K_rn1; rw [if_neg h1, if_pos h2]
        rw [if_pos e1, if_pos ((gt_0 (by omega) (by omega)).mpr (Nat.le_of_eq (n1_no h2)))]
        refine ⟨rfl, ?_, fun z => absurd rfl z⟩
        show K_rnp t L p = (R_n1 t L p).1
        unfold K_rnp
        rw [if_pos e1, n1_no h2]
      · have e1 : ¬ K_rn1 t L p = 0 := by unfold K_rn1; rw [if_neg h1, if_neg h2]; decide
        have e2 : K_rnp t L p = (R_n1 t L p).1 := by unfold K_rnp; rw [if_neg e1]
        have e3 : K_rnn t L p k nu = upd nu k (R_n1 t L p).2 := by unfold K_rnn; rw [if_neg e1]
        rw [if_neg e1, if_neg (fun z => absurd ((gt_0 (by omega) (by omega)).mp z) (by have := n1_yes h2; omega)), e2, e3]
        obtain ⟨a1, a2, a3⟩ := ih (k + 1) (R_n1 t L p).1 (upd nu k (R_n1 t L p).2) (upd n k (R_n1 t L p).2) b1.2 (fun j hj => by
          by_cases e : j = k
          · subst e; rw [upd_s, upd_s]
          · rw [upd_n e, upd_n e]; exact h j (by omega))
        exact ⟨a1, a2, fun z j hj => a3 z j (by omega)⟩
theorem kb_59 {t : Nat → Int32} {L p : Nat} : K_b t L p = 59 ↔ ¬ R_an t L p 59 59 = 0 := by
  rw [← an_b (lo := 59) (hi := 59) (by decide)]
  unfold R_in
  generalize K_b t L p = x
  constructor
  · intro e
    subst e
    decide
  · intro h
    by_cases h1 : x < 59
    · rw [if_pos h1] at h; exact absurd rfl h
    · rw [if_neg h1] at h
      by_cases h2 : 59 < x
      · rw [if_pos h2] at h; exact absurd rfl h
      · exact Int32.le_antisymm (Int32.not_lt.mp h2) (Int32.not_lt.mp h1)
theorem rn_rng {t : Nat → Int32} {L : Nat} : ∀ (m k p : Nat) (n : Nat → Int32), (R_rn t L m k p n).1 = 0 ∨ (R_rn t L m k p n).1 = 1 := by
  intro m
  induction m with
  | zero => intro k p n; rw [R_rn]; exact Or.inr rfl
  | succ m ih =>
    intro k p n
    rw [R_rn]
    split
    · exact Or.inl rfl
    · split
      · exact Or.inl rfl
      · exact ih _ _ _
/-- what of one command is the same -/
def CMA (t : Nat → Int32) (L p : Nat) (nu n : Nat → Int32) : Prop :=
  ((K_cmd t L p nu).1 = 0 ∧ (R_cmd t L p n).1 = 0 ∧ (K_cmd t L p nu).2.1 = (R_cmd t L p n).2.1) ∨
  ((K_cmd t L p nu).1 = 1 ∧ (R_cmd t L p n).1 = 1 ∧ R_n0 t L (K_cmd t L p nu).2.1 = (R_cmd t L p n).2.1 ∧ p < (K_cmd t L p nu).2.1 ∧ (K_cmd t L p nu).2.1 ≤ L ∧ K_w t L p < 9 ∧ (R_w1 t L p).2 = Int64.ofNat (hsN (K_w t L p)) ∧ ∀ j, j < K_nm (K_w t L p) → (K_cmd t L p nu).2.2 j = (R_cmd t L p n).2.2 j)
theorem cmd_ag {t : Nat → Int32} {L p : Nat} {nu n : Nat → Int32} (hL : L ≤ 150) (hp : p ≤ L) : CMA t L p nu n := by
  rcases word_ag (t := t) hL hp with ⟨w9, o0⟩ | ⟨w9, o0, wv, mv⟩
  · refine Or.inl ?_
    unfold K_cmd R_cmd
    rw [if_pos w9, if_pos o0]
    refine ⟨rfl, rfl, ?_⟩
    show p = R_wat t L p
    unfold R_wat
    rw [if_pos o0]
  · have hw1 := w1_le (t := t) hp
    obtain ⟨g1, g2, g3⟩ := rn_ag hL (K_nm (K_w t L p)) 0 (R_w1 t L p).1 nu n hw1.2 (fun j hj => absurd hj (Nat.not_lt_zero j))
    have eK : K_cmd t L p nu = K_fin t L (K_rn t L (K_nm (K_w t L p)) 0 (R_w1 t L p).1 nu) := by unfold K_cmd; rw [if_neg (by omega)]
    have eR : R_cmd t L p n = R_fin t L (R_rn t L (K_nm (K_w t L p)) 0 (R_w1 t L p).1 n) := by
      unfold R_cmd
      rw [if_neg o0, mv]
      have e : R_wat t L p = (R_w1 t L p).1 := by unfold R_wat; rw [if_neg o0]
      rw [e]
      rfl
    have rng := rn_rng (t := t) (L := L) (K_nm (K_w t L p)) 0 (R_w1 t L p).1 n
    have le2 := rn_le (t := t) (ln := L) (K_nm (K_w t L p)) 0 (R_w1 t L p).1 n hw1.2
    unfold CMA
    rw [eK, eR]
    generalize R_rn t L (K_nm (K_w t L p)) 0 (R_w1 t L p).1 n = r at g1 g2 g3 rng le2
    generalize K_rn t L (K_nm (K_w t L p)) 0 (R_w1 t L p).1 nu = q at g1 g2 g3
    unfold K_fin R_fin
    rcases rng with r0 | r1
    · rw [if_pos (g1.trans r0), if_pos r0]
      exact Or.inl ⟨g1.trans r0, rfl, g2⟩
    · have n0 : ¬ r.1 = 0 := by rw [r1]; decide
      rw [if_neg (by rw [g1]; exact n0), if_neg n0, g2]
      have b0 := n0_le (t := t) le2.2
      unfold R_tail
      by_cases h59 : R_an t L (R_n0 t L r.2.1) 59 59 = 0
      · rw [if_neg (fun z => kb_59.mp z h59)]
        refine Or.inl ⟨rfl, h59, ?_⟩
        show R_n0 t L r.2.1 = R_n0 t L (R_p3 t L r.2.1)
        unfold R_p3
        rw [if_pos h59]
        exact n0_n0.symm
      · rw [if_pos (kb_59.mpr h59)]
        have hlt := an_lt h59
        refine Or.inr ⟨rfl, (an01 _ _ _ _ _).resolve_left h59, ?_, ?_, ?_, w9, wv, fun j hj => g3 n0 j (by omega)⟩
        · show R_n0 t L (R_n0 t L r.2.1 + 1) = R_n0 t L (R_p3 t L r.2.1)
          unfold R_p3
          rw [if_neg h59]
        · show p < R_n0 t L r.2.1 + 1
          omega
        · show R_n0 t L r.2.1 + 1 ≤ L
          omega
