/-! the worst error, the mode tried -/
theorem wo_cnt {A : Nat → Int32} (k : Nat) : k ≤ 500 → ∃ q : Nat, (R_wo A k).2.2 = nI q ∧ q ≤ k := by
  induction k with
  | zero => exact fun _ => ⟨0, by rw [wo_0]; rfl, by omega⟩
  | succ k ih =>
    intro hk
    obtain ⟨q, h1, h2⟩ := ih (by omega)
    rw [wo_s, R_wb]
    by_cases z : (R_shot (R_wo A k).1).2 = 0
    · refine ⟨q, ?_, by omega⟩
      show (R_wo A k).2.2 + R_one (R_shot (R_wo A k).1).2 = nI q
      rw [h1, R_one, if_pos z, Int32.add_zero]
    · refine ⟨q + 1, ?_, by omega⟩
      show (R_wo A k).2.2 + R_one (R_shot (R_wo A k).1).2 = nI (q + 1)
      rw [h1, R_one, if_neg z]
      exact (nI_succ q).symm
theorem worst_ag {C A : Nat → Int32} {W : Nat → Int64} {x : Int32} (h : AG C W A) (o : OKA A) (k : Nat) (hk : k ≤ 500) : (K_wo W (upd C (12 + 5) x) k).2 = R_worst A k x := by
  have h2 : AG (upd C (12 + 5) x) W (upd A 17 x) := AG_put h (by omega) (by omega)
  have o2 : OKA (upd A 17 x) := OKA_put o (by omega)
  obtain ⟨-, -, e, -⟩ := AG_wo h2 o2.1 o2.2.1 k
  obtain ⟨q, hq, hqk⟩ := wo_cnt (A := upd A 17 x) k hk
  rw [e]
  unfold R_worst R_wc
  rw [if_neg (by rw [hq]; exact Int32.not_lt.mpr (nI_pos' (by omega)))]
