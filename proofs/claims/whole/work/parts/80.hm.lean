/-! the law's loop -/
theorem and31 (x : Int32) : ∃ q : Nat, q ≤ 31 ∧ x &&& 31 = nI q := by
  refine ⟨(x &&& 31).toBitVec.toNat, ?_, ?_⟩
  · have e : (x &&& 31).toBitVec = x.toBitVec &&& 31#32 := rfl
    rw [e, BitVec.toNat_and]
    exact Nat.and_le_right
  · refine Int32.toBitVec_inj.mp ?_
    show (x &&& 31).toBitVec = BitVec.ofNat 32 (x &&& 31).toBitVec.toNat
    rw [BitVec.ofNat_toNat, BitVec.setWidth_eq]
theorem len_gt {i L : Nat} (hi : i < 2 ^ 31) (hL : L ≤ 3072) : nI L - 6 < nI i ↔ L < i + 6 := by
  by_cases h : 6 ≤ L
  · have e : nI L - 6 = nI (L - 6) := nsub (x := L) (y := 6) rfl rfl h
    rw [e, ← Int32.not_le, nI_le_iff hi (by omega)]
    omega
  · have n : nI L - 6 < 0 := by
      have h6 : L = 0 ∨ L = 1 ∨ L = 2 ∨ L = 3 ∨ L = 4 ∨ L = 5 := by omega
      rcases h6 with rfl | rfl | rfl | rfl | rfl | rfl <;> decide
    exact ⟨fun _ => by omega, fun _ => Int32.lt_of_lt_of_le n (nI_pos' hi)⟩
theorem lp_law {om : OM} {l : Launch} (hl : l.stackTraces = false) (hN : NNq) (hL : om_L om ≤ 3072) : ∀ (n9 i : Nat) (B : Nat × Nat) (g : Hp) (k : GS) (r : RS) (w : Nat → Int64), om_L om ≤ i + 6 * n9 + 5 → i ≤ 3072 + 6 → n9 ≤ B.1 ∧ 6 * n9 ≤ B.2 → GAp k r → g.1 125 = LA w → g.2.2 = false → Runs om l M_L_law B 23 [some (.ref 100000), some (.ref 0), some (.ref 119), some (.ref 125), some (.int (nI i)), none, none, none, none] [] (EHp g k r) (fun o _ => o = .inl (some (.int 1))) := by
  intro n9
  induction n9 with
  | zero =>
    intro i B g k r w h1 hi hB G hg hf
    refine r_iload (pc := 23) dL_law_23 rfl ?_
    refine r_aload_n (pc := 25) dL_law_25 rfl rfl ?_
    refine r_talen (v := nI (om_L om)) (pc := 26) dL_law_26 law_a rfl ?_
    refine r_bipush (v := 6) (pc := 27) dL_law_27 rfl ?_
    refine r_isub (pc := 29) dL_law_29 ?_
    refine r_icmp_gt 1855 (pc := 30) dL_law_30 (by decide) (fun _ => ?_) (fun z => absurd ((len_gt (by omega) hL).mpr (by omega)) z)
    refine r_iconst (v := 1) (pc := 1855) dL_law_1855 rfl ?_
    exact r_ireturn (S := []) (pc := 1856) dL_law_1856 rfl rfl rfl
  | succ n9 ih =>
    intro i B g k r w h1 hi hB G hg hf
    refine r_iload (pc := 23) dL_law_23 rfl ?_
    refine r_aload_n (pc := 25) dL_law_25 rfl rfl ?_
    refine r_talen (v := nI (om_L om)) (pc := 26) dL_law_26 law_a rfl ?_
    refine r_bipush (v := 6) (pc := 27) dL_law_27 rfl ?_
    refine r_isub (pc := 29) dL_law_29 ?_
    refine r_icmp_gt 1855 (pc := 30) dL_law_30 (by decide) (fun _ => ?_) (fun z => ?_)
    · refine r_iconst (v := 1) (pc := 1855) dL_law_1855 rfl ?_
      exact r_ireturn (S := []) (pc := 1856) dL_law_1856 rfl rfl rfl
    have hi6 : i + 6 ≤ om_L om := by
      have z2 : ¬ om_L om < i + 6 := fun y => z ((len_gt (by omega) hL).mpr y)
      omega
    refine r_aload_n (pc := 33) dL_law_33 rfl rfl ?_
    refine r_iload (pc := 34) dL_law_34 rfl ?_
    refine r_taload (n := om_L om) (pc := 36) dL_law_36 law_a (vin_n (k := i) rfl (by omega) (by omega)) ?_
    rw [cl_n (k := i) (n := om_L om) rfl (by omega) (by omega)]
    refine r_bipush (v := 31) (pc := 37) dL_law_37 rfl ?_
    refine r_iand (pc := 39) dL_law_39 ?_
    obtain ⟨q, hq, e⟩ := and31 (om_xs om i)
    rw [e]
    have KK : LawK om l (fun o _ => o = .inl (some (.int 1))) i B := by
      intro B' hB' g' k' r' w' G' hg' hf'
      refine q_iinc (nI (i + 6)) [_, _, _, _, _, _, _, _, _] (pc := 1849) dL_law_1849 rfl (by decide) (ninc 6 rfl) rfl ?_
      refine r_goto 23 (pc := 1852) dL_law_1852 (by decide) ?_
      exact ih (i + 6) B' g' k' r' w' (by omega) (by omega) (by omega) G' hg' hf'
    have hB1 : 1 ≤ B.1 ∧ 6 ≤ B.2 := by omega
    have h31 : q = 0 ∨ q = 1 ∨ q = 2 ∨ q = 3 ∨ q = 4 ∨ q = 5 ∨ q = 6 ∨ q = 7 ∨ q = 8 ∨ q = 9 ∨ q = 10 ∨ q = 11 ∨ q = 12 ∨ q = 13 ∨ q = 14 ∨ q = 15 ∨ q = 16 ∨ q = 17 ∨ q = 18 ∨ q = 19 ∨ q = 20 ∨ q = 21 ∨ q = 22 ∨ q = 23 ∨ q = 24 ∨ q = 25 ∨ q = 26 ∨ q = 27 ∨ q = 28 ∨ q = 29 ∨ q = 30 ∨ q = 31 := by omega
    rcases h31 with rfl | rfl | rfl | rfl | rfl | rfl | rfl | rfl | rfl | rfl | rfl | rfl | rfl | rfl | rfl | rfl | rfl | rfl | rfl | rfl | rfl | rfl | rfl | rfl | rfl | rfl | rfl | rfl | rfl | rfl | rfl | rfl
    · refine r_tableIn 180 (pc := 40) dL_law_40 (by decide) (by decide) rfl (by decide) ?_
      exact lc_begin hl i hi6 hL hB1 KK G hg hf
    · refine r_tableIn 236 (pc := 40) dL_law_40 (by decide) (by decide) rfl (by decide) ?_
      exact lc_setLevel hl i hi6 hL hB1 KK G hg hf
    · refine r_tableIn 292 (pc := 40) dL_law_40 (by decide) (by decide) rfl (by decide) ?_
      exact lc_setFlow hl i hi6 hL hB1 KK G hg hf
    · refine r_tableIn 348 (pc := 40) dL_law_40 (by decide) (by decide) rfl (by decide) ?_
      exact lc_setFoam hl i hi6 hL hB1 KK G hg hf
    · refine r_tableIn 404 (pc := 40) dL_law_40 (by decide) (by decide) rfl (by decide) ?_
      exact lc_addThing hl i hi6 hL hB1 KK G hg hf
    · refine r_tableIn 472 (pc := 40) dL_law_40 (by decide) (by decide) rfl (by decide) ?_
      exact lc_removeThing hl i hi6 hL hB1 KK G hg hf
    · refine r_tableIn 528 (pc := 40) dL_law_40 (by decide) (by decide) rfl (by decide) ?_
      exact lc_setStirrer hl i hi6 hL hB1 KK G hg hf
    · refine r_tableIn 632 (pc := 40) dL_law_40 (by decide) (by decide) rfl (by decide) ?_
      exact lc_set hl i hi6 hL hB1 KK G hg hf
    · refine r_tableIn 700 (pc := 40) dL_law_40 (by decide) (by decide) rfl (by decide) ?_
      exact lc_setS hl i hi6 hL hB1 KK G hg hf
    · refine r_tableIn 756 (pc := 40) dL_law_40 (by decide) (by decide) rfl (by decide) ?_
      exact lc_mask hl i hi6 hL hB1 KK G hg hf
    · refine r_tableIn 840 (pc := 40) dL_law_40 (by decide) (by decide) rfl (by decide) ?_
      exact lc_learn hl i hi6 hL hB1 KK G hg hf
    · refine r_tableIn 896 (pc := 40) dL_law_40 (by decide) (by decide) rfl (by decide) ?_
      exact lc_forget hl i hi6 hL hB1 KK G hg hf
    · refine r_tableIn 909 (pc := 40) dL_law_40 (by decide) (by decide) rfl (by decide) ?_
      exact lc_shoot hl i hi6 hL hB1 KK G hg hf
    · refine r_tableIn 965 (pc := 40) dL_law_40 (by decide) (by decide) rfl (by decide) ?_
      exact lc_echo hl i hi6 hL hB1 KK G hg hf
    · refine r_tableIn 1033 (pc := 40) dL_law_40 (by decide) (by decide) rfl (by decide) ?_
      exact lc_pick hl i hi6 hL hB1 KK G hg hf
    · refine r_tableIn 1089 (pc := 40) dL_law_40 (by decide) (by decide) rfl (by decide) ?_
      exact lc_isMasked hl i hi6 hL hB1 KK G hg hf
    · refine r_tableIn 1152 (pc := 40) dL_law_40 (by decide) (by decide) rfl (by decide) ?_
      exact lc_need hl i hi6 hL hB1 KK G hg hf
    · refine r_tableIn 1208 (pc := 40) dL_law_40 (by decide) (by decide) rfl (by decide) ?_
      exact lc_thing hl i hi6 hL hB1 KK G hg hf
    · refine r_tableIn 1276 (pc := 40) dL_law_40 (by decide) (by decide) rfl (by decide) ?_
      exact lc_angle hl i hi6 hL hB1 KK G hg hf
    · refine r_tableIn 1332 (pc := 40) dL_law_40 (by decide) (by decide) rfl (by decide) ?_
      exact lc_tank hl i hi6 hL hB1 KK G hg hf
    · refine r_tableIn 1388 (pc := 40) dL_law_40 (by decide) (by decide) rfl (by decide) ?_
      exact lc_setting hl i hi6 hL hB1 KK G hg hf
    · refine r_tableIn 1444 (pc := 40) dL_law_40 (by decide) (by decide) rfl (by decide) ?_
      exact lc_gauge hl i hi6 hL hB1 KK G hg hf
    · refine r_tableIn 1500 (pc := 40) dL_law_40 (by decide) (by decide) rfl (by decide) ?_
      exact lc_meanPick hl hN i hi6 hL hB1 KK G hg hf
    · refine r_tableIn 1541 (pc := 40) dL_law_40 (by decide) (by decide) rfl (by decide) ?_
      exact lc_toldAfter hl i hi6 hL hB1 KK G hg hf
    · refine r_tableIn 1597 (pc := 40) dL_law_40 (by decide) (by decide) rfl (by decide) ?_
      exact lc_worstError hl i hi6 hL hB1 KK G hg hf
    · refine r_tableIn 1653 (pc := 40) dL_law_40 (by decide) (by decide) rfl (by decide) ?_
      exact lc_bestMode hl i hi6 hL hB1 KK G hg hf
    · refine r_tableIn 1709 (pc := 40) dL_law_40 (by decide) (by decide) rfl (by decide) ?_
      exact lc_type hl i hi6 hL hB1 KK G hg hf
    · refine r_tableIn 1765 (pc := 40) dL_law_40 (by decide) (by decide) rfl (by decide) ?_
      exact lc_clearCommands hl i hi6 hL hB1 KK G hg hf
    · refine r_tableIn 1778 (pc := 40) dL_law_40 (by decide) (by decide) rfl (by decide) ?_
      exact lc_runCommands hl i hi6 hL hB1 KK G hg hf
    · refine r_tableIn 1791 (pc := 40) dL_law_40 (by decide) (by decide) rfl (by decide) ?_
      exact lc_undo hl i hi6 hL hB1 KK G hg hf
    · refine r_tableIn 1835 (pc := 40) dL_law_40 (by decide) (by decide) rfl (by decide) ?_
      exact lc_digest hl i hi6 hL hB1 KK G hg hf
    · refine r_tableOut 1849 (pc := 40) dL_law_40 (Or.inr (by decide)) (by decide) ?_
      exact KK B ⟨Nat.sub_le _ _, Nat.sub_le _ _⟩ g k r w G hg hf
