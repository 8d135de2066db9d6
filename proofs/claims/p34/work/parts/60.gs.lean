/-! deeds agree: set, begin, forget, mask, learn, shoot -/
theorem cset_rng {A : Nat → Int32} {k : Nat} {x d : Int32} (hx : x = nI k) (hk : k ≤ 11) (hc : ¬ R_cSet A x d = 0) : R_in d (R_least x) (R_most k) = 1 := by
  refine (in01 _ _ _).resolve_left fun z => hc ?_
  unfold R_cSet
  rw [cl_nI hx (by omega), if_pos z]
  split <;> rfl
theorem sets_st {A : Nat → Int32} {k j : Nat} {d : Int32} (h1 : j ≠ 31) (h2 : j ≠ 12 + k) : R_sets A k d j = A j := by
  unfold R_sets
  rw [upd_n h1, upd_n h2]
theorem nI_le_iff {a b : Nat} (ha : a < 2 ^ 31) (hb : b < 2 ^ 31) : nI a ≤ nI b ↔ a ≤ b := by
  rw [Int32.le_iff_toInt_le, nI_toInt ha, nI_toInt hb]
  omega
theorem sets_ne {A : Nat → Int32} {k : Nat} {d : Int32} (h : P3 A) (h6 : k ≠ 6) : R_sets A k d = upd A (12 + k) d ∨ k = 19 := by
  obtain ⟨K, L, h31, h18, hKL, hL⟩ := h
  by_cases h19 : k = 19
  · exact Or.inr h19
  · refine Or.inl (funext fun j => ?_)
    unfold R_sets
    by_cases e : j = 31
    · subst e
      rw [upd_s, upd_n (by omega)]
      unfold R_cut
      rw [upd_n (by omega), upd_n (by omega), h31, h18, if_pos ((nI_le_iff (by omega) (by omega)).mpr hKL)]
    · rw [upd_n e]
theorem AG_sets {C A : Nat → Int32} {W : Nat → Int64} {k : Nat} {d : Int32} (h : AG C W A) (o : OKA A) (hk : k ≤ 11) (h6 : k ≠ 6) : AG (upd C (12 + k) d) W (R_sets A k d) := by
  rcases sets_ne (d := d) o.2.2 h6 with e | e
  · rw [e]; exact AG_put h (by omega) (by omega)
  · omega
theorem cut_6 {A : Nat → Int32} {K L : Nat} {d : Int32} (h31 : A 31 = nI K) (hK : K ≤ 9) (hd : d = nI L) (hL : L ≤ 9) : R_cut (upd A (12 + 6) d) = nI (min K L) := by
  unfold R_cut
  rw [upd_n (by omega), show 12 + 6 = 18 from rfl, upd_s, h31, hd]
  by_cases e : K ≤ L
  · rw [if_pos ((nI_le_iff (by omega) (by omega)).mpr e), Nat.min_eq_left e]
  · rw [if_neg (fun z => e ((nI_le_iff (by omega) (by omega)).mp z)), Nat.min_eq_right (by omega)]
theorem AG_sets6 {C A : Nat → Int32} {W : Nat → Int64} {K L : Nat} {d : Int32} (h : AG C W A) (h31 : A 31 = nI K) (hK : K ≤ 9) (hd : d = nI L) (hL : L ≤ 9) : AG (upd (upd C (12 + 6) d) 31 (nI (min K L))) W (R_sets A 6 d) := by
  obtain ⟨a, b, c⟩ := h
  have s31 : R_sets A 6 d 31 = nI (min K L) := by unfold R_sets; rw [upd_s]; exact cut_6 h31 hK hd hL
  refine ⟨fun j hj => ?_, fun i hi => ?_, ?_⟩
  · by_cases e1 : j = 31
    · subst e1; rw [upd_s, s31]
    · by_cases e2 : j = 12 + 6
      · subst e2; unfold R_sets; rw [upd_n (by omega), upd_s, upd_n (by omega), upd_s]
      · rw [upd_n e1, upd_n e2, sets_st e1 e2]
        refine a j ?_
        unfold Lv at hj ⊢
        rw [s31, sets_st (by omega) (by omega), sets_st (by omega) (by omega), sets_st (by omega) (by omega), sets_st (by omega) (by omega), cl_nI (x := nI (min K L)) rfl (by omega)] at hj
        rw [h31, cl_nI (x := nI K) rfl (by omega)]
        omega
  · rw [sets_st (by omega) (by omega)]; exact b i hi
  · unfold MC
    rw [upd_n (by omega), upd_n (by omega), mkd_cong (B := A) 501 (fun i hi => sets_st (by omega) (by omega))]
    exact c
theorem sets_rng {A : Nat → Int32} {k : Nat} {x d : Int32} (hx : x = nI k) (hk : k ≤ 11) (hc : ¬ R_cSet A x d = 0) : (k = 1 → ∃ v, d = nI v ∧ v ≤ 20) ∧ (k = 6 → ∃ v, d = nI v ∧ 1 ≤ v ∧ v ≤ 9) ∧ (k = 7 → ∃ v, d = nI v ∧ 1 ≤ v ∧ v ≤ 20) := by
  have hv := cset_rng hx hk hc
  refine ⟨fun e => ?_, fun e => ?_, fun e => ?_⟩
  · subst e; subst hx
    obtain ⟨v, h1, -, h2⟩ := in_ex (a := 0) (b := 20) hv rfl rfl (by omega) (by omega)
    exact ⟨v, h1, h2⟩
  · subst e; subst hx
    obtain ⟨v, h1, h3, h2⟩ := in_ex (a := 1) (b := 9) hv rfl rfl (by omega) (by omega)
    exact ⟨v, h1, h3, h2⟩
  · subst e; subst hx
    obtain ⟨v, h1, h3, h2⟩ := in_ex (a := 1) (b := 20) hv rfl rfl (by omega) (by omega)
    exact ⟨v, h1, h3, h2⟩
theorem OKA_sets {A : Nat → Int32} {k : Nat} {x d : Int32} (o : OKA A) (hx : x = nI k) (hk : k ≤ 11) (hc : ¬ R_cSet A x d = 0) : OKA (R_sets A k d) := by
  obtain ⟨wf, wx, K, L, h31, h18, hKL, hL⟩ := o
  obtain ⟨r1, r6, r7⟩ := sets_rng hx hk hc
  obtain ⟨l1, l2, l3, l4, l5⟩ := cls_le wf
  obtain ⟨q13, q18, q19, qT, qa, qb, qm, qB⟩ := wx
  have s12 : R_sets A k d (12 + k) = d := by unfold R_sets; rw [upd_n (by omega), upd_s]
  have e31 : ∃ K' : Nat, R_sets A k d 31 = nI K' ∧ K' ≤ K ∧ ∃ L' : Nat, R_sets A k d 18 = nI L' ∧ K' ≤ L' ∧ L' ≤ 9 := by
    by_cases h6 : k = 6
    · subst h6
      obtain ⟨v, hv, hv1, hv9⟩ := r6 rfl
      refine ⟨min K v, ?_, by omega, v, by rw [← hv]; exact s12, by omega, hv9⟩
      unfold R_sets
      rw [upd_s]
      exact cut_6 h31 (by omega) hv hv9
    · rcases sets_ne (d := d) ⟨K, L, h31, h18, hKL, hL⟩ h6 with e | e
      · exact ⟨K, by rw [e, upd_n (by omega)]; exact h31, Nat.le_refl _, L, by rw [e, upd_n (by omega)]; exact h18, hKL, hL⟩
      · omega
  obtain ⟨K', k31, hK', L', k18, hL', hL9⟩ := e31
  refine ⟨WF_sets wf hx hk hc, ⟨?_, ?_, ?_, fun D a1 a2 => ?_, fun i hi => ?_, fun i hi => ?_, fun e he => ?_, fun i hi => ?_⟩, K', L', k31, k18, hL', hL9⟩
  · by_cases h1 : k = 1
    · obtain ⟨v, hv, hv2⟩ := r1 h1
      subst h1
      exact ⟨v, s12.trans hv, hv2⟩
    · rw [sets_st (by omega) (by omega)]; exact q13
  · by_cases h1 : k = 6
    · obtain ⟨v, hv, hv1, hv2⟩ := r6 h1
      subst h1
      exact ⟨v, s12.trans hv, hv1, hv2⟩
    · rw [sets_st (by omega) (by omega)]; exact q18
  · by_cases h1 : k = 7
    · obtain ⟨v, hv, hv1, hv2⟩ := r7 h1
      subst h1
      exact ⟨v, s12.trans hv, hv1, hv2⟩
    · rw [sets_st (by omega) (by omega)]; exact q19
  · rw [sets_st (by omega) (by omega)] at a1
    obtain ⟨b1, b2⟩ := qT D a1 a2
    refine ⟨by rw [sets_st (by omega) (by omega)]; exact b1, fun i hi => ?_⟩
    rw [k31, cl_nI (x := nI K') rfl (by omega)] at hi
    rw [sets_st (by omega) (by omega)]
    exact b2 i (by rw [h31, cl_nI (x := nI K) rfl (by omega)]; omega)
  · rw [sets_st (by omega) (by omega)] at hi
    rw [sets_st (by omega) (by omega)]; exact qa i hi
  · rw [sets_st (by omega) (by omega)] at hi
    rw [sets_st (by omega) (by omega)]; exact qb i hi
  · rw [sets_st (by omega) (by omega)] at he
    rw [sets_st (by omega) (by omega)]; exact qm e he
  · rw [sets_st (by omega) (by omega)]; exact qB i hi
/-! learn, shoot -/
theorem P3_learns {A : Nat → Int32} (hw : WF A) (h : P3 A) (k : Nat) : P3 (R_learns A k) := by
  induction k with
  | zero => exact h
  | succ k ih =>
    rw [learns_s]
    exact P3_same ih (by rw [lr_st (by omega), fires_st (WF_learns hw k) (by omega)]) (by rw [lr_st (by omega), fires_st (WF_learns hw k) (by omega)])
theorem OKA_learns {C A : Nat → Int32} {W : Nat → Int64} (h : AG C W A) (o : OKA A) (k : Nat) : AG (K_learns C W k).1 (K_learns C W k).2 (R_learns A k) ∧ OKA (R_learns A k) := by
  obtain ⟨a, b⟩ := AG_learns h o.1 o.2.1 k
  exact ⟨a, WF_learns o.1 k, b, P3_learns o.1 o.2.2 k⟩
theorem P3_shoots {A : Nat → Int32} (hw : WF A) (h : P3 A) (k : Nat) : P3 (R_shoots A k).1 := by
  induction k with
  | zero => exact h
  | succ k ih =>
    have e2 : (R_shoots A (k + 1)).1 = (R_shot (R_shoots A k).1).1 := by
      unfold R_shoots
      rw [itN_s, R_shb]
    rw [e2]
    exact P3_shot (WF_shoots hw k) ih
theorem OKA_shoots {C A : Nat → Int32} {W : Nat → Int64} (h : AG C W A) (o : OKA A) (k : Nat) : AG (K_shots W C k) W (R_shoots A k).1 ∧ OKA (R_shoots A k).1 := by
  obtain ⟨a, b⟩ := AG_shots h o.1 o.2.1 k
  exact ⟨a, WF_shoots o.1 k, b, P3_shoots o.1 o.2.2 k⟩
/-! forget, mask -/
theorem mkd_0 (k : Nat) : R_mkd (fun _ => 0) k = 0 := by
  induction k with
  | zero => rfl
  | succ k ih => rw [R_mkd, ih]; rfl
theorem zero_bin {W : Nat → Int64} {i : Nat} (hi : i ≤ 500) : K_bin (K_zero W 8) i = 0 := by
  unfold K_bin K_zero
  rw [if_pos (show i / 64 < 8 by omega), Int64.zero_and]
  exact if_pos (by decide)
theorem unm_n {A : Nat → Int32} {k j : Nat} (h : j < 146) : R_unm A k j = A j := if_neg (by omega)
theorem unm_0 {A : Nat → Int32} {i : Nat} (h : i ≤ 500) : R_unm A 501 (146 + i) = 0 := if_pos (by omega)
theorem AG_forget {C A : Nat → Int32} {W : Nat → Int64} (h : AG C W A) (hw : WF A) : AG (upd C 647 0) (K_zero W 8) (R_unm A 501) := by
  obtain ⟨a, b, c⟩ := h
  obtain ⟨l1, l2, l3, l4, l5⟩ := cls_le hw
  refine ⟨fun j hj => ?_, fun i hi => ?_, ?_⟩
  · have hj' : Lv A j := lv_eq (A' := R_unm A 501) (unm_n (by omega)) (unm_n (by omega)) (unm_n (by omega)) (unm_n (by omega)) (unm_n (by omega)) hj
    have lt : j < 146 := by unfold Lv at hj'; omega
    rw [upd_n (by omega), unm_n lt]
    exact a j hj'
  · rw [zero_bin hi, unm_0 hi]
  · unfold MC
    rw [upd_s, mkd_cong (B := fun _ => 0) 501 (fun i hi => unm_0 (by omega)), mkd_0]
theorem OKA_forget {A : Nat → Int32} (o : OKA A) : OKA (R_unm A 501) := by
  obtain ⟨l1, l2, l3, l4, l5⟩ := cls_le o.1
  exact ⟨WF_unm o.1 501, WX_hi o.2.1 (fun j hj => unm_n hj) (fun i hi => Or.inl (unm_0 hi)) l1 l2 l3 l4, P3_same o.2.2 (unm_n (by omega)) (unm_n (by omega))⟩
theorem AG_mask {C A : Nat → Int32} {W : Nat → Int64} {n : Nat} {m : Int32} (h : AG C W A) (o : OKA A) (hn : n ≤ 500) (hm : m = 0 ∨ m = 1) : AG (K_mputC C W n m) (K_mputW W n m) (upd A (146 + n) m) := by
  obtain ⟨a, b, c⟩ := h
  obtain ⟨l1, l2, l3, l4, l5⟩ := cls_le o.1
  obtain ⟨m1, m2, m3⟩ := mput_ag b c o.2.1.b01 hn hm
  refine ⟨fun j hj => ?_, m1, m2⟩
  have hj' : Lv A j := lv_eq (A' := upd A (146 + n) m) (upd_n (by omega)) (upd_n (by omega)) (upd_n (by omega)) (upd_n (by omega)) (upd_n (by omega)) hj
  have lt : j < 146 := by unfold Lv at hj'; omega
  rw [mputC_n (by omega), upd_n (by omega)]
  exact a j hj'
theorem OKA_mask {C A : Nat → Int32} {W : Nat → Int64} {n : Nat} {m : Int32} (h : AG C W A) (o : OKA A) (hn : n ≤ 500) (hm : m = 0 ∨ m = 1) : OKA (upd A (146 + n) m) := by
  obtain ⟨l1, l2, l3, l4, l5⟩ := cls_le o.1
  exact ⟨WF_hi o.1 (by omega), WX_hi o.2.1 (fun j hj => upd_n (by omega)) (mput_ag h.2.1 h.2.2 o.2.1.b01 hn hm).2.2 l1 l2 l3 l4, P3_same o.2.2 (upd_n (by omega)) (upd_n (by omega))⟩
