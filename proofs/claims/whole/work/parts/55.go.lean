/-! words by their letters and by their sums -/
def FD (d : Nat → Nat) : Nat → Nat
  | 0 => 0
  | k + 1 => 27 * FD d k + d k
theorem FD_uniq {a c : Nat → Nat} : ∀ (k m : Nat), (∀ j, j < k → 1 ≤ a j ∧ a j ≤ 26) → (∀ j, j < m → 1 ≤ c j ∧ c j ≤ 26) → FD a k = FD c m → k = m ∧ ∀ j, j < k → a j = c j := by
  intro k
  induction k with
  | zero =>
    intro m _ hc h
    cases m with
    | zero => exact ⟨rfl, fun j hj => absurd hj (by omega)⟩
    | succ m =>
      have := hc m (by omega)
      have h' : 0 = 27 * FD c m + c m := h
      omega
  | succ k ih =>
    intro m ha hc h
    cases m with
    | zero =>
      have := ha k (by omega)
      have h' : 27 * FD a k + a k = 0 := h
      omega
    | succ m =>
      have h1 := ha k (by omega)
      have h2 := hc m (by omega)
      have h' : 27 * FD a k + a k = 27 * FD c m + c m := h
      have e1 : FD a k = FD c m := by omega
      have e2 : a k = c m := by omega
      obtain ⟨q1, q2⟩ := ih m (fun j hj => ha j (by omega)) (fun j hj => hc j (by omega)) e1
      subst q1
      refine ⟨rfl, fun j hj => ?_⟩
      by_cases hjk : j = k
      · subst hjk; exact e2
      · exact q2 j (by omega)
theorem FD_lt {a : Nat → Nat} (k : Nat) : (∀ j, j < k → a j ≤ 26) → FD a k < 27 ^ k := by
  induction k with
  | zero => exact fun _ => Nat.one_pos
  | succ k ih =>
    intro h
    have h1 := ih (fun j hj => h j (by omega))
    have h2 := h k (by omega)
    show 27 * FD a k + a k < 27 ^ (k + 1)
    rw [Nat.pow_succ]
    omega
def dgt (t : Nat → Int32) (p j : Nat) : Nat := cl (t (p + j)) - 96
def hsN (i : Nat) : Nat := FD (fun j => cl (tx_c i j) - 96) (tx_len i)
theorem hsN_v : hsN 0 = 394778 ∧ hsN 1 = 6491892 ∧ hsN 2 = 127274 ∧ hsN 3 = 129073 ∧ hsN 4 = 10793230 ∧ hsN 5 = 35097859 ∧ hsN 6 = 14006 ∧ hsN 7 = 6476936 ∧ hsN 8 = 10266203 := by decide +kernel
theorem tx_dg : ∀ i, i < 9 → ∀ j, j < tx_len i → 97 ≤ cl (tx_c i j) ∧ cl (tx_c i j) ≤ 122 ∧ tx_c i j = nI (cl (tx_c i j)) := by decide +kernel
/-- letters -/
def LT (x : Int32) : Prop := ∃ c, 97 ≤ c ∧ c ≤ 122 ∧ x = nI c
theorem an_lt2 {t : Nat → Int32} {L p : Nat} (h : ¬ R_an t L p 97 122 = 0) : p < L ∧ LT (t p) := by
  have h0 := an_lt h
  refine ⟨h0, ?_⟩
  unfold R_an at h
  rw [if_neg (by omega)] at h
  have h1 : R_in (t p) 97 122 = 1 := (in01 _ _ _).resolve_left fun z => h (by rw [z, if_pos rfl])
  obtain ⟨w, e, a, b⟩ := in_ex (a := 97) (b := 122) h1 rfl rfl (by omega) (by omega)
  exact ⟨w, a, b, e⟩
theorem sal_iff {t : Nat → Int32} {p i : Nat} : ∀ (m j : Nat), K_sal t p i m j = 1 ↔ ∀ q, j ≤ q → q < j + m → tx_c i q = t (p + q) := by
  intro m
  induction m with
  | zero => exact fun j => ⟨fun _ q h1 h2 => absurd h2 (by omega), fun _ => rfl⟩
  | succ m ih =>
    intro j
    rw [K_sal]
    by_cases h : tx_c i j = t (p + j)
    · rw [if_pos h, ih]
      refine ⟨fun z q h1 h2 => ?_, fun z q h1 h2 => z q (by omega) (by omega)⟩
      by_cases h3 : q = j
      · subst h3; exact h
      · exact z q (by omega) (by omega)
    · rw [if_neg h]
      exact ⟨fun z => absurd z (by decide), fun z => absurd (z j (Nat.le_refl _) (by omega)) h⟩
theorem FD_congr {a c : Nat → Nat} (k : Nat) : (∀ j, j < k → a j = c j) → FD a k = FD c k := by
  induction k with
  | zero => exact fun _ => rfl
  | succ k ih =>
    intro h
    rw [FD, FD, ih (fun j hj => h j (by omega)), h k (by omega)]
def tdg (i j : Nat) : Nat := cl (tx_c i j) - 96
theorem hsN_eq (i : Nat) : hsN i = FD (tdg i) (tx_len i) := rfl
theorem dgt_ok {t : Nat → Int32} {p j : Nat} (h : LT (t (p + j))) : 1 ≤ dgt t p j ∧ dgt t p j ≤ 26 := by
  obtain ⟨c, h1, h2, e⟩ := h
  unfold dgt
  rw [cl_nI e (by omega)]
  omega
theorem tdg_ok {i j : Nat} (hi : i < 9) (hj : j < tx_len i) : 1 ≤ tdg i j ∧ tdg i j ≤ 26 := by
  have := tx_dg i hi j hj
  unfold tdg
  omega
theorem dg_eq {t : Nat → Int32} {p i j : Nat} (hi : i < 9) (hj : j < tx_len i) (h : LT (t (p + j))) : dgt t p j = tdg i j ↔ tx_c i j = t (p + j) := by
  obtain ⟨c, c1, c2, ec⟩ := h
  obtain ⟨d1, d2, ed⟩ := tx_dg i hi j hj
  unfold dgt tdg
  rw [cl_nI ec (by omega)]
  constructor
  · intro z
    have : c = cl (tx_c i j) := by omega
    rw [ed, ec, this]
  · intro z
    rw [z, cl_nI ec (by omega)]
theorem sa_len {t : Nat → Int32} {p q i : Nat} (h : ¬ K_sa t p q i = 0) : tx_len i = q - p ∧ K_sal t p i (tx_len i) 0 = 1 := by
  unfold K_sa at h
  by_cases hh : tx_len i = q - p
  · rw [if_pos hh] at h
    exact ⟨hh, (sal01 _ _).resolve_left h⟩
  · rw [if_neg hh] at h
    exact absurd rfl h
theorem sa_iff {t : Nat → Int32} {p q i : Nat} (hi : i < 9) (hl : ∀ j, j < q - p → LT (t (p + j))) : ¬ K_sa t p q i = 0 ↔ FD (dgt t p) (q - p) = hsN i := by
  rw [hsN_eq]
  constructor
  · intro h
    obtain ⟨h1, h2⟩ := sa_len h
    have h3 := (sal_iff _ _).mp h2
    rw [← h1]
    exact FD_congr _ fun j hj => (dg_eq hi hj (hl j (by omega))).mpr (h3 j (Nat.zero_le _) (by omega))
  · intro h
    obtain ⟨e1, e2⟩ := FD_uniq _ _ (fun j hj => dgt_ok (hl j hj)) (fun j hj => tdg_ok hi hj) h
    have h1 : K_sal t p i (tx_len i) 0 = 1 := (sal_iff _ _).mpr fun j _ hj => (dg_eq hi (by omega) (hl j (by omega))).mp (e2 j (by omega))
    unfold K_sa
    rw [if_pos e1.symm, h1]
    decide
theorem wi_spec {t : Nat → Int32} {p q : Nat} : ∀ (m i : Nat), (K_wi t p q m i < i + m ∧ i ≤ K_wi t p q m i ∧ ¬ K_sa t p q (K_wi t p q m i) = 0) ∨ (K_wi t p q m i = i + m ∧ ∀ j, i ≤ j → j < i + m → K_sa t p q j = 0) := by
  intro m
  induction m with
  | zero => exact fun i => Or.inr ⟨rfl, fun j h1 h2 => absurd h2 (by omega)⟩
  | succ m ih =>
    intro i
    rw [K_wi]
    by_cases h : K_sa t p q i = 0
    · rw [if_pos h]
      rcases ih (i + 1) with ⟨a, b, c⟩ | ⟨a, b⟩
      · exact Or.inl ⟨by omega, by omega, c⟩
      · refine Or.inr ⟨by omega, fun j h1 h2 => ?_⟩
        by_cases h3 : j = i
        · subst h3; exact h
        · exact b j (by omega) (by omega)
    · rw [if_neg h]
      exact Or.inl ⟨by omega, Nat.le_refl _, h⟩
/-- the reference's sum -/
theorem i64_small : ∀ c, c < 128 → (nI c).toInt64 = Int64.ofNat c := by decide +kernel
theorem wv_step {a c : Nat} {y f : Int32} (hc : 97 ≤ c) (hc2 : c ≤ 122) (h : ¬ (8 : Int32) ≤ y - f) : R_wv y f (nI c) (Int64.ofNat a) = Int64.ofNat (27 * a + (c - 96)) := by
  unfold R_wv
  rw [if_neg h, i64_small c (by omega)]
  obtain ⟨d, rfl⟩ : ∃ d, c = 96 + d := ⟨c - 96, by omega⟩
  rw [show 96 + d - 96 = d by omega, Int64.ofNat_add, Int64.ofNat_add, Int64.ofNat_mul]
  show 27 * Int64.ofNat a + (Int64.ofNat 96 + Int64.ofNat d) - 96 = Int64.ofNat 27 * Int64.ofNat a + Int64.ofNat d
  rw [show Int64.ofNat 96 = 96 from rfl, show Int64.ofNat 27 = 27 from rfl]
  grind
/-- letters read from f: k so far -/
theorem wl_spec {t : Nat → Int32} {L f : Nat} (hL : L ≤ 150) : ∀ (m k : Nat) (w : Int64), f + k + m = L → (k ≤ 8 → w = Int64.ofNat (FD (dgt t f) k)) → (∀ j, j < k → LT (t (f + j))) → ∃ k', k ≤ k' ∧ (R_wl t L (nI f) m (f + k) w).1 = f + k' ∧ f + k' ≤ L ∧ (∀ j, j < k' → LT (t (f + j))) ∧ (k' ≤ 8 → (R_wl t L (nI f) m (f + k) w).2 = Int64.ofNat (FD (dgt t f) k')) := by
  intro m
  induction m with
  | zero => exact fun k w hk hw hl => ⟨k, Nat.le_refl _, rfl, by omega, hl, hw⟩
  | succ m ih =>
    intro k w hk hw hl
    rw [R_wl]
    by_cases h : R_an t L (f + k) 97 122 = 0
    · rw [if_pos h]
      exact ⟨k, Nat.le_refl _, rfl, by omega, hl, hw⟩
    · rw [if_neg h]
      obtain ⟨h1, h2⟩ := an_lt2 h
      have hl2 : ∀ j, j < k + 1 → LT (t (f + j)) := fun j hj => by
        by_cases h3 : j = k
        · subst h3; exact h2
        · exact hl j (by omega)
      obtain ⟨k', a, b, c, d, e⟩ := ih (k + 1) (R_wv (nI (f + k)) (nI f) (t (f + k)) w) (by omega) (fun h8 => by
        obtain ⟨c, c1, c2, ec⟩ := h2
        rw [hw (by omega), ec, wv_step c1 c2 (by
          rw [pk_sub (by omega)]
          exact fun z => by
            have := (nI_leI (a := 8) (b := f + k - f) (by omega) (by omega)).mp z
            omega)]
        show _ = Int64.ofNat (27 * FD (dgt t f) k + dgt t f k)
        unfold dgt
        rw [cl_nI ec (by omega)]) hl2
      exact ⟨k', by omega, b, c, d, e⟩
theorem cmp_eq {x y : Int64} : lg_cmp x y = 0 ↔ x = y := by
  unfold lg_cmp
  by_cases h : x > y
  · rw [if_pos h]
    refine ⟨fun z => absurd z (by decide), fun z => ?_⟩
    subst z
    exact absurd h (Int64.lt_irrefl)
  · rw [if_neg h]
    by_cases h2 : x = y
    · rw [if_pos h2]; exact ⟨fun _ => h2, fun _ => rfl⟩
    · rw [if_neg h2]; exact ⟨fun z => absurd z (by decide), fun z => absurd z h2⟩
theorem of_inj {a c : Nat} (ha : a < 2 ^ 63) (hc : c < 2 ^ 63) : Int64.ofNat a = Int64.ofNat c ↔ a = c := by
  refine ⟨fun h => ?_, fun h => by rw [h]⟩
  have h1 := congrArg Int64.toInt h
  rw [Int64.toInt_ofNat_of_lt ha, Int64.toInt_ofNat_of_lt hc] at h1
  omega
theorem cmp_N {a c : Nat} (ha : a < 2 ^ 63) (hc : c < 2 ^ 63) : lg_cmp (Int64.ofNat a) (Int64.ofNat c) = 0 ↔ a = c := cmp_eq.trans (of_inj ha hc)
theorem many_none {a : Nat} (ha : a < 2 ^ 63) (h : ∀ i, i < 9 → a ≠ hsN i) : R_many (Int64.ofNat a) = -1 := by
  obtain ⟨v0, v1, v2, v3, v4, v5, v6, v7, v8⟩ := hsN_v
  have n : ∀ c : Nat, c < 2 ^ 63 → a ≠ c → ¬ lg_cmp (Int64.ofNat a) (Int64.ofNat c) = 0 := fun c hc h z => h ((cmp_N ha hc).mp z)
  unfold R_many R_many2
  rw [if_neg (show ¬ lg_cmp (Int64.ofNat a) 394778 = 0 from n 394778 (by omega) (v0 ▸ h 0 (by omega))), if_neg (show ¬ lg_cmp (Int64.ofNat a) 6491892 = 0 from n 6491892 (by omega) (v1 ▸ h 1 (by omega))), if_neg (show ¬ lg_cmp (Int64.ofNat a) 127274 = 0 from n 127274 (by omega) (v2 ▸ h 2 (by omega))), if_neg (show ¬ lg_cmp (Int64.ofNat a) 129073 = 0 from n 129073 (by omega) (v3 ▸ h 3 (by omega))), if_neg (show ¬ lg_cmp (Int64.ofNat a) 6476936 = 0 from n 6476936 (by omega) (v7 ▸ h 7 (by omega))), if_neg (show ¬ lg_cmp (Int64.ofNat a) 10266203 = 0 from n 10266203 (by omega) (v8 ▸ h 8 (by omega))), if_neg (show ¬ lg_cmp (Int64.ofNat a) 10793230 = 0 from n 10793230 (by omega) (v4 ▸ h 4 (by omega))), if_neg (show ¬ lg_cmp (Int64.ofNat a) 14006 = 0 from n 14006 (by omega) (v6 ▸ h 6 (by omega))), if_neg (show ¬ lg_cmp (Int64.ofNat a) 35097859 = 0 from n 35097859 (by omega) (v5 ▸ h 5 (by omega)))]
theorem many_i : ∀ i, i < 9 → R_many (Int64.ofNat (hsN i)) = c_num.getD i 0 := by decide +kernel
theorem hs_inj : ∀ i, i < 9 → ∀ j, j < 9 → hsN i = hsN j → i = j := by decide +kernel
/-- the word at p, both ways -/
theorem word_ag {t : Nat → Int32} {L p : Nat} (hL : L ≤ 150) (hp : p ≤ L) : (K_w t L p = 9 ∧ R_wo1 t L p = 0) ∨ (K_w t L p < 9 ∧ ¬ R_wo1 t L p = 0 ∧ (R_w1 t L p).2 = Int64.ofNat (hsN (K_w t L p)) ∧ R_many (R_w1 t L p).2 = c_num.getD (K_w t L p) 0) := by
  obtain ⟨k, hk0, h1, h2, hl, hw⟩ := wl_spec (t := t) (f := p) hL (L - p) 0 0 (by omega) (fun _ => rfl) (fun j hj => absurd hj (by omega))
  rw [Nat.add_zero] at h1 hw
  change (R_w1 t L p).1 = p + k at h1
  change k ≤ 8 → (R_w1 t L p).2 = Int64.ofNat (FD (dgt t p) k) at hw
  have hlq : ∀ j, j < (R_w1 t L p).1 - p → LT (t (p + j)) := fun j hj => hl j (by omega)
  have eK : (R_w1 t L p).1 - p = k := by omega
  have e9 : K_w t L p = K_wi t p (R_w1 t L p).1 9 0 := rfl
  have hsp := wi_spec (t := t) (p := p) (q := (R_w1 t L p).1) 9 0
  rw [← e9] at hsp
  have hlen : ∀ i, i < 9 → ¬ K_sa t p (R_w1 t L p).1 i = 0 → 3 ≤ k ∧ k ≤ 6 := fun i hi h => by
    unfold K_sa at h
    by_cases hh : tx_len i = (R_w1 t L p).1 - p
    · have := tx_l6 i hi
      omega
    · rw [if_neg hh] at h; exact absurd rfl h
  unfold R_wo1 R_wok
  rcases hsp with ⟨a, -, c⟩ | ⟨a, c⟩
  · refine Or.inr ⟨by omega, ?_⟩
    have a' : K_w t L p < 9 := by omega
    have hh := hlen _ a' c
    have hF := (sa_iff a' hlq).mp c
    rw [eK] at hF
    have hW := hw (by omega)
    rw [hF] at hW
    have hM : R_many (R_w1 t L p).2 = c_num.getD (K_w t L p) 0 := by rw [hW]; exact many_i _ a'
    refine ⟨?_, hW, hM⟩
    rw [h1, if_neg (fun z => by have := (nI_leI (a := p + k) (b := p) (by omega) (by omega)).mp z; omega), pk_sub (by omega), if_neg (fun z => by have := (nI_ltI (a := 8) (b := p + k - p) (by omega) (by omega)).mp z; omega), hM, if_neg (by rw [(nm_ok _ a').1]; exact neg1_ne (by have := (nm_ok _ a').2; omega))]
    decide
  · refine Or.inl ⟨by omega, ?_⟩
    rw [h1]
    by_cases k0 : k = 0
    · rw [if_pos ((nI_leI (by omega) (by omega)).mpr (by omega))]
    · rw [if_neg (fun z => by have := (nI_leI (a := p + k) (b := p) (by omega) (by omega)).mp z; omega), pk_sub (by omega)]
      by_cases k8 : 8 < k
      · rw [if_pos (show (8 : Int32) < nI (p + k - p) from (nI_ltI (a := 8) (b := p + k - p) (by omega) (by omega)).mpr (by omega))]
      · rw [if_neg (fun z => by have := (nI_ltI (a := 8) (b := p + k - p) (by omega) (by omega)).mp z; omega), hw (by omega)]
        have hlt : FD (dgt t p) k < 2 ^ 63 := by
          have b1 := FD_lt (a := dgt t p) k (fun j hj => by
            obtain ⟨c, c1, c2, ec⟩ := hl j hj
            unfold dgt
            rw [cl_nI ec (by omega)]
            omega)
          have b2 : 27 ^ k ≤ 27 ^ 8 := Nat.pow_le_pow_right (by omega) (by omega)
          have b3 : (27 : Nat) ^ 8 < 2 ^ 63 := by decide
          omega
        rw [many_none hlt (fun i hi z => by
          have := c i (Nat.zero_le _) (by omega)
          refine ((sa_iff hi hlq).mpr ?_) this
          rw [eK]; exact z), if_pos rfl]
