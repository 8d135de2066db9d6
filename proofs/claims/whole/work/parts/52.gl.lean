/-! the class: the command text -/
abbrev ctf (ln po : Int32) (wd : Value) : List Value := [.int ln, .ref 41, .int po, wd, .ref 42]
section CT
variable {H : Hp} {ln po : Int32} {wd : Value} {t nu : Nat → Int32}
theorem cH_40 : (cH H ln po wd t nu).1 40 = .inr (0, ctf ln po wd) := rfl
theorem cH_41 : (cH H ln po wd t nu).1 41 = .inl (1, 150, .inl t) := rfl
theorem cH_42 : (cH H ln po wd t nu).1 42 = .inl (0, 5, .inl nu) := rfl
theorem cH_out {j : Nat} (h : j < 40 ∨ 42 < j) : (cH H ln po wd t nu).1 j = H.1 j := by
  show (if j = 40 then _ else if j = 41 then _ else if j = 42 then _ else H.1 j) = H.1 j
  rw [if_neg (by omega), if_neg (by omega), if_neg (by omega)]
theorem cH_22 {ln' po' : Int32} {wd' : Value} {t' nu' : Nat → Int32} : (cH H ln po wd t nu).2 = (cH H ln' po' wd' t' nu').2 := rfl
theorem cH_o {ln' po' : Int32} {wd' : Value} : hs (cH H ln po wd t nu) 40 (.inr (0, ctf ln' po' wd')) = cH H ln' po' wd' t nu := by
  refine hp_ext (fun j => ?_) rfl
  show (if j = 40 then _ else (cH H ln po wd t nu).1 j) = (cH H ln' po' wd' t nu).1 j
  by_cases hj : j = 40
  · subst hj; rfl
  · rw [if_neg hj]; simp only [cH, if_neg hj]
theorem cH_t {t' : Nat → Int32} : hs (cH H ln po wd t nu) 41 (.inl (1, 150, .inl t')) = cH H ln po wd t' nu := by
  refine hp_ext (fun j => ?_) rfl
  show (if j = 41 then _ else (cH H ln po wd t nu).1 j) = (cH H ln po wd t' nu).1 j
  by_cases hj : j = 41
  · subst hj; rfl
  · rw [if_neg hj]; simp only [cH, if_neg hj]
theorem cH_n {nu' : Nat → Int32} : hs (cH H ln po wd t nu) 42 (.inl (0, 5, .inl nu')) = cH H ln po wd t nu' := by
  refine hp_ext (fun j => ?_) rfl
  show (if j = 42 then _ else (cH H ln po wd t nu).1 j) = (cH H ln po wd t nu').1 j
  by_cases hj : j = 42
  · subst hj; rfl
  · rw [if_neg hj]; simp only [cH, if_neg hj]
variable {om : OM} {l : Launch} {M : MI} {B : Nat × Nat} {pc : Nat} {L : List (Option Value)} {S : List Value} {Post : Out → Hp → Prop}
theorem tx_get {own : String} {idx f : Nat} {fin : Bool} {ty : FieldType} {v : Value} (d : decode (mi_by M) pc = .ok (.getfield idx, 3)) (ho : (mi_nm M).cls = own) (hF : FLD own idx 0 f fin ty) (hv : (ctf ln po wd)[f]? = some v) (k : Runs om l M B (pc + 3) L (v :: S) (cH H ln po wd t nu) Post) : Runs om l M B pc L (.ref 40 :: S) (cH H ln po wd t nu) Post := r_getfield d ho hF cH_40 hv k
theorem tx_put {own : String} {idx f : Nat} {ty : FieldType} {v : Value} (ln' po' : Int32) (wd' : Value) (d : decode (mi_by M) pc = .ok (.putfield idx, 3)) (ho : (mi_nm M).cls = own) (hF : FLD own idx 0 f false ty) (hn : ∀ w0 : OM, narrow ty (cv w0 v) = cv w0 v) (hf : ∀ w0 : OM, fits ty (cv w0 v) = true) (hl : f < 5) (hm : (ctf ln po wd).set f v = ctf ln' po' wd') (k : Runs om l M B (pc + 3) L S (cH H ln' po' wd' t nu) Post) : Runs om l M B pc L (v :: .ref 40 :: S) (cH H ln po wd t nu) Post :=
  r_putfield (fs := ctf ln po wd) d ho hF cH_40 hn hf hl (by rw [hm, cH_o]; exact k)
theorem tx_ldB {i : Int32} (k : Nat) (d : decode (mi_by M) pc = .ok (.baload, 1)) (hk : i = nI k) (hl : k < 150) (kk : Runs om l M B (pc + 1) L (.int (t k) :: S) (cH H ln po wd t nu) Post) : Runs om l M B pc L (.int i :: .ref 41 :: S) (cH H ln po wd t nu) Post :=
  r_baload (n := 150) (f := t) d cH_41 (vin_n hk hl (by decide)) (by rw [cl_n hk hl (by decide)]; exact kk)
theorem tx_stB {i x : Int32} (k : Nat) (d : decode (mi_by M) pc = .ok (.bastore, 1)) (hk : i = nI k) (hl : k < 150) (kk : Runs om l M B (pc + 1) L S (cH H ln po wd (upd t k (vp_nar .byte x)) nu) Post) : Runs om l M B pc L (.int x :: .int i :: .ref 41 :: S) (cH H ln po wd t nu) Post :=
  r_bastore (n := 150) (f := t) d cH_41 (vin_n hk hl (by decide)) (by rw [cl_n hk hl (by decide), cH_t]; exact kk)
theorem tx_ldN {i : Int32} (k : Nat) (d : decode (mi_by M) pc = .ok (.iaload, 1)) (hk : i = nI k) (hl : k < 5) (kk : Runs om l M B (pc + 1) L (.int (nu k) :: S) (cH H ln po wd t nu) Post) : Runs om l M B pc L (.int i :: .ref 42 :: S) (cH H ln po wd t nu) Post :=
  r_iaload (n := 5) (f := nu) d cH_42 (vin_n hk hl (by decide)) (by rw [cl_n hk hl (by decide)]; exact kk)
theorem tx_stN {i x : Int32} (k : Nat) (d : decode (mi_by M) pc = .ok (.iastore, 1)) (hk : i = nI k) (hl : k < 5) (kk : Runs om l M B (pc + 1) L S (cH H ln po wd t (upd nu k x)) Post) : Runs om l M B pc L (.int x :: .int i :: .ref 42 :: S) (cH H ln po wd t nu) Post :=
  r_iastore (n := 5) (f := nu) d cH_42 (vin_n hk hl (by decide)) (by rw [cl_n hk hl (by decide), cH_n]; exact kk)
end CT
def K_b (t : Nat → Int32) (L p : Nat) : Int32 := if p < L then t p else -1
theorem an_b {t : Nat → Int32} {L p : Nat} {lo hi : Int32} (h : (-1 : Int32) < lo) : R_in (K_b t L p) lo hi = R_an t L p lo hi := by
  unfold K_b R_an
  by_cases h1 : p < L
  · rw [if_pos h1, if_neg (by omega)]
    rcases in01 (t p) lo hi with h2 | h2
    · rw [h2, if_pos rfl]
    · rw [h2, if_neg (by decide)]
  · rw [if_neg h1, if_pos (by omega), R_in, if_pos h]
theorem s_X1_isFull {om : OM} {l : Launch} {B : Nat × Nat} {H : Hp} {ln po : Int32} {wd : Value} {t nu : Nat → Int32} (Ln : Nat) (hln : ln = nI Ln) (hL : Ln ≤ 150) : Runs om l M_X1_isFull B 0 (entL 1 [.ref 40]) [] (cH H ln po wd t nu) (Det (some (.int (if (150 : Int32) ≤ ln then 1 else 0))) (cH H ln po wd t nu)) := by
  show Runs om l M_X1_isFull B 0 [some (.ref 40)] [] _ _
  refine r_aload_n (pc := 0) dX1_isFull_0 rfl rfl ?_
  refine tx_get (pc := 1) dX1_isFull_1 rfl f_RX1_9 rfl ?_
  refine r_sipush (v := 150) (pc := 4) dX1_isFull_4 (by decide) ?_
  refine r_icmp_lt 14 (pc := 7) dX1_isFull_7 (by decide) (fun c7 => ?_) (fun c7 => ?_)
  · refine r_iconst (v := 0) (pc := 14) dX1_isFull_14 (by decide) ?_
    exact r_ireturn (S := []) (pc := 15) dX1_isFull_15 rfl rfl ⟨by first | (rw [if_pos (Int32.not_lt.mp c7)]; done) | (rw [if_neg (Int32.not_le.mpr c7)]; done), rfl⟩
  · refine r_iconst (v := 1) (pc := 10) dX1_isFull_10 (by decide) ?_
    refine r_goto 15 (pc := 11) dX1_isFull_11 (by decide) ?_
    exact r_ireturn (S := []) (pc := 15) dX1_isFull_15 rfl rfl ⟨by first | (rw [if_pos (Int32.not_lt.mp c7)]; done) | (rw [if_neg (Int32.not_le.mpr c7)]; done), rfl⟩
theorem s_X1_append {om : OM} {l : Launch} {B : Nat × Nat} {H : Hp} {ln po : Int32} {wd : Value} {t nu : Nat → Int32} (Ln : Nat) (hln : ln = nI Ln) (hL : Ln ≤ 150) (hL2 : Ln < 150) (x : Int32) : Runs om l M_X1_append B 0 (entL 2 [.ref 40, .int x]) [] (cH H ln po wd t nu) (Det (none) (cH H (ln + 1) po wd (upd t Ln (vp_nar .byte x.toInt8.toInt32)) nu)) := by
  show Runs om l M_X1_append B 0 [some (.ref 40), some (.int x)] [] _ _
  refine r_aload_n (pc := 0) dX1_append_0 rfl rfl ?_
  refine tx_get (pc := 1) dX1_append_1 rfl f_RX1_9 rfl ?_
  refine r_if_lt 40 (pc := 4) dX1_append_4 (by decide) (fun c4 => absurd c4 (c_ltf hln rfl (a := Ln) (b := 0) (by omega) (by omega) (by omega))) (fun c4 => ?_)
  refine r_aload_n (pc := 7) dX1_append_7 rfl rfl ?_
  refine tx_get (pc := 8) dX1_append_8 rfl f_RX1_9 rfl ?_
  refine r_aload_n (pc := 11) dX1_append_11 rfl rfl ?_
  refine tx_get (pc := 12) dX1_append_12 rfl f_RX1_15 rfl ?_
  refine r_alen (v := nI 150) (pc := 15) dX1_append_15 cH_41 (by decide) rfl ?_
  refine r_icmp_ge 40 (pc := 16) dX1_append_16 (by decide) (fun c16 => absurd c16 (c_gef hln rfl (a := Ln) (b := 150) (by omega) (by omega) (by omega))) (fun c16 => ?_)
  refine r_aload_n (pc := 19) dX1_append_19 rfl rfl ?_
  refine tx_get (pc := 20) dX1_append_20 rfl f_RX1_15 rfl ?_
  refine r_aload_n (pc := 23) dX1_append_23 rfl rfl ?_
  refine tx_get (pc := 24) dX1_append_24 rfl f_RX1_9 rfl ?_
  refine r_iload_n (pc := 27) dX1_append_27 rfl rfl ?_
  refine r_i2b (pc := 28) dX1_append_28 ?_
  refine tx_stB (Ln) (pc := 29) dX1_append_29 hln (by omega) ?_
  refine r_aload_n (pc := 30) dX1_append_30 rfl rfl ?_
  refine r_dup (pc := 31) dX1_append_31 rfl ?_
  refine tx_get (pc := 32) dX1_append_32 rfl f_RX1_9 rfl ?_
  refine r_iconst (v := 1) (pc := 35) dX1_append_35 (by decide) ?_
  refine r_iadd (pc := 36) dX1_append_36 ?_
  refine tx_put _ _ _ (pc := 37) dX1_append_37 rfl f_RX1_9 (fun _ => rfl) (fun _ => rfl) (by decide) rfl ?_
  exact r_return (S := []) (pc := 40) dX1_append_40 rfl ⟨rfl, rfl⟩
theorem s_X1_number {om : OM} {l : Launch} {B : Nat × Nat} {H : Hp} {ln po : Int32} {wd : Value} {t nu : Nat → Int32} (k : Nat) (x : Int32) (hx : x = nI k) (hk : k < 5) : Runs om l M_X1_number B 0 (entL 2 [.ref 40, .int x]) [] (cH H ln po wd t nu) (Det (some (.int (nu k))) (cH H ln po wd t nu)) := by
  show Runs om l M_X1_number B 0 [some (.ref 40), some (.int x)] [] _ _
  refine r_iload_n (pc := 0) dX1_number_0 rfl rfl ?_
  refine r_if_lt 22 (pc := 1) dX1_number_1 (by decide) (fun c1 => absurd c1 (c_ltf hx rfl (a := k) (b := 0) (by omega) (by omega) (by omega))) (fun c1 => ?_)
  refine r_iload_n (pc := 4) dX1_number_4 rfl rfl ?_
  refine r_aload_n (pc := 5) dX1_number_5 rfl rfl ?_
  refine tx_get (pc := 6) dX1_number_6 rfl f_RX1_26 rfl ?_
  refine r_alen (v := nI 5) (pc := 9) dX1_number_9 cH_42 (by decide) rfl ?_
  refine r_icmp_ge 22 (pc := 10) dX1_number_10 (by decide) (fun c10 => absurd c10 (c_gef hx rfl (a := k) (b := 5) (by omega) (by omega) (by omega))) (fun c10 => ?_)
  refine r_aload_n (pc := 13) dX1_number_13 rfl rfl ?_
  refine tx_get (pc := 14) dX1_number_14 rfl f_RX1_26 rfl ?_
  refine r_iload_n (pc := 17) dX1_number_17 rfl rfl ?_
  refine tx_ldN (k) (pc := 18) dX1_number_18 hx (by omega) ?_
  refine r_goto 23 (pc := 19) dX1_number_19 (by decide) ?_
  exact r_ireturn (S := []) (pc := 23) dX1_number_23 rfl rfl ⟨rfl, rfl⟩
theorem s_X1_rewind {om : OM} {l : Launch} {B : Nat × Nat} {H : Hp} {ln po : Int32} {wd : Value} {t nu : Nat → Int32}  : Runs om l M_X1_rewind B 0 (entL 1 [.ref 40]) [] (cH H ln po wd t nu) (Det (none) (cH H ln 0 wd t nu)) := by
  show Runs om l M_X1_rewind B 0 [some (.ref 40)] [] _ _
  refine r_aload_n (pc := 0) dX1_rewind_0 rfl rfl ?_
  refine r_iconst (v := 0) (pc := 1) dX1_rewind_1 (by decide) ?_
  refine tx_put _ _ _ (pc := 2) dX1_rewind_2 rfl f_RX1_19 (fun _ => rfl) (fun _ => rfl) (by decide) rfl ?_
  exact r_return (S := []) (pc := 5) dX1_rewind_5 rfl ⟨rfl, rfl⟩
theorem s_X1_byteAt {om : OM} {l : Launch} {B : Nat × Nat} {H : Hp} {ln po : Int32} {wd : Value} {t nu : Nat → Int32} (Ln : Nat) (hln : ln = nI Ln) (hL : Ln ≤ 150) (p : Nat) (x : Int32) (hx : x = nI p) (hp : p < 2 ^ 31) : Runs om l M_X1_byteAt B 0 (entL 2 [.ref 40, .int x]) [] (cH H ln po wd t nu) (Det (some (.int (K_b t Ln p))) (cH H ln po wd t nu)) := by
  show Runs om l M_X1_byteAt B 0 [some (.ref 40), some (.int x)] [] _ _
  refine r_iload_n (pc := 0) dX1_byteAt_0 rfl rfl ?_
  refine r_if_lt 30 (pc := 1) dX1_byteAt_1 (by decide) (fun c1 => absurd c1 (c_ltf hx rfl (a := p) (b := 0) (by omega) (by omega) (by omega))) (fun c1 => ?_)
  refine r_iload_n (pc := 4) dX1_byteAt_4 rfl rfl ?_
  refine r_aload_n (pc := 5) dX1_byteAt_5 rfl rfl ?_
  refine tx_get (pc := 6) dX1_byteAt_6 rfl f_RX1_9 rfl ?_
  refine r_icmp_ge 30 (pc := 9) dX1_byteAt_9 (by decide) (fun c9 => ?_) (fun c9 => ?_)
  · have hpL : ¬ p < Ln := fun z => absurd c9 (c_gef hx hln (by omega) (by omega) z)
    refine r_iconst (v := (-1)) (pc := 30) dX1_byteAt_30 (by decide) ?_
    exact r_ireturn (S := []) (pc := 31) dX1_byteAt_31 rfl rfl ⟨by first | (rw [K_b, if_pos hpL]; done) | (rw [K_b, if_neg hpL]; done), rfl⟩
  · have hpL : p < Ln := Nat.lt_of_not_le fun z => c9 (c_get hx hln (by omega) (by omega) z)
    refine r_iload_n (pc := 12) dX1_byteAt_12 rfl rfl ?_
    refine r_aload_n (pc := 13) dX1_byteAt_13 rfl rfl ?_
    refine tx_get (pc := 14) dX1_byteAt_14 rfl f_RX1_15 rfl ?_
    refine r_alen (v := nI 150) (pc := 17) dX1_byteAt_17 cH_41 (by decide) rfl ?_
    refine r_icmp_ge 30 (pc := 18) dX1_byteAt_18 (by decide) (fun c18 => absurd c18 (c_gef hx rfl (a := p) (b := 150) (by omega) (by omega) (by omega))) (fun c18 => ?_)
    refine r_aload_n (pc := 21) dX1_byteAt_21 rfl rfl ?_
    refine tx_get (pc := 22) dX1_byteAt_22 rfl f_RX1_15 rfl ?_
    refine r_iload_n (pc := 25) dX1_byteAt_25 rfl rfl ?_
    refine tx_ldB (p) (pc := 26) dX1_byteAt_26 hx (by omega) ?_
    refine r_goto 31 (pc := 27) dX1_byteAt_27 (by decide) ?_
    exact r_ireturn (S := []) (pc := 31) dX1_byteAt_31 rfl rfl ⟨by first | (rw [K_b, if_pos hpL]; done) | (rw [K_b, if_neg hpL]; done), rfl⟩
theorem s_X1_isLetter {om : OM} {l : Launch} {B : Nat × Nat} {h : Hp} (x : Int32) : Runs om l M_X1_isLetter B 0 (entL 1 [.int x]) [] h (Det (some (.int (R_in x 97 122))) h) := by
  show Runs om l M_X1_isLetter B 0 [some (.int x)] [] _ _
  refine r_iload_n (pc := 0) dX1_isLetter_0 rfl rfl ?_
  refine r_bipush (v := 97) (pc := 1) dX1_isLetter_1 (by decide) ?_
  refine r_icmp_lt 16 (pc := 3) dX1_isLetter_3 (by decide) (fun c3 => ?_) (fun c3 => ?_)
  · refine r_iconst (v := 0) (pc := 16) dX1_isLetter_16 (by decide) ?_
    exact r_ireturn (S := []) (pc := 17) dX1_isLetter_17 rfl rfl ⟨by rw [R_in]; (repeat (first | rw [if_pos (by assumption)] | rw [if_neg (by assumption)])), rfl⟩
  · refine r_iload_n (pc := 6) dX1_isLetter_6 rfl rfl ?_
    refine r_bipush (v := 122) (pc := 7) dX1_isLetter_7 (by decide) ?_
    refine r_icmp_gt 16 (pc := 9) dX1_isLetter_9 (by decide) (fun c9 => ?_) (fun c9 => ?_)
    · refine r_iconst (v := 0) (pc := 16) dX1_isLetter_16 (by decide) ?_
      exact r_ireturn (S := []) (pc := 17) dX1_isLetter_17 rfl rfl ⟨by rw [R_in]; (repeat (first | rw [if_pos (by assumption)] | rw [if_neg (by assumption)])), rfl⟩
    · refine r_iconst (v := 1) (pc := 12) dX1_isLetter_12 (by decide) ?_
      refine r_goto 17 (pc := 13) dX1_isLetter_13 (by decide) ?_
      exact r_ireturn (S := []) (pc := 17) dX1_isLetter_17 rfl rfl ⟨by rw [R_in]; (repeat (first | rw [if_pos (by assumption)] | rw [if_neg (by assumption)])), rfl⟩
theorem s_X1_isDigit {om : OM} {l : Launch} {B : Nat × Nat} {h : Hp} (x : Int32) : Runs om l M_X1_isDigit B 0 (entL 1 [.int x]) [] h (Det (some (.int (R_in x 48 57))) h) := by
  show Runs om l M_X1_isDigit B 0 [some (.int x)] [] _ _
  refine r_iload_n (pc := 0) dX1_isDigit_0 rfl rfl ?_
  refine r_bipush (v := 48) (pc := 1) dX1_isDigit_1 (by decide) ?_
  refine r_icmp_lt 16 (pc := 3) dX1_isDigit_3 (by decide) (fun c3 => ?_) (fun c3 => ?_)
  · refine r_iconst (v := 0) (pc := 16) dX1_isDigit_16 (by decide) ?_
    exact r_ireturn (S := []) (pc := 17) dX1_isDigit_17 rfl rfl ⟨by rw [R_in]; (repeat (first | rw [if_pos (by assumption)] | rw [if_neg (by assumption)])), rfl⟩
  · refine r_iload_n (pc := 6) dX1_isDigit_6 rfl rfl ?_
    refine r_bipush (v := 57) (pc := 7) dX1_isDigit_7 (by decide) ?_
    refine r_icmp_gt 16 (pc := 9) dX1_isDigit_9 (by decide) (fun c9 => ?_) (fun c9 => ?_)
    · refine r_iconst (v := 0) (pc := 16) dX1_isDigit_16 (by decide) ?_
      exact r_ireturn (S := []) (pc := 17) dX1_isDigit_17 rfl rfl ⟨by rw [R_in]; (repeat (first | rw [if_pos (by assumption)] | rw [if_neg (by assumption)])), rfl⟩
    · refine r_iconst (v := 1) (pc := 12) dX1_isDigit_12 (by decide) ?_
      refine r_goto 17 (pc := 13) dX1_isDigit_13 (by decide) ?_
      exact r_ireturn (S := []) (pc := 17) dX1_isDigit_17 rfl rfl ⟨by rw [R_in]; (repeat (first | rw [if_pos (by assumption)] | rw [if_neg (by assumption)])), rfl⟩
theorem an_32 {t : Nat → Int32} {L p : Nat} (h : p < L) : (R_an t L p 32 32 = 0) ↔ ¬ t p = 32 := by
  unfold R_an R_in
  rw [if_neg (by omega)]
  by_cases h1 : t p < 32
  · rw [if_pos h1, if_pos rfl]
    exact ⟨fun _ z => by rw [z] at h1; exact absurd h1 (by decide), fun _ => rfl⟩
  · rw [if_neg h1]
    by_cases h2 : (32 : Int32) < t p
    · rw [if_pos h2, if_pos rfl]
      exact ⟨fun _ z => by rw [z] at h2; exact absurd h2 (by decide), fun _ => rfl⟩
    · rw [if_neg h2, if_neg (by decide)]
      exact ⟨fun z => absurd z (by decide), fun z => absurd (Int32.le_antisymm (Int32.not_lt.mp h2) (Int32.not_lt.mp h1)) z⟩
theorem an_ge {t : Nat → Int32} {L p : Nat} {lo hi : Int32} (h : L ≤ p) : R_an t L p lo hi = 0 := if_pos h
theorem lp_X1_skipSpaces {om : OM} {l : Launch} {B : Nat × Nat} {H : Hp} {ln po : Int32} {wd : Value} {t nu : Nat → Int32} (hl : l.stackTraces = false) (Ln : Nat) (hln : ln = nI Ln) (hL : Ln ≤ 150) : ∀ (n9 k : Nat), k + n9 = Ln → Runs om l M_X1_skipSpaces B 0 [some (.ref 40)] [] (cH H ln (nI k) wd t nu) (Det none (cH H ln (nI (R_sp t Ln n9 k)) wd t nu)) := by
  intro n9
  induction n9 with
  | zero =>
    intro k hk
    refine r_aload_n (pc := 0) dX1_skipSpaces_0 rfl rfl ?_
    refine tx_get (pc := 1) dX1_skipSpaces_1 rfl f_RX1_19 rfl ?_
    refine r_aload_n (pc := 4) dX1_skipSpaces_4 rfl rfl ?_
    refine tx_get (pc := 5) dX1_skipSpaces_5 rfl f_RX1_9 rfl ?_
    refine r_icmp_ge 37 (pc := 8) dX1_skipSpaces_8 (by decide) (fun c8 => ?_) (fun c8 => absurd (c_get rfl hln (a := k) (b := Ln) (by omega) (by omega) (by omega)) c8)
    exact r_return (S := []) (pc := 37) dX1_skipSpaces_37 rfl ⟨rfl, rfl⟩
  | succ n9 ih =>
    intro k hk
    refine r_aload_n (pc := 0) dX1_skipSpaces_0 rfl rfl ?_
    refine tx_get (pc := 1) dX1_skipSpaces_1 rfl f_RX1_19 rfl ?_
    refine r_aload_n (pc := 4) dX1_skipSpaces_4 rfl rfl ?_
    refine tx_get (pc := 5) dX1_skipSpaces_5 rfl f_RX1_9 rfl ?_
    refine r_icmp_ge 37 (pc := 8) dX1_skipSpaces_8 (by decide) (fun c8 => absurd c8 (c_gef rfl hln (a := k) (b := Ln) (by omega) (by omega) (by omega))) (fun c8 => ?_)
    refine r_aload_n (pc := 11) dX1_skipSpaces_11 rfl rfl ?_
    refine r_aload_n (pc := 12) dX1_skipSpaces_12 rfl rfl ?_
    refine tx_get (pc := 13) dX1_skipSpaces_13 rfl f_RX1_19 rfl ?_
    refine q_callV (ci := 0) (T := TX1) (N := 5) (vs := [.int _]) (pc := 16) dX1_skipSpaces_16 rfl l_RX1_54 rfl ⟨by decide, by decide⟩ rfl (Nat.le_of_ble_eq_true rfl) hl cH_40 rfl (Nat.le_of_ble_eq_true rfl) (s_X1_byteAt Ln hln hL k _ rfl (by omega)) cH_22 ?_
    rw [show K_b t Ln k = t k from if_pos (by omega)]
    refine r_bipush (v := 32) (pc := 19) dX1_skipSpaces_19 (by decide) ?_
    refine r_icmp_ne 37 (pc := 21) dX1_skipSpaces_21 (by decide) (fun c21 => ?_) (fun c21 => ?_)
    · exact r_return (S := []) (pc := 37) dX1_skipSpaces_37 rfl ⟨rfl, by rw [R_sp, if_pos ((an_32 (by omega)).mpr c21)]⟩
    · refine r_aload_n (pc := 24) dX1_skipSpaces_24 rfl rfl ?_
      refine r_dup (pc := 25) dX1_skipSpaces_25 rfl ?_
      refine tx_get (pc := 26) dX1_skipSpaces_26 rfl f_RX1_19 rfl ?_
      refine r_iconst (v := 1) (pc := 29) dX1_skipSpaces_29 (by decide) ?_
      refine r_iadd (pc := 30) dX1_skipSpaces_30 ?_
      refine tx_put _ _ _ (pc := 31) dX1_skipSpaces_31 rfl f_RX1_19 (fun _ => rfl) (fun _ => rfl) (by decide) rfl ?_
      refine r_goto 0 (pc := 34) dX1_skipSpaces_34 (by decide) ?_
      rw [show R_sp t Ln (n9 + 1) k = R_sp t Ln n9 (k + 1) by rw [R_sp, if_neg (fun z => (an_32 (by omega)).mp z c21)]]
      rw [show nI k + 1 = nI (k + 1) from (nI_succ k).symm]
      exact ih (k + 1) (by omega)
theorem s_X1_skipSpaces {om : OM} {l : Launch} {B : Nat × Nat} {H : Hp} {ln po : Int32} {wd : Value} {t nu : Nat → Int32} (hl : l.stackTraces = false) (Ln : Nat) (hln : ln = nI Ln) (hL : Ln ≤ 150) (p : Nat) (hp : po = nI p) (hpL : p ≤ Ln) : Runs om l M_X1_skipSpaces B 0 (entL 1 [.ref 40]) [] (cH H ln po wd t nu) (Det none (cH H ln (nI (R_n0 t Ln p)) wd t nu)) := by
  subst hp
  exact lp_X1_skipSpaces (po := nI p) hl Ln hln hL (Ln - p) p (by omega)
theorem kn0_le {t : Nat → Int32} {L p : Nat} (h : p ≤ L) : p ≤ R_n0 t L p ∧ R_n0 t L p ≤ L := by
  have := sp_le (t := t) (ln := L) (L - p) p
  unfold R_n0
  omega
theorem s_X1_hasMore {om : OM} {l : Launch} {B : Nat × Nat} {H : Hp} {ln po : Int32} {wd : Value} {t nu : Nat → Int32} (hl : l.stackTraces = false) (Ln : Nat) (hln : ln = nI Ln) (hL : Ln ≤ 150) (p : Nat) (hp : po = nI p) (hpL : p ≤ Ln) : Runs om l M_X1_hasMore B 0 (entL 1 [.ref 40]) [] (cH H ln po wd t nu) (Det (some (.int (if Ln ≤ R_n0 t Ln p then 0 else 1))) (cH H ln (nI (R_n0 t Ln p)) wd t nu)) := by
  show Runs om l M_X1_hasMore B 0 [some (.ref 40)] [] _ _
  refine r_aload_n (pc := 0) dX1_hasMore_0 rfl rfl ?_
  refine q_callV (ci := 0) (T := TX1) (N := 5) (vs := []) (pc := 1) dX1_hasMore_1 rfl l_RX1_40 rfl ⟨by decide, by decide⟩ rfl (Nat.le_of_ble_eq_true rfl) hl cH_40 rfl (Nat.le_of_ble_eq_true rfl) (s_X1_skipSpaces hl Ln hln hL p hp hpL) cH_22 ?_
  have hq := (kn0_le (t := t) hpL).2
  refine r_aload_n (pc := 4) dX1_hasMore_4 rfl rfl ?_
  refine tx_get (pc := 5) dX1_hasMore_5 rfl f_RX1_19 rfl ?_
  refine r_aload_n (pc := 8) dX1_hasMore_8 rfl rfl ?_
  refine tx_get (pc := 9) dX1_hasMore_9 rfl f_RX1_9 rfl ?_
  refine r_icmp_ge 19 (pc := 12) dX1_hasMore_12 (by decide) (fun c12 => ?_) (fun c12 => ?_)
  · refine r_iconst (v := 0) (pc := 19) dX1_hasMore_19 (by decide) ?_
    exact r_ireturn (S := []) (pc := 20) dX1_hasMore_20 rfl rfl ⟨by first | (rw [if_pos (by rw [hln] at c12; exact (nI_leI (by omega) (by omega)).mp c12)]; done) | (rw [if_neg (fun z => c12 (by rw [hln]; exact (nI_leI (by omega) (by omega)).mpr z))]; done), rfl⟩
  · refine r_iconst (v := 1) (pc := 15) dX1_hasMore_15 (by decide) ?_
    refine r_goto 20 (pc := 16) dX1_hasMore_16 (by decide) ?_
    exact r_ireturn (S := []) (pc := 20) dX1_hasMore_20 rfl rfl ⟨by first | (rw [if_pos (by rw [hln] at c12; exact (nI_leI (by omega) (by omega)).mp c12)]; done) | (rw [if_neg (fun z => c12 (by rw [hln]; exact (nI_leI (by omega) (by omega)).mpr z))]; done), rfl⟩
theorem nl_k {t : Nat → Int32} {L f : Nat} {x : Int32} (m p : Nat) (h : p < f + 5) (hfp : f ≤ p) (hp : p < 2 ^ 31) : R_nl t L (nI f) (m + 1) p x = if R_an t L p 48 57 = 0 then (p, x) else R_nl t L (nI f) m (p + 1) (10 * x + t p - 48) := by
  rw [R_nl, pk_sub hfp, if_neg (fun z => by have := (nI_leI (a := 5) (b := p - f) (by omega) (by omega)).mp z; omega)]
theorem nl_5 {t : Nat → Int32} {L f : Nat} {x : Int32} (m p : Nat) (h : f + 5 ≤ p) (hp : p < 2 ^ 31) : R_nl t L (nI f) m p x = (p, x) := by
  cases m with
  | zero => rfl
  | succ m => rw [R_nl, pk_sub (by omega), if_pos (show (5 : Int32) ≤ nI (p - f) from (nI_leI (a := 5) (b := p - f) (by omega) (by omega)).mpr (by omega))]
theorem nl_0 {t : Nat → Int32} {L : Nat} {f x : Int32} (m p : Nat) (h : R_an t L p 48 57 = 0) : R_nl t L f m p x = (p, x) := by
  cases m with
  | zero => rfl
  | succ m =>
    rw [R_nl, if_pos h, ite_self]
theorem knl_le {t : Nat → Int32} {L : Nat} {f x : Int32} (p : Nat) (h : p ≤ L) : p ≤ (R_nl t L f (L - p) p x).1 ∧ (R_nl t L f (L - p) p x).1 ≤ L := by
  have := nl_le (t := t) (ln := L) (f := f) (L - p) p x
  omega
theorem lp_X1_readNumber {om : OM} {l : Launch} {B : Nat × Nat} {H : Hp} {ln po : Int32} {wd : Value} {t nu : Nat → Int32} {Post : Out → Hp → Prop} (hl : l.stackTraces = false) (Ln : Nat) (hln : ln = nI Ln) (hL : Ln ≤ 150) (x : Int32) (p f : Nat) : ∀ (n9 k q : Nat) (v : Int32), k + n9 = 5 → q = f + k → q ≤ Ln → (∀ v5 : Option Value, Runs om l M_X1_readNumber B 104 [some (.ref 40), some (.int x), some (.int (nI p)), some (.int (R_nl t Ln (nI f) (Ln - q) q v).2), v5] [] (cH H ln (nI (R_nl t Ln (nI f) (Ln - q) q v).1) wd t nu) Post) → Runs om l M_X1_readNumber B 51 [some (.ref 40), some (.int x), some (.int (nI p)), some (.int v), some (.int (nI k))] [] (cH H ln (nI q) wd t nu) Post := by
  intro n9
  induction n9 with
  | zero =>
    intro k q v hk hq hqL KK
    have e9 : k = 5 := by omega
    subst e9
    rw [nl_5 _ _ (by omega) (by omega)] at KK
    refine r_iload (pc := 51) dX1_readNumber_51 rfl ?_
    refine r_iconst (v := 5) (pc := 53) dX1_readNumber_53 (by decide) ?_
    refine r_icmp_ge 104 (pc := 54) dX1_readNumber_54 (by decide) (fun c54 => ?_) (fun c54 => absurd (c_get rfl rfl (a := 5) (b := 5) (by omega) (by omega) (by omega)) c54)
    exact KK _
  | succ n9 ih =>
    intro k q v hk hq hqL KK
    refine r_iload (pc := 51) dX1_readNumber_51 rfl ?_
    refine r_iconst (v := 5) (pc := 53) dX1_readNumber_53 (by decide) ?_
    refine r_icmp_ge 104 (pc := 54) dX1_readNumber_54 (by decide) (fun c54 => absurd c54 (c_gef rfl rfl (a := k) (b := 5) (by omega) (by omega) (by omega))) (fun c54 => ?_)
    refine r_aload_n (pc := 57) dX1_readNumber_57 rfl rfl ?_
    refine r_aload_n (pc := 58) dX1_readNumber_58 rfl rfl ?_
    refine tx_get (pc := 59) dX1_readNumber_59 rfl f_RX1_19 rfl ?_
    refine q_callV (ci := 0) (T := TX1) (N := 5) (vs := [.int _]) (pc := 62) dX1_readNumber_62 rfl l_RX1_54 rfl ⟨by decide, by decide⟩ rfl (Nat.le_of_ble_eq_true rfl) hl cH_40 rfl (Nat.le_of_ble_eq_true rfl) (s_X1_byteAt Ln hln hL q _ rfl (by omega)) cH_22 ?_
    refine q_callS (vs := [.int _]) (pc := 65) dX1_readNumber_65 rfl l_RX1_65 rfl ⟨by decide, by decide⟩ rfl (Nat.le_of_ble_eq_true rfl) hl (Nat.le_of_ble_eq_true rfl) (s_X1_isDigit _) rfl ?_
    rw [an_b (by decide)]
    refine r_if_eq 104 (pc := 68) dX1_readNumber_68 (by decide) (fun c68 => ?_) (fun c68 => ?_)
    · rw [nl_0 _ _ c68] at KK
      exact KK _
    · have hqL2 : q < Ln := an_lt c68
      refine r_bipush (v := 10) (pc := 71) dX1_readNumber_71 (by decide) ?_
      refine r_iload_n (pc := 73) dX1_readNumber_73 rfl rfl ?_
      refine r_imul (pc := 74) dX1_readNumber_74 ?_
      refine r_aload_n (pc := 75) dX1_readNumber_75 rfl rfl ?_
      refine r_aload_n (pc := 76) dX1_readNumber_76 rfl rfl ?_
      refine tx_get (pc := 77) dX1_readNumber_77 rfl f_RX1_19 rfl ?_
      refine q_callV (ci := 0) (T := TX1) (N := 5) (vs := [.int _]) (pc := 80) dX1_readNumber_80 rfl l_RX1_54 rfl ⟨by decide, by decide⟩ rfl (Nat.le_of_ble_eq_true rfl) hl cH_40 rfl (Nat.le_of_ble_eq_true rfl) (s_X1_byteAt Ln hln hL q _ rfl (by omega)) cH_22 ?_
      rw [show K_b t Ln q = t q from if_pos hqL2]
      refine r_iadd (pc := 83) dX1_readNumber_83 ?_
      refine r_bipush (v := 48) (pc := 84) dX1_readNumber_84 (by decide) ?_
      refine r_isub (pc := 86) dX1_readNumber_86 ?_
      refine q_istore_n [_, _, _, _, _] (pc := 87) dX1_readNumber_87 rfl (by decide) rfl ?_
      refine r_aload_n (pc := 88) dX1_readNumber_88 rfl rfl ?_
      refine r_dup (pc := 89) dX1_readNumber_89 rfl ?_
      refine tx_get (pc := 90) dX1_readNumber_90 rfl f_RX1_19 rfl ?_
      refine r_iconst (v := 1) (pc := 93) dX1_readNumber_93 (by decide) ?_
      refine r_iadd (pc := 94) dX1_readNumber_94 ?_
      refine tx_put _ _ _ (pc := 95) dX1_readNumber_95 rfl f_RX1_19 (fun _ => rfl) (fun _ => rfl) (by decide) rfl ?_
      refine q_iinc (nI (k + 1)) [_, _, _, _, _] (pc := 98) dX1_readNumber_98 rfl (by decide) (ninc 1 rfl) rfl ?_
      refine r_goto 51 (pc := 101) dX1_readNumber_101 (by decide) ?_
      rw [show Ln - q = (Ln - (q + 1)) + 1 by omega, nl_k _ _ (by omega) (by omega) (by omega), if_neg c68] at KK
      rw [show nI q + 1 = nI (q + 1) from (nI_succ q).symm]
      exact ih (k + 1) (q + 1) _ (by omega) (by omega) (by omega) KK
theorem sp_ne {t : Nat → Int32} {L : Nat} : ∀ (m p : Nat), ¬ R_an t L p 32 32 = 0 → 0 < m → p < R_sp t L m p := by
  intro m p h hm
  cases m with
  | zero => omega
  | succ m =>
    rw [R_sp, if_neg h]
    have := sp_le (t := t) (ln := L) m (p + 1)
    omega
theorem sp_eq {t : Nat → Int32} {L : Nat} (m p : Nat) (h : R_an t L p 32 32 = 0) : R_sp t L m p = p := by
  cases m with
  | zero => rfl
  | succ m => rw [R_sp, if_pos h]
theorem n0_eq {t : Nat → Int32} {L p : Nat} (h : p ≤ L) : R_n0 t L p = p ↔ R_an t L p 32 32 = 0 := by
  unfold R_n0
  refine ⟨fun z => Classical.byContradiction fun c => ?_, fun z => sp_eq _ _ z⟩
  have h1 := an_lt c
  have := sp_ne (t := t) (L := L) (L - p) p c (by omega)
  omega
/-- one number read: whether, where, the number -/
def K_rn1 (t : Nat → Int32) (L p : Nat) : Int32 := if R_an t L p 32 32 = 0 then 0 else if R_an t L (R_n0 t L p) 48 57 = 0 then 0 else 1
def K_rnp (t : Nat → Int32) (L p : Nat) : Nat := if K_rn1 t L p = 0 then R_n0 t L p else (R_n1 t L p).1
def K_rnn (t : Nat → Int32) (L p k : Nat) (nu : Nat → Int32) : Nat → Int32 := if K_rn1 t L p = 0 then nu else upd nu k (R_n1 t L p).2
theorem s_X1_readNumber {om : OM} {l : Launch} {B : Nat × Nat} {H : Hp} {ln po : Int32} {wd : Value} {t nu : Nat → Int32} (hl : l.stackTraces = false) (Ln : Nat) (hln : ln = nI Ln) (hL : Ln ≤ 150) (p : Nat) (hp : po = nI p) (hpL : p ≤ Ln) (k : Nat) (x : Int32) (hx : x = nI k) (hk : k < 5) : Runs om l M_X1_readNumber B 0 (entL 5 [.ref 40, .int x]) [] (cH H ln po wd t nu) (Det (some (.int (K_rn1 t Ln p))) (cH H ln (nI (K_rnp t Ln p)) wd t (K_rnn t Ln p k nu))) := by
  show Runs om l M_X1_readNumber B 0 [some (.ref 40), some (.int x), none, none, none] [] _ _
  refine r_aload_n (pc := 0) dX1_readNumber_0 rfl rfl ?_
  refine tx_get (pc := 1) dX1_readNumber_1 rfl f_RX1_19 rfl ?_
  refine q_istore_n [_, _, _, _, _] (pc := 4) dX1_readNumber_4 rfl (by decide) rfl ?_
  refine r_aload_n (pc := 5) dX1_readNumber_5 rfl rfl ?_
  refine q_callV (ci := 0) (T := TX1) (N := 5) (vs := []) (pc := 6) dX1_readNumber_6 rfl l_RX1_40 rfl ⟨by decide, by decide⟩ rfl (Nat.le_of_ble_eq_true rfl) hl cH_40 rfl (Nat.le_of_ble_eq_true rfl) (s_X1_skipSpaces hl Ln hln hL p hp hpL) cH_22 ?_
  have hq := kn0_le (t := t) hpL
  refine r_aload_n (pc := 9) dX1_readNumber_9 rfl rfl ?_
  refine tx_get (pc := 10) dX1_readNumber_10 rfl f_RX1_19 rfl ?_
  refine r_iload_n (pc := 13) dX1_readNumber_13 rfl rfl ?_
  refine r_icmp_eq 44 (pc := 14) dX1_readNumber_14 (by decide) (fun c14 => ?_) (fun c14 => ?_)
  · refine r_iconst (v := 0) (pc := 44) dX1_readNumber_44 (by decide) ?_
    exact r_ireturn (S := []) (pc := 45) dX1_readNumber_45 rfl rfl ⟨by first | (rw [K_rn1, if_pos ((n0_eq hpL).mp (by rw [hp] at c14; exact (nI_eq (by omega) (by omega)).mp c14))]; done) | (rw [K_rn1, if_neg hsp, if_pos c28]; done), by first | (rw [K_rnp, K_rnn, if_pos (by rw [K_rn1, if_pos ((n0_eq hpL).mp (by rw [hp] at c14; exact (nI_eq (by omega) (by omega)).mp c14))]), if_pos (by rw [K_rn1, if_pos ((n0_eq hpL).mp (by rw [hp] at c14; exact (nI_eq (by omega) (by omega)).mp c14))])]; done) | (rw [K_rnp, K_rnn, if_pos (by rw [K_rn1, if_neg hsp, if_pos c28]), if_pos (by rw [K_rn1, if_neg hsp, if_pos c28])]; done)⟩
  · have hsp : ¬ R_an t Ln p 32 32 = 0 := fun z => c14 (by rw [hp, (n0_eq hpL).mpr z])
    refine r_aload_n (pc := 17) dX1_readNumber_17 rfl rfl ?_
    refine r_aload_n (pc := 18) dX1_readNumber_18 rfl rfl ?_
    refine tx_get (pc := 19) dX1_readNumber_19 rfl f_RX1_19 rfl ?_
    refine q_callV (ci := 0) (T := TX1) (N := 5) (vs := [.int _]) (pc := 22) dX1_readNumber_22 rfl l_RX1_54 rfl ⟨by decide, by decide⟩ rfl (Nat.le_of_ble_eq_true rfl) hl cH_40 rfl (Nat.le_of_ble_eq_true rfl) (s_X1_byteAt Ln hln hL (R_n0 t Ln p) _ rfl (by omega)) cH_22 ?_
    refine q_callS (vs := [.int _]) (pc := 25) dX1_readNumber_25 rfl l_RX1_65 rfl ⟨by decide, by decide⟩ rfl (Nat.le_of_ble_eq_true rfl) hl (Nat.le_of_ble_eq_true rfl) (s_X1_isDigit _) rfl ?_
    rw [an_b (by decide)]
    refine r_if_eq 44 (pc := 28) dX1_readNumber_28 (by decide) (fun c28 => ?_) (fun c28 => ?_)
    · refine r_iconst (v := 0) (pc := 44) dX1_readNumber_44 (by decide) ?_
      exact r_ireturn (S := []) (pc := 45) dX1_readNumber_45 rfl rfl ⟨by first | (rw [K_rn1, if_pos ((n0_eq hpL).mp (by rw [hp] at c14; exact (nI_eq (by omega) (by omega)).mp c14))]; done) | (rw [K_rn1, if_neg hsp, if_pos c28]; done), by first | (rw [K_rnp, K_rnn, if_pos (by rw [K_rn1, if_pos ((n0_eq hpL).mp (by rw [hp] at c14; exact (nI_eq (by omega) (by omega)).mp c14))]), if_pos (by rw [K_rn1, if_pos ((n0_eq hpL).mp (by rw [hp] at c14; exact (nI_eq (by omega) (by omega)).mp c14))])]; done) | (rw [K_rnp, K_rnn, if_pos (by rw [K_rn1, if_neg hsp, if_pos c28]), if_pos (by rw [K_rn1, if_neg hsp, if_pos c28])]; done)⟩
    · refine r_iload_n (pc := 31) dX1_readNumber_31 rfl rfl ?_
      refine r_if_lt 44 (pc := 32) dX1_readNumber_32 (by decide) (fun c32 => absurd c32 (c_ltf hx rfl (a := k) (b := 0) (by omega) (by omega) (by omega))) (fun c32 => ?_)
      refine r_iload_n (pc := 35) dX1_readNumber_35 rfl rfl ?_
      refine r_aload_n (pc := 36) dX1_readNumber_36 rfl rfl ?_
      refine tx_get (pc := 37) dX1_readNumber_37 rfl f_RX1_26 rfl ?_
      refine r_alen (v := nI 5) (pc := 40) dX1_readNumber_40 cH_42 (by decide) rfl ?_
      refine r_icmp_lt 46 (pc := 41) dX1_readNumber_41 (by decide) (fun c41 => ?_) (fun c41 => absurd (c_ltt hx rfl (a := k) (b := 5) (by omega) (by omega) (by omega)) c41)
      refine r_iconst (v := 0) (pc := 46) dX1_readNumber_46 (by decide) ?_
      refine q_istore_n [_, _, _, _, _] (pc := 47) dX1_readNumber_47 rfl (by decide) rfl ?_
      refine r_iconst (v := 0) (pc := 48) dX1_readNumber_48 (by decide) ?_
      refine q_istore [_, _, _, _, _] (pc := 49) dX1_readNumber_49 (by decide) rfl ?_
      have e1 : K_rn1 t Ln p = 1 := by rw [K_rn1, if_neg hsp, if_neg c28]
      rw [hp]
      refine lp_X1_readNumber (po := po) hl Ln hln hL x p (R_n0 t Ln p) 5 0 (R_n0 t Ln p) 0 (by omega) (by omega) hq.2 (fun v5 => ?_)
      refine r_aload_n (pc := 104) dX1_readNumber_104 rfl rfl ?_
      refine tx_get (pc := 105) dX1_readNumber_105 rfl f_RX1_26 rfl ?_
      refine r_iload_n (pc := 108) dX1_readNumber_108 rfl rfl ?_
      refine r_iload_n (pc := 109) dX1_readNumber_109 rfl rfl ?_
      refine tx_stN (k) (pc := 110) dX1_readNumber_110 hx (by omega) ?_
      refine r_iconst (v := 1) (pc := 111) dX1_readNumber_111 (by decide) ?_
      exact r_ireturn (S := []) (pc := 112) dX1_readNumber_112 rfl rfl ⟨by rw [e1], by rw [K_rnp, K_rnn, e1, if_neg (by decide), if_neg (by decide)]; rfl⟩
