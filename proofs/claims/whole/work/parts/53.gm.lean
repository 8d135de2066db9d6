/-! the class: words -/
theorem q_callVC {om : OM} {l : Launch} {M : MI} {B : Nat × Nat} {pc : Nat} {L : List (Option Value)} {S : List Value} {h h2 : Hp} {Post : Out → Hp → Prop} {own : String} {idx n : Nat} {z : MI} {vs : List Value} {b : Nat} {r : Option Value} (d : decode (mi_by M) pc = .ok (.invokevirtual idx, 3)) (ho : (mi_nm M).cls = own) (hz : CLV own idx z n) (hh : mi_hh z = []) (hfit : fitsIn z M) (hlen : vs.length = n) (hal : (argL (.ref b :: vs)).length ≤ mi_ml z) (hl : l.stackTraces = false)
    (hb : ((mi_nm z).cls, b) ∈ so_l) (hst : (S.map fun v => v.category).sum ≤ 8) (kz : Runs om l z (0, 0) 0 (entL (mi_ml z) (.ref b :: vs)) [] h (Det r h2)) (h22 : h2.2 = h.2)
    (k : Runs om l M B (pc + 3) L (r.toList ++ S) h2 Post) : Runs om l M B pc L (vs.reverse ++ .ref b :: S) h Post :=
  r_callVC d ho hz hh hfit hlen hal hl hb hst kz (fun E h1 z => by cases z.1) (fun o h1 z hc => by
    obtain ⟨-, rfl⟩ := z
    rw [h22] at hc ⊢
    exact ⟨hc, rfl⟩) (fun o h1 z => by
    obtain ⟨z1, rfl⟩ := z
    cases z1
    exact k)
def tx_len (i : Nat) : Nat := (c_txt.getD i []).length
def tx_c (i j : Nat) : Int32 := (c_txt.getD i []).getD j 0
theorem tx_ok : ∀ i, i < 9 → ∀ j, j < tx_len i → ((tx_c i j &&& 255).toUInt32 % 65536).toInt32 = tx_c i j ∧ narrow .char (.int (tx_c i j)) = .int (tx_c i j) := by decide +kernel
theorem tx_l6 : ∀ i, i < 9 → tx_len i ≤ 6 ∧ 3 ≤ tx_len i := by decide +kernel
theorem m_by {om : OM} {i : Nat} (h : i < 9) : (FieldType.byte, 100030 + i, tx_len i, fun j => (.int ((c_txt.getD i []).getD j 0) : Value)) ∈ sa_l om := List.mem_cons_of_mem _ (List.mem_append_right _ (List.mem_map.mpr ⟨i, List.mem_range.mpr h, rfl⟩))
theorem m_str {i : Nat} (h : i < 9) : ("java/lang/String", 100020 + i) ∈ so_l := List.mem_append_right _ (List.mem_map.mpr ⟨i, List.mem_range.mpr h, rfl⟩)
theorem m_txt {i : Nat} (h : i < 9) : ("EchoGauge$Word", "text", "Ljava/lang/String;", (.ref (100020 + i) : Value), 100010 + i) ∈ sf_l := List.mem_append_left _ (List.mem_append_left _ (List.mem_append_left _ (List.mem_append_left _ (List.mem_map.mpr ⟨i, List.mem_range.mpr h, rfl⟩))))
theorem m_num {i : Nat} (h : i < 9) : ("EchoGauge$Word", "numbers", "I", (.int (c_num.getD i 0) : Value), 100010 + i) ∈ sf_l := List.mem_append_left _ (List.mem_append_left _ (List.mem_append_left _ (List.mem_append_right _ (List.mem_map.mpr ⟨i, List.mem_range.mpr h, rfl⟩))))
theorem m_val {i : Nat} (h : i < 9) : ("java/lang/String", "value", "[B", (.ref (100030 + i) : Value), 100020 + i) ∈ sf_l := List.mem_append_left _ (List.mem_append_right _ (List.mem_map.mpr ⟨i, List.mem_range.mpr h, rfl⟩))
theorem m_cod {i : Nat} (h : i < 9) : ("java/lang/String", "coder", "B", (.int 0 : Value), 100020 + i) ∈ sf_l := List.mem_append_right _ (List.mem_map.mpr ⟨i, List.mem_range.mpr h, rfl⟩)
theorem m_cs : ("java/lang/String", "COMPACT_STRINGS", "Z", (.int 1 : Value)) ∈ sz_l := .tail _ (.tail _ (.tail _ (.tail _ (.tail _ (.head _)))))
theorem m_ws : ("EchoGauge$CommandText", "WORDS", "[LEchoGauge$Word;", (.ref 100005 : Value)) ∈ sz_l := .tail _ (.tail _ (.tail _ (.tail _ (.head _))))
theorem m_wa {om : OM} : (FieldType.object "EchoGauge$Word", 100005, 9, fun j => (.ref (100010 + j) : Value)) ∈ sa_l om := .tail _ (.tail _ (.tail _ (.tail _ (.tail _ (.head _)))))
section ST
variable {om : OM} {l : Launch} {B : Nat × Nat} {h : Hp}
theorem s_coder {i : Nat} (hi : i < 9) : Runs om l M_J0_coder_7d493 B 0 (entL 1 [.ref (100020 + i)]) [] h (Det (some (.int 0)) h) := by
  show Runs om l M_J0_coder_7d493 B 0 [some (.ref (100020 + i))] [] _ _
  refine r_getstatic (pc := 0) dJ0_coder_7d493_0 rfl m_cs g_RJ0_38 ?_
  refine r_if_eq 13 (pc := 3) dJ0_coder_7d493_3 (by decide) (fun c3 => absurd c3 (by decide)) (fun c3 => ?_)
  refine r_aload_n (pc := 6) dJ0_coder_7d493_6 rfl rfl ?_
  refine r_getfieldC (pc := 7) dJ0_coder_7d493_7 rfl (m_cod hi) g_RJ0_15 ?_
  refine r_goto 14 (pc := 10) dJ0_coder_7d493_10 (by decide) ?_
  exact r_ireturn (S := []) (pc := 14) dJ0_coder_7d493_14 rfl rfl ⟨rfl, rfl⟩
theorem s_isLatin1 {i : Nat} (hi : i < 9) : Runs om l M_J0_isLatin1_aae02 B 0 (entL 1 [.ref (100020 + i)]) [] h (Det (some (.int 1)) h) := by
  show Runs om l M_J0_isLatin1_aae02 B 0 [some (.ref (100020 + i))] [] _ _
  refine r_getstatic (pc := 0) dJ0_isLatin1_aae02_0 rfl m_cs g_RJ0_38 ?_
  refine r_if_eq 17 (pc := 3) dJ0_isLatin1_aae02_3 (by decide) (fun c3 => absurd c3 (by decide)) (fun c3 => ?_)
  refine r_aload_n (pc := 6) dJ0_isLatin1_aae02_6 rfl rfl ?_
  refine r_getfieldC (pc := 7) dJ0_isLatin1_aae02_7 rfl (m_cod hi) g_RJ0_15 ?_
  refine r_if_ne 17 (pc := 10) dJ0_isLatin1_aae02_10 (by decide) (fun c10 => absurd rfl c10) (fun c10 => ?_)
  refine r_iconst (v := 1) (pc := 13) dJ0_isLatin1_aae02_13 (by decide) ?_
  refine r_goto 18 (pc := 14) dJ0_isLatin1_aae02_14 (by decide) ?_
  exact r_ireturn (S := []) (pc := 18) dJ0_isLatin1_aae02_18 rfl rfl ⟨rfl, rfl⟩
theorem shr0 {x : Int32} : x >>> ((0 : Int32) &&& 31) = x := by
  rw [show ((0 : Int32) &&& 31) = 0 from rfl]
  exact Int32.shiftRight_zero
theorem s_length {i : Nat} (hl : l.stackTraces = false) (hi : i < 9) : Runs om l M_J0_length_8abf5 B 0 (entL 1 [.ref (100020 + i)]) [] h (Det (some (.int (nI (tx_len i)))) h) := by
  show Runs om l M_J0_length_8abf5 B 0 [some (.ref (100020 + i))] [] _ _
  refine r_aload_n (pc := 0) dJ0_length_8abf5_0 rfl rfl ?_
  refine r_getfieldC (pc := 1) dJ0_length_8abf5_1 rfl (m_val hi) g_RJ0_9 ?_
  refine r_talen (v := nI (tx_len i)) (pc := 4) dJ0_length_8abf5_4 (m_by hi) rfl ?_
  refine r_aload_n (pc := 5) dJ0_length_8abf5_5 rfl rfl ?_
  refine q_callVC (vs := []) (pc := 6) dJ0_length_8abf5_6 rfl l_RJ0_335 rfl ⟨by decide, by decide⟩ rfl (Nat.le_of_ble_eq_true rfl) hl (m_str hi) (Nat.le_of_ble_eq_true rfl) (s_coder hi) rfl ?_
  refine r_ishr (pc := 9) dJ0_length_8abf5_9 ?_
  rw [shr0]
  exact r_ireturn (S := []) (pc := 10) dJ0_length_8abf5_10 rfl rfl ⟨rfl, rfl⟩
theorem s_chk3 {i n : Nat} {x y : Int32} (hx : x = nI i) (hy : y = nI n) (hi : i < n) (hn : n < 2 ^ 31) : Runs om l M_J3_checkIndex_8e157 B 0 [some (.int x), some (.int y), none] [] h (Det (some (.int x)) h) := by
  refine r_iload_n (pc := 0) dJ3_checkIndex_8e157_0 rfl rfl ?_
  refine r_if_lt 9 (pc := 1) dJ3_checkIndex_8e157_1 (by decide) (fun c1 => absurd c1 (c_ltf (a := i) (b := 0) hx rfl (by omega) (by omega) (by omega))) (fun c1 => ?_)
  refine r_iload_n (pc := 4) dJ3_checkIndex_8e157_4 rfl rfl ?_
  refine r_iload_n (pc := 5) dJ3_checkIndex_8e157_5 rfl rfl ?_
  refine r_icmp_lt 16 (pc := 6) dJ3_checkIndex_8e157_6 (by decide) (fun c6 => ?_) (fun c6 => absurd (c_ltt hx hy (by omega) hn hi) c6)
  refine r_iload_n (pc := 16) dJ3_checkIndex_8e157_16 rfl rfl ?_
  exact r_ireturn (S := []) (pc := 17) dJ3_checkIndex_8e157_17 rfl rfl ⟨rfl, rfl⟩
theorem s_chk0 {i n : Nat} {x y : Int32} (hl : l.stackTraces = false) (hx : x = nI i) (hy : y = nI n) (hi : i < n) (hn : n < 2 ^ 31) : Runs om l M_J0_checkIndex_df160 B 0 (entL 2 [.int x, .int y]) [] h (Det none h) := by
  show Runs om l M_J0_checkIndex_df160 B 0 [some (.int x), some (.int y)] [] _ _
  refine r_iload_n (pc := 0) dJ0_checkIndex_df160_0 rfl rfl ?_
  refine r_iload_n (pc := 1) dJ0_checkIndex_df160_1 rfl rfl ?_
  refine r_getstaticQ (pc := 2) dJ0_checkIndex_df160_2 rfl g_RJ0_1053 (fun v hv => ?_)
  rcases hv with rfl | rfl
  · refine q_callS (vs := [.int _, .int _, .null]) (pc := 5) dJ0_checkIndex_df160_5 rfl l_RJ0_1059 rfl ⟨by decide, by decide⟩ rfl (Nat.le_of_ble_eq_true rfl) hl (Nat.le_of_ble_eq_true rfl) (r_wk [some (.int x), some (.int y), none] ⟨rfl, rfl, trivial⟩ (s_chk3 hx hy hi hn)) rfl ?_
    refine r_pop (pc := 8) dJ0_checkIndex_df160_8 rfl ?_
    exact r_return (S := []) (pc := 9) dJ0_checkIndex_df160_9 rfl ⟨rfl, rfl⟩
  · refine q_callS (vs := [.int _, .int _, .ref 100050]) (pc := 5) dJ0_checkIndex_df160_5 rfl l_RJ0_1059 rfl ⟨by decide, by decide⟩ rfl (Nat.le_of_ble_eq_true rfl) hl (Nat.le_of_ble_eq_true rfl) (r_wk [some (.int x), some (.int y), none] ⟨rfl, rfl, trivial⟩ (s_chk3 hx hy hi hn)) rfl ?_
    refine r_pop (pc := 8) dJ0_checkIndex_df160_8 rfl ?_
    exact r_return (S := []) (pc := 9) dJ0_checkIndex_df160_9 rfl ⟨rfl, rfl⟩
theorem s_charAt1 {i j : Nat} {x : Int32} (hl : l.stackTraces = false) (hi : i < 9) (hx : x = nI j) (hj : j < tx_len i) : Runs om l M_J1_charAt_3b067 B 0 (entL 2 [.ref (100030 + i), .int x]) [] h (Det (some (.int (tx_c i j))) h) := by
  have h6 := (tx_l6 i hi).1
  obtain ⟨o1, o2⟩ := tx_ok i hi j hj
  show Runs om l M_J1_charAt_3b067 B 0 [some (.ref (100030 + i)), some (.int x)] [] _ _
  refine r_iload_n (pc := 0) dJ1_charAt_3b067_0 rfl rfl ?_
  refine r_aload_n (pc := 1) dJ1_charAt_3b067_1 rfl rfl ?_
  refine r_talen (v := nI (tx_len i)) (pc := 2) dJ1_charAt_3b067_2 (m_by hi) rfl ?_
  refine q_callS (vs := [.int _, .int _]) (pc := 3) dJ1_charAt_3b067_3 rfl l_RJ1_9 rfl ⟨by decide, by decide⟩ rfl (Nat.le_of_ble_eq_true rfl) hl (Nat.le_of_ble_eq_true rfl) (s_chk0 hl hx rfl hj (by omega)) rfl ?_
  refine r_aload_n (pc := 6) dJ1_charAt_3b067_6 rfl rfl ?_
  refine r_iload_n (pc := 7) dJ1_charAt_3b067_7 rfl rfl ?_
  refine r_tbaload (pc := 8) dJ1_charAt_3b067_8 (m_by hi) (vin_n hx hj (by omega)) ?_
  rw [cl_n hx hj (by omega)]
  refine r_sipush (v := 255) (pc := 9) dJ1_charAt_3b067_9 (by decide) ?_
  refine r_iand (pc := 12) dJ1_charAt_3b067_12 ?_
  refine r_i2c (pc := 13) dJ1_charAt_3b067_13 ?_
  exact r_ireturn (S := []) (pc := 14) dJ1_charAt_3b067_14 rfl (by rw [show ((List.getD (c_txt.getD i []) j 0 &&& 255).toUInt32 % 65536).toInt32 = tx_c i j from o1]; exact o2) ⟨by rw [show ((List.getD (c_txt.getD i []) j 0 &&& 255).toUInt32 % 65536).toInt32 = tx_c i j from o1], rfl⟩
theorem s_charAt {i j : Nat} {x : Int32} (hl : l.stackTraces = false) (hi : i < 9) (hx : x = nI j) (hj : j < tx_len i) : Runs om l M_J0_charAt_5068e B 0 (entL 2 [.ref (100020 + i), .int x]) [] h (Det (some (.int (tx_c i j))) h) := by
  show Runs om l M_J0_charAt_5068e B 0 [some (.ref (100020 + i)), some (.int x)] [] _ _
  refine r_aload_n (pc := 0) dJ0_charAt_5068e_0 rfl rfl ?_
  refine q_callVC (vs := []) (pc := 1) dJ0_charAt_5068e_1 rfl l_RJ0_492 rfl ⟨by decide, by decide⟩ rfl (Nat.le_of_ble_eq_true rfl) hl (m_str hi) (Nat.le_of_ble_eq_true rfl) (s_isLatin1 hi) rfl ?_
  refine r_if_eq 16 (pc := 4) dJ0_charAt_5068e_4 (by decide) (fun c4 => absurd c4 (by decide)) (fun c4 => ?_)
  refine r_aload_n (pc := 7) dJ0_charAt_5068e_7 rfl rfl ?_
  refine r_getfieldC (pc := 8) dJ0_charAt_5068e_8 rfl (m_val hi) g_RJ0_9 ?_
  refine r_iload_n (pc := 11) dJ0_charAt_5068e_11 rfl rfl ?_
  refine q_callS (vs := [.ref _, .int _]) (pc := 12) dJ0_charAt_5068e_12 rfl l_RJ0_495 rfl ⟨by decide, by decide⟩ rfl (Nat.le_of_ble_eq_true rfl) hl (Nat.le_of_ble_eq_true rfl) (s_charAt1 hl hi hx hj) rfl ?_
  exact r_ireturn (S := []) (pc := 15) dJ0_charAt_5068e_15 rfl (tx_ok i hi j hj).2 ⟨rfl, rfl⟩
end ST
def K_sal (t : Nat → Int32) (p i : Nat) : Nat → Nat → Int32
  | 0, _ => 1
  | m + 1, j => if tx_c i j = t (p + j) then K_sal t p i m (j + 1) else 0
def K_sa (t : Nat → Int32) (p q i : Nat) : Int32 := if tx_len i = q - p then K_sal t p i (tx_len i) 0 else 0
theorem sal01 {t : Nat → Int32} {p i : Nat} : ∀ (m j : Nat), K_sal t p i m j = 0 ∨ K_sal t p i m j = 1 := by
  intro m
  induction m with
  | zero => exact fun j => Or.inr rfl
  | succ m ih =>
    intro j
    rw [K_sal]
    split
    · exact ih _
    · exact Or.inl rfl
theorem sa01 (t : Nat → Int32) (p q i : Nat) : K_sa t p q i = 0 ∨ K_sa t p q i = 1 := by
  unfold K_sa
  split
  · exact sal01 _ _
  · exact Or.inl rfl
def K_wi (t : Nat → Int32) (p q : Nat) : Nat → Nat → Nat
  | 0, i => i
  | m + 1, i => if K_sa t p q i = 0 then K_wi t p q m (i + 1) else i
theorem wi_le {t : Nat → Int32} {p q : Nat} : ∀ (m i : Nat), K_wi t p q m i ≤ i + m := by
  intro m
  induction m with
  | zero => exact fun i => Nat.le_refl _
  | succ m ih =>
    intro i
    rw [K_wi]
    split
    · have := ih (i + 1)
      omega
    · omega
def K_wv (i : Nat) : Value := if i = 9 then .null else .ref (100010 + i)
theorem lp_X1_standsAt {om : OM} {l : Launch} {B : Nat × Nat} {H : Hp} {ln po : Int32} {wd : Value} {t nu : Nat → Int32} (hl : l.stackTraces = false) (Ln : Nat) (hln : ln = nI Ln) (hL : Ln ≤ 150) (i p q : Nat) (hi : i < 9) (hq : q ≤ Ln) (hpq : p + tx_len i = q) (y : Int32) : ∀ (n9 k : Nat), k + n9 = tx_len i → Runs om l M_X1_standsAt B 15 [some (.ref 40), some (.ref (100020 + i)), some (.int (nI p)), some (.int y), some (.int (nI k))] [] (cH H ln po wd t nu) (Det (some (.int (K_sal t p i n9 k))) (cH H ln po wd t nu)) := by
  have h6 := (tx_l6 i hi).1
  intro n9
  induction n9 with
  | zero =>
    intro k hk
    refine r_iload (pc := 15) dX1_standsAt_15 rfl ?_
    refine r_aload_n (pc := 17) dX1_standsAt_17 rfl rfl ?_
    refine q_callVC (vs := []) (pc := 18) dX1_standsAt_18 rfl l_RX1_80 rfl ⟨by decide, by decide⟩ rfl (Nat.le_of_ble_eq_true rfl) hl (m_str (i := i) (by omega)) (Nat.le_of_ble_eq_true rfl) (s_length hl hi) rfl ?_
    refine r_icmp_ge 49 (pc := 21) dX1_standsAt_21 (by decide) (fun c21 => ?_) (fun c21 => absurd (c_get rfl rfl (a := k) (b := tx_len i) (by omega) (by omega) (by omega)) c21)
    refine r_iconst (v := 1) (pc := 49) dX1_standsAt_49 (by decide) ?_
    exact r_ireturn (S := []) (pc := 50) dX1_standsAt_50 rfl rfl ⟨rfl, rfl⟩
  | succ n9 ih =>
    intro k hk
    refine r_iload (pc := 15) dX1_standsAt_15 rfl ?_
    refine r_aload_n (pc := 17) dX1_standsAt_17 rfl rfl ?_
    refine q_callVC (vs := []) (pc := 18) dX1_standsAt_18 rfl l_RX1_80 rfl ⟨by decide, by decide⟩ rfl (Nat.le_of_ble_eq_true rfl) hl (m_str (i := i) (by omega)) (Nat.le_of_ble_eq_true rfl) (s_length hl hi) rfl ?_
    refine r_icmp_ge 49 (pc := 21) dX1_standsAt_21 (by decide) (fun c21 => absurd c21 (c_gef rfl rfl (a := k) (b := tx_len i) (by omega) (by omega) (by omega))) (fun c21 => ?_)
    refine r_aload_n (pc := 24) dX1_standsAt_24 rfl rfl ?_
    refine r_iload (pc := 25) dX1_standsAt_25 rfl ?_
    refine q_callVC (vs := [.int _]) (pc := 27) dX1_standsAt_27 rfl l_RX1_85 rfl ⟨by decide, by decide⟩ rfl (Nat.le_of_ble_eq_true rfl) hl (m_str (i := i) (by omega)) (Nat.le_of_ble_eq_true rfl) (s_charAt hl hi (j := k) rfl (by omega)) rfl ?_
    refine r_aload_n (pc := 30) dX1_standsAt_30 rfl rfl ?_
    refine r_iload_n (pc := 31) dX1_standsAt_31 rfl rfl ?_
    refine r_iload (pc := 32) dX1_standsAt_32 rfl ?_
    refine r_iadd (pc := 34) dX1_standsAt_34 ?_
    refine q_callV (ci := 0) (T := TX1) (N := 5) (vs := [.int _]) (pc := 35) dX1_standsAt_35 rfl l_RX1_54 rfl ⟨by decide, by decide⟩ rfl (Nat.le_of_ble_eq_true rfl) hl cH_40 rfl (Nat.le_of_ble_eq_true rfl) (s_X1_byteAt Ln hln hL (p + k) _ (nadd rfl rfl) (by omega)) cH_22 ?_
    rw [show K_b t Ln (p + k) = t (p + k) from if_pos (by omega)]
    refine r_icmp_eq 43 (pc := 38) dX1_standsAt_38 (by decide) (fun c38 => ?_) (fun c38 => ?_)
    · refine q_iinc (nI (k + 1)) [_, _, _, _, _] (pc := 43) dX1_standsAt_43 rfl (by decide) (ninc 1 rfl) rfl ?_
      refine r_goto 15 (pc := 46) dX1_standsAt_46 (by decide) ?_
      rw [show K_sal t p i (n9 + 1) k = K_sal t p i n9 (k + 1) by rw [K_sal, if_pos c38]]
      exact ih (k + 1) (by omega)
    · refine r_iconst (v := 0) (pc := 41) dX1_standsAt_41 (by decide) ?_
      exact r_ireturn (S := []) (pc := 42) dX1_standsAt_42 rfl rfl ⟨by rw [K_sal, if_neg c38], rfl⟩
theorem s_X1_standsAt {om : OM} {l : Launch} {B : Nat × Nat} {H : Hp} {ln po : Int32} {wd : Value} {t nu : Nat → Int32} (hl : l.stackTraces = false) (Ln : Nat) (hln : ln = nI Ln) (hL : Ln ≤ 150) (i p q : Nat) (x y : Int32) (hi : i < 9) (hx : x = nI p) (hy : y = nI q) (hpq : p ≤ q) (hq : q ≤ Ln) : Runs om l M_X1_standsAt B 0 (entL 5 [.ref 40, .ref (100020 + i), .int x, .int y]) [] (cH H ln po wd t nu) (Det (some (.int (K_sa t p q i))) (cH H ln po wd t nu)) := by
  show Runs om l M_X1_standsAt B 0 [some (.ref 40), some (.ref (100020 + i)), some (.int x), some (.int y), none] [] _ _
  have h6 := (tx_l6 i hi).1
  refine r_aload_n (pc := 0) dX1_standsAt_0 rfl rfl ?_
  refine q_callVC (vs := []) (pc := 1) dX1_standsAt_1 rfl l_RX1_80 rfl ⟨by decide, by decide⟩ rfl (Nat.le_of_ble_eq_true rfl) hl (m_str (i := i) (by omega)) (Nat.le_of_ble_eq_true rfl) (s_length hl hi) rfl ?_
  refine r_iload_n (pc := 4) dX1_standsAt_4 rfl rfl ?_
  refine r_iload_n (pc := 5) dX1_standsAt_5 rfl rfl ?_
  refine r_isub (pc := 6) dX1_standsAt_6 ?_
  refine r_icmp_eq 12 (pc := 7) dX1_standsAt_7 (by decide) (fun c7 => ?_) (fun c7 => ?_)
  · have hpq2 : tx_len i = q - p := by
      have e1 : y - x = nI (q - p) := nsub hy hx hpq
      rw [e1] at c7
      exact (nI_eq (by omega) (by omega)).mp c7
    subst hx
    refine r_iconst (v := 0) (pc := 12) dX1_standsAt_12 (by decide) ?_
    refine q_istore [_, _, _, _, _] (pc := 13) dX1_standsAt_13 (by decide) rfl ?_
    rw [show K_sa t p q i = K_sal t p i (tx_len i) 0 from if_pos hpq2]
    exact lp_X1_standsAt hl Ln hln hL i p q hi hq (by omega) y (tx_len i) 0 (by omega)
  · refine r_iconst (v := 0) (pc := 10) dX1_standsAt_10 (by decide) ?_
    exact r_ireturn (S := []) (pc := 11) dX1_standsAt_11 rfl rfl ⟨by rw [show K_sa t p q i = 0 from if_neg (fun z => c7 (by rw [show y - x = nI (q - p) from nsub hy hx hpq, z]))], rfl⟩
theorem kwv_9 : K_wv 9 = .null := rfl
theorem kwv_i {i : Nat} (h : i < 9) : K_wv i = .ref (100010 + i) := if_neg (by omega)
theorem lp_X1_wordBetween {om : OM} {l : Launch} {B : Nat × Nat} {H : Hp} {ln po : Int32} {wd : Value} {t nu : Nat → Int32} (hl : l.stackTraces = false) (Ln : Nat) (hln : ln = nI Ln) (hL : Ln ≤ 150) (p q : Nat) (x y : Int32) (hx : x = nI p) (hy : y = nI q) (hpq : p ≤ q) (hq : q ≤ Ln) : ∀ (n9 k : Nat), k + n9 = 9 → Runs om l M_X1_wordBetween B 2 [some (.ref 40), some (.int x), some (.int y), some (.int (nI k))] [] (cH H ln po wd t nu) (Det (some (K_wv (K_wi t p q n9 k))) (cH H ln po wd t nu)) := by
  intro n9
  induction n9 with
  | zero =>
    intro k hk
    have e9 : k = 9 := by omega
    subst e9
    refine r_iload_n (pc := 2) dX1_wordBetween_2 rfl rfl ?_
    refine r_getstatic (pc := 3) dX1_wordBetween_3 rfl m_ws g_RX1_68 ?_
    refine r_talen (v := nI 9) (pc := 6) dX1_wordBetween_6 m_wa rfl ?_
    refine r_icmp_ge 47 (pc := 7) dX1_wordBetween_7 (by decide) (fun c7 => ?_) (fun c7 => absurd (c_get rfl rfl (a := 9) (b := 9) (by omega) (by omega) (by omega)) c7)
    refine r_null (pc := 47) dX1_wordBetween_47 ?_
    exact r_areturnN (S := []) (pc := 48) dX1_wordBetween_48 rfl ⟨rfl, rfl⟩
  | succ n9 ih =>
    intro k hk
    refine r_iload_n (pc := 2) dX1_wordBetween_2 rfl rfl ?_
    refine r_getstatic (pc := 3) dX1_wordBetween_3 rfl m_ws g_RX1_68 ?_
    refine r_talen (v := nI 9) (pc := 6) dX1_wordBetween_6 m_wa rfl ?_
    refine r_icmp_ge 47 (pc := 7) dX1_wordBetween_7 (by decide) (fun c7 => absurd c7 (c_gef rfl rfl (a := k) (b := 9) (by omega) (by omega) (by omega))) (fun c7 => ?_)
    refine r_getstatic (pc := 10) dX1_wordBetween_10 rfl m_ws g_RX1_68 ?_
    refine r_iload_n (pc := 13) dX1_wordBetween_13 rfl rfl ?_
    refine r_taaload (pc := 14) dX1_wordBetween_14 m_wa (vin_n rfl (show k < 9 by omega) (by decide)) ?_
    rw [cl_n rfl (show k < 9 by omega) (by decide)]
    show Runs _ _ _ _ _ _ (.ref (100010 + k) :: _) _ _
    refine r_ifnull (pc := 15) dX1_wordBetween_15 ?_
    refine r_aload_n (pc := 18) dX1_wordBetween_18 rfl rfl ?_
    refine r_getstatic (pc := 19) dX1_wordBetween_19 rfl m_ws g_RX1_68 ?_
    refine r_iload_n (pc := 22) dX1_wordBetween_22 rfl rfl ?_
    refine r_taaload (pc := 23) dX1_wordBetween_23 m_wa (vin_n rfl (show k < 9 by omega) (by decide)) ?_
    rw [cl_n rfl (show k < 9 by omega) (by decide)]
    show Runs _ _ _ _ _ _ (.ref (100010 + k) :: _) _ _
    refine r_getfieldC (pc := 24) dX1_wordBetween_24 rfl (m_txt (i := k) (by omega)) g_RX1_72 ?_
    refine r_iload_n (pc := 27) dX1_wordBetween_27 rfl rfl ?_
    refine r_iload_n (pc := 28) dX1_wordBetween_28 rfl rfl ?_
    refine q_callV (ci := 0) (T := TX1) (N := 5) (vs := [.ref _, .int _, .int _]) (pc := 29) dX1_wordBetween_29 rfl l_RX1_76 rfl ⟨by decide, by decide⟩ rfl (Nat.le_of_ble_eq_true rfl) hl cH_40 rfl (Nat.le_of_ble_eq_true rfl) (s_X1_standsAt hl Ln hln hL k p q _ _ (by omega) hx hy hpq hq) cH_22 ?_
    refine r_if_eq 41 (pc := 32) dX1_wordBetween_32 (by decide) (fun c32 => ?_) (fun c32 => ?_)
    · refine q_iinc (nI (k + 1)) [_, _, _, _] (pc := 41) dX1_wordBetween_41 rfl (by decide) (ninc 1 rfl) rfl ?_
      refine r_goto 2 (pc := 44) dX1_wordBetween_44 (by decide) ?_
      rw [show K_wi t p q (n9 + 1) k = K_wi t p q n9 (k + 1) by rw [K_wi, if_pos c32]]
      exact ih (k + 1) (by omega)
    · refine r_getstatic (pc := 35) dX1_wordBetween_35 rfl m_ws g_RX1_68 ?_
      refine r_iload_n (pc := 38) dX1_wordBetween_38 rfl rfl ?_
      refine r_taaload (pc := 39) dX1_wordBetween_39 m_wa (vin_n rfl (show k < 9 by omega) (by decide)) ?_
      rw [cl_n rfl (show k < 9 by omega) (by decide)]
      show Runs _ _ _ _ _ _ (.ref (100010 + k) :: _) _ _
      exact r_areturn (S := []) (pc := 40) dX1_wordBetween_40 rfl ⟨by rw [show K_wi t p q (n9 + 1) k = k by rw [K_wi, if_neg c32], kwv_i (by omega)], rfl⟩
theorem s_X1_wordBetween {om : OM} {l : Launch} {B : Nat × Nat} {H : Hp} {ln po : Int32} {wd : Value} {t nu : Nat → Int32} (hl : l.stackTraces = false) (Ln : Nat) (hln : ln = nI Ln) (hL : Ln ≤ 150) (p q : Nat) (x y : Int32) (hx : x = nI p) (hy : y = nI q) (hpq : p ≤ q) (hq : q ≤ Ln) : Runs om l M_X1_wordBetween B 0 (entL 4 [.ref 40, .int x, .int y]) [] (cH H ln po wd t nu) (Det (some (K_wv (K_wi t p q 9 0))) (cH H ln po wd t nu)) := by
  show Runs om l M_X1_wordBetween B 0 [some (.ref 40), some (.int x), some (.int y), none] [] _ _
  refine r_iconst (v := 0) (pc := 0) dX1_wordBetween_0 (by decide) ?_
  refine q_istore_n [_, _, _, _] (pc := 1) dX1_wordBetween_1 rfl (by decide) rfl ?_
  exact lp_X1_wordBetween hl Ln hln hL p q x y hx hy hpq hq 9 0 (by omega)
theorem lp_X1_readWord {om : OM} {l : Launch} {B : Nat × Nat} {H : Hp} {ln po : Int32} {wd : Value} {t nu : Nat → Int32} {Post : Out → Hp → Prop} (hl : l.stackTraces = false) (Ln : Nat) (hln : ln = nI Ln) (hL : Ln ≤ 150) (p : Nat) (f : Int32) : ∀ (n9 k : Nat) (v : Int64), k + n9 = Ln → Runs om l M_X1_readWord B 43 [some (.ref 40), some (.int (nI p))] [] (cH H ln (nI (R_wl t Ln f n9 k v).1) wd t nu) Post → Runs om l M_X1_readWord B 5 [some (.ref 40), some (.int (nI p))] [] (cH H ln (nI k) wd t nu) Post := by
  intro n9
  induction n9 with
  | zero =>
    intro k v hk KK
    refine r_aload_n (pc := 5) dX1_readWord_5 rfl rfl ?_
    refine tx_get (pc := 6) dX1_readWord_6 rfl f_RX1_19 rfl ?_
    refine r_aload_n (pc := 9) dX1_readWord_9 rfl rfl ?_
    refine tx_get (pc := 10) dX1_readWord_10 rfl f_RX1_9 rfl ?_
    refine r_icmp_ge 43 (pc := 13) dX1_readWord_13 (by decide) (fun c13 => ?_) (fun c13 => absurd (c_get rfl hln (a := k) (b := Ln) (by omega) (by omega) (by omega)) c13)
    exact KK
  | succ n9 ih =>
    intro k v hk KK
    refine r_aload_n (pc := 5) dX1_readWord_5 rfl rfl ?_
    refine tx_get (pc := 6) dX1_readWord_6 rfl f_RX1_19 rfl ?_
    refine r_aload_n (pc := 9) dX1_readWord_9 rfl rfl ?_
    refine tx_get (pc := 10) dX1_readWord_10 rfl f_RX1_9 rfl ?_
    refine r_icmp_ge 43 (pc := 13) dX1_readWord_13 (by decide) (fun c13 => absurd c13 (c_gef rfl hln (a := k) (b := Ln) (by omega) (by omega) (by omega))) (fun c13 => ?_)
    refine r_aload_n (pc := 16) dX1_readWord_16 rfl rfl ?_
    refine r_aload_n (pc := 17) dX1_readWord_17 rfl rfl ?_
    refine tx_get (pc := 18) dX1_readWord_18 rfl f_RX1_19 rfl ?_
    refine q_callV (ci := 0) (T := TX1) (N := 5) (vs := [.int _]) (pc := 21) dX1_readWord_21 rfl l_RX1_54 rfl ⟨by decide, by decide⟩ rfl (Nat.le_of_ble_eq_true rfl) hl cH_40 rfl (Nat.le_of_ble_eq_true rfl) (s_X1_byteAt Ln hln hL k _ rfl (by omega)) cH_22 ?_
    refine q_callS (vs := [.int _]) (pc := 24) dX1_readWord_24 rfl l_RX1_58 rfl ⟨by decide, by decide⟩ rfl (Nat.le_of_ble_eq_true rfl) hl (Nat.le_of_ble_eq_true rfl) (s_X1_isLetter _) rfl ?_
    rw [an_b (by decide)]
    refine r_if_eq 43 (pc := 27) dX1_readWord_27 (by decide) (fun c27 => ?_) (fun c27 => ?_)
    · rw [show R_wl t Ln f (n9 + 1) k v = (k, v) by rw [R_wl, if_pos c27]] at KK
      exact KK
    · refine r_aload_n (pc := 30) dX1_readWord_30 rfl rfl ?_
      refine r_dup (pc := 31) dX1_readWord_31 rfl ?_
      refine tx_get (pc := 32) dX1_readWord_32 rfl f_RX1_19 rfl ?_
      refine r_iconst (v := 1) (pc := 35) dX1_readWord_35 (by decide) ?_
      refine r_iadd (pc := 36) dX1_readWord_36 ?_
      refine tx_put _ _ _ (pc := 37) dX1_readWord_37 rfl f_RX1_19 (fun _ => rfl) (fun _ => rfl) (by decide) rfl ?_
      refine r_goto 5 (pc := 40) dX1_readWord_40 (by decide) ?_
      rw [show R_wl t Ln f (n9 + 1) k v = R_wl t Ln f n9 (k + 1) (R_wv (nI k) f (t k) v) by rw [R_wl, if_neg c27]] at KK
      rw [show nI k + 1 = nI (k + 1) from (nI_succ k).symm]
      exact ih (k + 1) _ (by omega) KK
def K_w (t : Nat → Int32) (L p : Nat) : Nat := K_wi t p (R_w1 t L p).1 9 0
theorem w1_le {t : Nat → Int32} {L p : Nat} (h : p ≤ L) : p ≤ (R_w1 t L p).1 ∧ (R_w1 t L p).1 ≤ L := by
  have := wl_le (t := t) (ln := L) (f := nI p) (L - p) p 0
  unfold R_w1
  omega
theorem s_X1_readWord_no {om : OM} {l : Launch} {B : Nat × Nat} {H : Hp} {ln po : Int32} {wd : Value} {t nu : Nat → Int32} (hl : l.stackTraces = false) (Ln : Nat) (hln : ln = nI Ln) (hL : Ln ≤ 150) (p : Nat) (hp : po = nI p) (hpL : p ≤ Ln) (hw : K_w t Ln p = 9) : Runs om l M_X1_readWord B 0 (entL 2 [.ref 40]) [] (cH H ln po wd t nu) (Det (some (.int 0)) (cH H ln (nI p) (.null) t nu)) := by
  show Runs om l M_X1_readWord B 0 [some (.ref 40), none] [] _ _
  refine r_aload_n (pc := 0) dX1_readWord_0 rfl rfl ?_
  refine tx_get (pc := 1) dX1_readWord_1 rfl f_RX1_19 rfl ?_
  refine q_istore_n [_, _] (pc := 4) dX1_readWord_4 rfl (by decide) rfl ?_
  subst hp
  have hq := w1_le (t := t) hpL
  refine lp_X1_readWord (po := nI p) hl Ln hln hL p (nI p) (Ln - p) p 0 (by omega) ?_
  change Runs om l M_X1_readWord B 43 _ [] (cH H ln (nI (R_w1 t Ln p).1) wd t nu) _
  refine r_aload_n (pc := 43) dX1_readWord_43 rfl rfl ?_
  refine r_aload_n (pc := 44) dX1_readWord_44 rfl rfl ?_
  refine r_iload_n (pc := 45) dX1_readWord_45 rfl rfl ?_
  refine r_aload_n (pc := 46) dX1_readWord_46 rfl rfl ?_
  refine tx_get (pc := 47) dX1_readWord_47 rfl f_RX1_19 rfl ?_
  refine q_callV (ci := 0) (T := TX1) (N := 5) (vs := [.int _, .int _]) (pc := 50) dX1_readWord_50 rfl l_RX1_61 rfl ⟨by decide, by decide⟩ rfl (Nat.le_of_ble_eq_true rfl) hl cH_40 rfl (Nat.le_of_ble_eq_true rfl) (s_X1_wordBetween hl Ln hln hL p (R_w1 t Ln p).1 _ _ rfl rfl hq.1 hq.2) cH_22 ?_
  rw [show K_wi t p (R_w1 t Ln p).1 9 0 = 9 from hw, kwv_9]
  refine tx_put _ _ _ (pc := 53) dX1_readWord_53 rfl f_RX1_22 (fun _ => rfl) (fun _ => rfl) (by decide) rfl ?_
  refine r_aload_n (pc := 56) dX1_readWord_56 rfl rfl ?_
  refine tx_get (pc := 57) dX1_readWord_57 rfl f_RX1_22 rfl ?_
  refine r_ifnonnullN (pc := 60) dX1_readWord_60 ?_
  refine r_aload_n (pc := 63) dX1_readWord_63 rfl rfl ?_
  refine r_iload_n (pc := 64) dX1_readWord_64 rfl rfl ?_
  refine tx_put _ _ _ (pc := 65) dX1_readWord_65 rfl f_RX1_19 (fun _ => rfl) (fun _ => rfl) (by decide) rfl ?_
  refine r_iconst (v := 0) (pc := 68) dX1_readWord_68 (by decide) ?_
  exact r_ireturn (S := []) (pc := 69) dX1_readWord_69 rfl rfl ⟨rfl, rfl⟩
theorem s_X1_readWord_yes {om : OM} {l : Launch} {B : Nat × Nat} {H : Hp} {ln po : Int32} {wd : Value} {t nu : Nat → Int32} (hl : l.stackTraces = false) (Ln : Nat) (hln : ln = nI Ln) (hL : Ln ≤ 150) (p : Nat) (hp : po = nI p) (hpL : p ≤ Ln) (i : Nat) (hi : i < 9) (hw : K_w t Ln p = i) : Runs om l M_X1_readWord B 0 (entL 2 [.ref 40]) [] (cH H ln po wd t nu) (Det (some (.int 1)) (cH H ln (nI (R_w1 t Ln p).1) (.ref (100010 + i)) t nu)) := by
  show Runs om l M_X1_readWord B 0 [some (.ref 40), none] [] _ _
  refine r_aload_n (pc := 0) dX1_readWord_0 rfl rfl ?_
  refine tx_get (pc := 1) dX1_readWord_1 rfl f_RX1_19 rfl ?_
  refine q_istore_n [_, _] (pc := 4) dX1_readWord_4 rfl (by decide) rfl ?_
  subst hp
  have hq := w1_le (t := t) hpL
  refine lp_X1_readWord (po := nI p) hl Ln hln hL p (nI p) (Ln - p) p 0 (by omega) ?_
  change Runs om l M_X1_readWord B 43 _ [] (cH H ln (nI (R_w1 t Ln p).1) wd t nu) _
  refine r_aload_n (pc := 43) dX1_readWord_43 rfl rfl ?_
  refine r_aload_n (pc := 44) dX1_readWord_44 rfl rfl ?_
  refine r_iload_n (pc := 45) dX1_readWord_45 rfl rfl ?_
  refine r_aload_n (pc := 46) dX1_readWord_46 rfl rfl ?_
  refine tx_get (pc := 47) dX1_readWord_47 rfl f_RX1_19 rfl ?_
  refine q_callV (ci := 0) (T := TX1) (N := 5) (vs := [.int _, .int _]) (pc := 50) dX1_readWord_50 rfl l_RX1_61 rfl ⟨by decide, by decide⟩ rfl (Nat.le_of_ble_eq_true rfl) hl cH_40 rfl (Nat.le_of_ble_eq_true rfl) (s_X1_wordBetween hl Ln hln hL p (R_w1 t Ln p).1 _ _ rfl rfl hq.1 hq.2) cH_22 ?_
  rw [show K_wi t p (R_w1 t Ln p).1 9 0 = i from hw, kwv_i hi]
  refine tx_put _ _ _ (pc := 53) dX1_readWord_53 rfl f_RX1_22 (fun _ => rfl) (fun _ => rfl) (by decide) rfl ?_
  refine r_aload_n (pc := 56) dX1_readWord_56 rfl rfl ?_
  refine tx_get (pc := 57) dX1_readWord_57 rfl f_RX1_22 rfl ?_
  refine r_ifnonnull 70 (pc := 60) dX1_readWord_60 (by decide) ?_
  refine r_iconst (v := 1) (pc := 70) dX1_readWord_70 (by decide) ?_
  exact r_ireturn (S := []) (pc := 71) dX1_readWord_71 rfl rfl ⟨rfl, rfl⟩
