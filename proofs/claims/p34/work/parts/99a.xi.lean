/-! the law's round, its loop, its start -/
section DR2
variable {om : OM} {l : Launch} {M : MI} {B : Nat × Nat} {pc : Nat} {L : List (Option Value)} {S : List Value} {h : Hp} {Post : Out → Hp → Prop}
theorem q_lstore {i : Nat} {x : Int64} (L' : List (Option Value)) (d : decode (mi_by M) pc = .ok (.lstore i, 2)) (hn : i + 1 < mi_ml M) (hL : st2 L i (.long x) = L') (k : Runs om l M B (pc + 2) L' S h Post) : Runs om l M B pc L ((.long x) :: S) h Post := r_lstore d hn (hL ▸ k)
end DR2
theorem df_X10 : ∀ j, j < 6 → defaultValue (tyX10 j) = vp_V [.null, .null, .null, .int 0, .int 0, .null] j := by
  intro j hj
  have hj2 : j = 0 ∨ j = 1 ∨ j = 2 ∨ j = 3 ∨ j = 4 ∨ j = 5 := by omega
  rcases hj2 with rfl | rfl | rfl | rfl | rfl | rfl <;> rfl
section LZ
variable {om : OM} {l : Launch} {g : Hp} {C : Nat → Int32} {W : Nat → Int64} {S : Nat → Nat → Int32} {V : Nat → Nat → Int64} {p c e : Nat} {A : Nat → Int32} {Post : Out → Hp → Prop}
abbrev L12 (sv e : Int32) : List (Option Value) := [some (.ref 100000), some (.ref 0), some (.int sv), some (.int e), none, none, none, none, none, none, none, none, none]
def LawZ (om : OM) (l : Launch) (g : Hp) (Post : Out → Hp → Prop) (e : Nat) : Prop := ∀ (B : Nat × Nat) (C : Nat → Int32) (W : Nat → Int64) (S : Nat → Nat → Int32) (V : Nat → Nat → Int64) (p c : Nat), GD (4 * e) C W → SVG (4 * e) S V p c → Runs om l M_L_law B 12 (L12 (nI c) (nI e)) [] (EW g C W S V p c) Post
theorem r_559 {B : Nat × Nat} {sv v sh sn got pd kk d : Int32} {was : Int64} {h : Hp} (K : Runs om l M_L_law B 12 (L12 sv (nI (e + 1))) [] h Post) : Runs om l M_L_law B 559 (LL sv (nI e) v sh sn was got pd kk d) [] h Post := by
  refine q_iinc (nI (e + 1)) (LL sv (nI (e + 1)) v sh sn was got pd kk d) (pc := 559) dL_law_559 rfl (by decide) (ninc 1 rfl) rfl ?_
  refine r_goto 12 (pc := 562) dL_law_562 (by decide) ?_
  exact r_wk (L12 sv (nI (e + 1))) ⟨rfl, rfl, rfl, rfl, trivial⟩ K
theorem r_517 {B : Nat × Nat} {v sh sn got pd kk d : Int32} {C' A' : Nat → Int32} {W' : Nat → Int64} (hl : l.stackTraces = false) (hA : AG C W A) (o : OKA A) (x : XA (4 * e) A) (hs : SVG (4 * e) S V p c) (hA' : AG C' W' A') (o' : OKA A') (x' : XA (4 * e + 4) A') (KK : LawZ om l g Post (e + 1)) : Runs om l M_L_law B 517 (LL (nI (min (c + 1) 4)) (nI e) v sh sn (dgv C W c) got pd kk d) [] (NV g C W S V p c C' W') Post := by
  have hp : p < 4 := hs.1
  have hc : c ≤ 4 := hs.2.1
  have hs1 := SVG_save hs (⟨A, hA, o, x⟩ : GD (4 * e) C W)
  have ec : min (c + 1) 4 = min c 3 + 1 := by omega
  have e1 : updS S ((p + 1) % 4) C ((p + 1) % 4) = C := if_pos rfl
  have e2 : updS V ((p + 1) % 4) W ((p + 1) % 4) = W := if_pos rfl
  show Runs om l M_L_law B 517 _ [] (EW g C' W' (updS S ((p + 1) % 4) C) (updS V ((p + 1) % 4) W) ((p + 1) % 4) (min (c + 1) 4)) Post
  rw [ec]
  rw [ec] at hs1
  have hA1 : AG (updS S ((p + 1) % 4) C ((p + 1) % 4)) (updS V ((p + 1) % 4) W ((p + 1) % 4)) A := by rw [e1, e2]; exact hA
  have hw : min c 3 < 3 → dgv C W c = dgv (updS S ((p + 1) % 4) C ((p + 1) % 4)) (updS V ((p + 1) % 4) W ((p + 1) % 4)) (min c 3) := fun h3 => by rw [e1, e2, show min c 3 = c by omega]
  have g0 : GD (4 * (e + 1)) C' W' := ⟨A', hA', o', x'.weak (by omega)⟩
  rw [show 4 * e + 4 = 4 * (e + 1) by omega] at hs1
  have g1 : GD (4 * (e + 1)) (updS S ((p + 1) % 4) C ((p + 1) % 4)) (updS V ((p + 1) % 4) W ((p + 1) % 4)) := by rw [e1, e2]; exact ⟨A, hA, o, x.weak (by omega)⟩
  exact seg_I hl (by omega) (by omega) hA1 o hw (r_559 (KK B C' W' _ _ _ _ g0 hs1)) (r_559 (KK B _ _ _ _ _ _ g1 (SVG_undo hs1)))
theorem r_63 {B : Nat × Nat} {v sh got : Int32} {C' : Nat → Int32} {W' : Nat → Int64} (hl : l.stackTraces = false) (he : e < 40) (hA : AG C W A) (o : OKA A) (x : XA (4 * e) A) (hs : SVG (4 * e) S V p c) (hsh : (sh = 0 ∧ ¬ 11 < v &&& 15) ∨ (sh = 1 ∧ 11 < v &&& 15)) (hD : DP v (4 * e) C C' W' got) (KK : LawZ om l g Post (e + 1)) : Runs om l M_L_law B 63 (M9 (nI c) (nI e) v sh (A 24) (dgv C W c) got) [] (NV g C W S V p c C' W') Post := by
  obtain ⟨hgot, A', hA', o', x', hSh⟩ := hD
  refine seg_S3 hs.2.1 ?_
  refine seg_S4 hgot ?_
  rcases hsh with ⟨rfl, h11⟩ | ⟨rfl, h11⟩
  · exact seg_S50 (chk hl hA' o' x' (by omega) (Or.inl rfl) (fun pd kk d => r_517 hl hA o x hs hA' o' x' KK))
  · obtain ⟨hF, h24⟩ := hSh h11
    have h24' : A' 24 = A 24 + 1 + lw (v >>> ((4 : Int32) &&& 31)) 4 := by
      rw [← hA'.1.lo (j := 24) (by omega), h24, hA.1.lo (j := 24) (by omega)]
    exact seg_S51 hl hA' o' h24' (chk hl hA' o' x' (by omega) (Or.inr ⟨rfl, hF⟩) (fun pd kk d => r_517 hl hA o x hs hA' o' x' KK))
theorem r_40 {B : Nat × Nat} {v sh : Int32} (hl : l.stackTraces = false) (he : e < 40) (hA : AG C W A) (o : OKA A) (x : XA (4 * e) A) (hs : SVG (4 * e) S V p c) (hsh : (sh = 0 ∧ ¬ 11 < v &&& 15) ∨ (sh = 1 ∧ 11 < v &&& 15)) (KK : LawZ om l g Post (e + 1)) : Runs om l M_L_law B 40 [some (.ref 100000), some (.ref 0), some (.int (nI c)), some (.int (nI e)), some (.int v), none, none, none, none, none, none, none, none] [.int sh] (EW g C W S V p c) Post := by
  have hp : p < 4 := hs.1
  have hc : c ≤ 4 := hs.2.1

  refine q_istore [_, _, _, _, _, _, _, _, _, _, _, _, _] (pc := 40) dL_law_40 (by decide) rfl ?_
  refine r_aload_n (pc := 42) dL_law_42 rfl rfl ?_
  refine r_iconst (v := 0) (pc := 43) dL_law_43 (by decide) ?_
  refine q_callV (ci := 8) (T := TX10) (N := 6) (vs := [.int _]) (pc := 44) dL_law_44 rfl l_RL_68 rfl ⟨by decide, by decide⟩ rfl (Nat.le_of_ble_eq_true rfl) hl EW_0 rfl (Nat.le_of_ble_eq_true rfl) (qg hl hA o _ 0 rfl (by omega) gau_0) rfl ?_
  refine q_istore [_, _, _, _, _, _, _, _, _, _, _, _, _] (pc := 47) dL_law_47 (by decide) rfl ?_
  refine r_aload_n (pc := 49) dL_law_49 rfl rfl ?_
  refine q_callV (ci := 8) (T := TX10) (N := 6) (vs := []) (pc := 50) dL_law_50 rfl l_RL_71 rfl ⟨by decide, by decide⟩ rfl (Nat.le_of_ble_eq_true rfl) hl EW_0 rfl (Nat.le_of_ble_eq_true rfl) (qs_digest hl hA o) rfl ?_
  refine q_lstore [_, _, _, _, _, _, _, _, _, _, _, _, _] (pc := 53) dL_law_53 (by decide) rfl ?_
  refine r_aload_n (pc := 55) dL_law_55 rfl rfl ?_
  refine r_iload (pc := 56) dL_law_56 rfl ?_
  refine r_callS (vs := [.ref _, .int _]) 0 0 (PostZ := DPost g C W S V p c (4 * e) v) (pc := 58) dL_law_58 rfl l_RL_75 rfl ⟨by decide, by decide⟩ rfl (Nat.le_of_ble_eq_true rfl) hl (Nat.zero_le _) (Nat.zero_le _) (Nat.le_of_ble_eq_true rfl) (s_L_does hl hA o x (by omega) hp hc) (fun E h1 z => by obtain ⟨_, _, _, z, -⟩ := z; cases z) (fun o1 h1 z hq => by obtain ⟨_, _, _, -, rfl, -⟩ := z; exact ⟨hq, rfl⟩) (fun o1 h1 z => ?_)
  obtain ⟨got, C', W', z, rfl, hD⟩ := z
  cases z
  refine q_istore [_, _, _, _, _, _, _, _, _, _, _, _, _] (pc := 61) dL_law_61 (by decide) rfl ?_
  exact r_63 hl he hA o x hs hsh hD KK
theorem one_round {B : Nat × Nat} (hl : l.stackTraces = false) (hL : om_L om ≤ 260) (he : e < 40) (hG : GD (4 * e) C W) (hs : SVG (4 * e) S V p c) (KK : LawZ om l g Post (e + 1)) : Runs om l M_L_law B 12 (L12 (nI c) (nI e)) [] (EW g C W S V p c) Post := by
  obtain ⟨A, hA, o, x⟩ := hG
  refine r_iload_n (pc := 12) dL_law_12 rfl rfl ?_
  refine r_bipush (v := 40) (pc := 13) dL_law_13 (by decide) ?_
  refine r_icmp_ge 565 (pc := 15) dL_law_15 (by decide) (fun c15 => absurd c15 (c_gef rfl rfl (a := e) (b := 40) (by omega) (by omega) (by omega))) (fun c15 => ?_)
  refine r_aload_n (pc := 18) dL_law_18 rfl rfl ?_
  refine r_iload_n (pc := 19) dL_law_19 rfl rfl ?_
  refine q_callS (vs := [.ref _, .int _]) (pc := 20) dL_law_20 rfl l_RL_64 rfl ⟨by decide, by decide⟩ rfl (Nat.le_of_ble_eq_true rfl) hl (Nat.le_of_ble_eq_true rfl) (s_L_cell e he hL) rfl ?_
  generalize cvv om e = v
  refine q_istore [_, _, _, _, _, _, _, _, _, _, _, _, _] (pc := 23) dL_law_23 (by decide) rfl ?_
  refine r_iload (pc := 25) dL_law_25 rfl ?_
  refine r_bipush (v := 15) (pc := 27) dL_law_27 (by decide) ?_
  refine r_iand (pc := 29) dL_law_29 ?_
  refine r_bipush (v := 11) (pc := 30) dL_law_30 (by decide) ?_
  refine r_icmp_le 39 (pc := 32) dL_law_32 (by decide) (fun c32 => ?_) (fun c32 => ?_)
  · refine r_iconst (v := 0) (pc := 39) dL_law_39 (by decide) ?_
    exact r_40 hl he hA o x hs (Or.inl ⟨rfl, fun z => Int32.not_le.mpr z c32⟩) KK
  · refine r_iconst (v := 1) (pc := 35) dL_law_35 (by decide) ?_
    refine r_goto 40 (pc := 36) dL_law_36 (by decide) ?_
    exact r_40 hl he hA o x hs (Or.inr ⟨rfl, Int32.not_le.mp c32⟩) KK
theorem lp_law (hl : l.stackTraces = false) (hL : om_L om ≤ 260) : ∀ n e, e + n = 40 → LawZ om l g (fun o _ => o = .inl (some (.int 1))) e := by
  intro n
  induction n with
  | zero =>
    intro e he B C W S V p c _ _
    have e40 : e = 40 := by omega
    subst e40
    refine r_iload_n (pc := 12) dL_law_12 rfl rfl ?_
    refine r_bipush (v := 40) (pc := 13) dL_law_13 (by decide) ?_
    refine r_icmp_ge 565 (pc := 15) dL_law_15 (by decide) (fun _ => ?_) (fun z => absurd (Int32.le_refl _) z)
    refine r_iconst (v := 1) (pc := 565) dL_law_565 (by decide) ?_
    exact r_ireturn (S := []) (pc := 566) dL_law_566 rfl rfl rfl
  | succ n ih =>
    intro e he B C W S V p c hG hs
    exact one_round hl hL (by omega) hG hs (ih (e + 1) (by omega))
end LZ
theorem world_0 : ((G118.1, G118.2.1, false) : Hp) = EW g0 A0 W0 (fun _ => A0) (fun _ => W0) 0 0 := by
  refine hp_ext (fun j => ?_) ?_
  · by_cases hj : j < 119
    · exact g118_in hj
    · exact (g118_out (by omega)).trans (EH_out (h := g0) (by omega)).symm
  · show (G118.2.1, false) = (119, false)
    rw [gm_n]
theorem GD_0 : GD (4 * 0) A0 W0 := by
  have o : OKA A0 := OKA_begins (by decide)
  refine ⟨A0, ⟨fun _ _ => rfl, fun i hi => ?_, ?_⟩, o, XA_begins (by decide)⟩
  · show K_bin W0 i = A0 (146 + i)
    rw [A0_z (by omega)]
    unfold K_bin
    show (if lg_cmp ((0 : Int64) &&& _) 0 = 0 then (0 : Int32) else 1) = 0
    rw [Int64.zero_and]
    exact if_pos (by decide)
  · show A0 647 = R_mkd A0 501
    rw [mkd_cong (B := fun _ => 0) 501 (fun i hi => A0_z (by omega)), mkd_0]
    rfl
theorem law_all {om : OM} {l : Launch} (hl : l.stackTraces = false) (hL : om_L om ≤ 260) : Runs om l M_L_law (119, 1208) 0 (entL 13 [.ref 100000]) [] hZ (fun o _ => o = .inl (some (.int 1))) := by
  show Runs om l M_L_law (119, 1208) 0 [some (.ref 100000), none, none, none, none, none, none, none, none, none, none, none, none] [] _ _
  refine r_new (fs := [.null, .null, .null, .int 0, .int 0, .null]) (pc := 0) dL_law_0 rfl clf_8 c_RL_9 n_RX10 i_RX10 df_X10 (fun _ => rfl) rfl (by decide) (by decide) ?_
  rw [hA_one]
  refine r_dup (pc := 3) dL_law_3 rfl ?_
  refine r_callI (vs := []) 118 1202 (pc := 4) dL_law_4 rfl l_RL_63 rfl rfl ⟨by decide, by decide⟩ rfl (Nat.le_of_ble_eq_true rfl) hl (by decide) (by decide) (Nat.le_of_ble_eq_true rfl) (c_X10_init hl) (fun E h1 z => by cases z.1) (fun o h1 z hq => by obtain ⟨-, rfl⟩ := z; exact ⟨rfl, gm_n⟩) (fun o h1 z => ?_)
  obtain ⟨z1, rfl⟩ := z
  cases z1
  refine q_astore_n [_, _, _, _, _, _, _, _, _, _, _, _, _] (pc := 7) dL_law_7 rfl (by decide) rfl ?_
  refine r_iconst (v := nI 0) (pc := 8) dL_law_8 rfl ?_
  refine q_istore_n [_, _, _, _, _, _, _, _, _, _, _, _, _] (pc := 9) dL_law_9 rfl (by decide) rfl ?_
  refine r_iconst (v := nI 0) (pc := 10) dL_law_10 rfl ?_
  refine q_istore_n [_, _, _, _, _, _, _, _, _, _, _, _, _] (pc := 11) dL_law_11 rfl (by decide) rfl ?_
  refine r_drop ?_
  have K := lp_law (om := om) (g := g0) hl hL 40 0 rfl (0, 0) A0 W0 (fun _ => A0) (fun _ => W0) 0 0 GD_0 ⟨by omega, by omega, fun i hi => absurd hi (Nat.not_lt_zero i)⟩
  rw [← world_0] at K
  exact K
