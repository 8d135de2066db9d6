/-! the law from its entry -/
theorem r_drop {om : OM} {l : Launch} {M : MI} {B : Nat × Nat} {pc : Nat} {L : List (Option Value)} {S : List Value} {h : Hp} {Post : Out → Hp → Prop} (k : Runs om l M B pc L S (h.1, h.2.1, false) Post) : Runs om l M B pc L S h Post := by
  intro p e R s m args below meth c H locs cells slots Q ls C hS hL hc hs KR KX
  exact k p e R s m args below meth c H locs cells slots Q ls C ⟨hS.1, hS.2.1, fun z => by cases z⟩ hL hc hs KR KX
theorem law_all {om : OM} {l : Launch} (hl : l.stackTraces = false) (hN : NNq) (hL : om_L om ≤ 3072) : Runs om l M_L_law (638, 8329) 0 (entL 9 [.ref 100000]) [] hZ (fun o _ => o = .inl (some (.int 1))) := by
  show Runs om l M_L_law (638, 8329) 0 [some (.ref 100000), none, none, none, none, none, none, none, none] [] _ _
  refine r_new (fs := [.null, .null, .null, .int 0, .int 0, .null]) (pc := 0) dL_law_0 rfl clf_8 c_RL_8 n_RX10 i_RX10 df_X10 (fun _ => rfl) rfl (by decide) (by decide) ?_
  rw [hA_one]
  refine r_dup (pc := 3) dL_law_3 rfl ?_
  refine r_callI (vs := []) 118 1202 (pc := 4) dL_law_4 rfl l_RL_99 rfl rfl ⟨by decide, by decide⟩ rfl (Nat.le_of_ble_eq_true rfl) hl (by decide) (by decide) (Nat.le_of_ble_eq_true rfl) (c_X10_init hl) (fun E h1 z => by cases z.1) (fun o h1 z hq => by obtain ⟨-, rfl⟩ := z; exact ⟨rfl, gm_n⟩) (fun o h1 z => ?_)
  obtain ⟨z1, rfl⟩ := z
  cases z1
  refine q_astore_n [_, _, _, _, _, _, _, _, _] (pc := 7) dL_law_7 rfl (by decide) rfl ?_
  refine r_new (fs := [.int 0, .null, .null, .null, .int 0, .null, .int 0, .int 0, .long 0, .null, .long 0]) (pc := 8) dL_law_8 rfl clf_9 c_RL_100 n_RX11 i_RX11 df_X11 (fun _ => rfl) rfl (by rw [gm_n]; decide) (by decide) ?_
  rw [hA_one, gm_n]
  refine r_dup (pc := 11) dL_law_11 rfl ?_
  refine r_callI (vs := []) 5 4037 (pc := 12) dL_law_12 rfl l_RL_102 rfl rfl ⟨by decide, by decide⟩ rfl (Nat.le_of_ble_eq_true rfl) hl (by decide) (by decide) (Nat.le_of_ble_eq_true rfl) (c_X11_init hl) (fun E h1 z => by cases z.1) (fun o h1 z hq => by obtain ⟨-, rfl⟩ := z; exact ⟨rfl, by rw [gm_k]; rfl⟩) (fun o h1 z => ?_)
  obtain ⟨z1, rfl⟩ := z
  cases z1
  refine q_astore_n [_, _, _, _, _, _, _, _, _] (pc := 15) dL_law_15 rfl (by decide) rfl ?_
  refine r_iconst (v := 1) (pc := 16) dL_law_16 rfl ?_
  refine r_newarray (t := 2) (N := 1) (x := .inr (.inl Zl)) (pc := 17) dL_law_17 ac_long rfl (fun _ => rfl) (fun C0 z => by cases z) (fun _ => rfl) (fun _ => rfl) (by decide) (by decide) (by decide) rfl (show 125 < 100000 by decide) (by decide) ?_
  refine q_astore_n [_, _, _, _, _, _, _, _, _] (pc := 19) dL_law_19 rfl (by decide) rfl ?_
  refine r_iconst (v := nI 0) (pc := 20) dL_law_20 rfl ?_
  refine q_istore [_, _, _, _, _, _, _, _, _] (pc := 21) dL_law_21 (by decide) rfl ?_
  refine r_drop ?_
  have K := lp_law (om := om) hl hN hL 512 0 (512, 3072) g0 k0 r0 Zl (by omega) (by omega) (by decide) GA_0 rfl rfl
  rw [← world_0] at K
  exact K
