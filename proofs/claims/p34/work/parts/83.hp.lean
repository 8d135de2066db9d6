/-! the gauge made -/
theorem hA_lo {h : Hp} {es : List va_E} {j : Nat} (hj : j < h.2.1) : (hA h es).1 j = h.1 j := if_neg (by omega)
def svE (f : Nat → Option Nat) : va_E := .inl (3, 4, .inr (.inr (.inr (.inr f))))
theorem x10_round {om : OM} {l : Launch} {B : Nat × Nat} {h : Hp} {k : Nat} {f : Nat → Option Nat} {L : List va_E} {Post : Out → Hp → Prop} (hl : l.stackTraces = false) (hb : h.2.1 = 39) (hc : h.2.2 = true) (hg : h.1 0 = .inr (8, gf 0 0)) (hk : k < 4) (hL : L.length ≤ 79) (hB : 19 ≤ B.1 ∧ 173 ≤ B.2)
    (K : Runs om l M_X10_init (B.1 - 1 - 18, B.2 - 7 - 166) 57 [some (.ref 0), some (.int (nI (k + 1)))] [] (hA h (svE (va_up f k (some (h.2.1 + (L.length + 1)))) :: (L ++ stL (h.2.1 + (L.length + 1))))) Post) : Runs om l M_X10_init B 57 [some (.ref 0), some (.int (nI k))] [] (hA h (svE f :: L)) Post := by
  have g0 : ∀ es, (hA h es).1 0 = .inr (8, gf 0 0) := fun es => (hA_lo (by omega)).trans hg
  have s39 : ∀ e es, (hA h (e :: es)).1 39 = e := fun e es => by
    have := hA_0 (h := h) (e0 := e) (es := es)
    rw [hb] at this
    exact this
  have hs39 : ∀ e e0 es, hs (hA h (e0 :: es)) 39 e = hA h (e :: es) := fun e e0 es => by
    have := hA_hs0 (h := h) (e := e) (e0 := e0) (es := es)
    rw [hb] at this
    exact this
  refine r_iload_n (pc := 57) dX10_init_57 rfl rfl ?_
  refine r_aload_n (pc := 58) dX10_init_58 rfl rfl ?_
  refine r_getfield (pc := 59) dX10_init_59 rfl f_RX10_19 (g0 _) rfl ?_
  refine r_alen (v := nI 4) (pc := 62) dX10_init_62 (s39 _ _) (by decide) rfl ?_
  refine r_icmp_ge 85 (pc := 63) dX10_init_63 (by decide) (fun c => absurd ((nI_le_iff (a := 4) (by omega) (by omega)).mp c) (by omega)) (fun _ => ?_)
  refine r_aload_n (pc := 66) dX10_init_66 rfl rfl ?_
  refine r_getfield (pc := 67) dX10_init_67 rfl f_RX10_19 (g0 _) rfl ?_
  refine r_iload_n (pc := 70) dX10_init_70 rfl rfl ?_
  refine r_new (fs := [.null, .null, .null, .null, .null, .null, .null]) (pc := 71) dX10_init_71 rfl clf_6 c_RX10_9 n_RX7 i_RX7 df_X7 (fun _ => rfl) hc (show h.2.1 + (L.length + 1) < 100000 by omega) ⟨by omega, by omega⟩ ?_
  rw [hA_one]
  refine r_dup (pc := 74) dX10_init_74 rfl ?_
  have hv := hA_0 (h := hA h (svE f :: L)) (e0 := .inr (6, stf (h.2.1 + (L.length + 1)))) (es := (stL (h.2.1 + (L.length + 1))).tail)
  refine r_callIN (vs := []) 18 166 (pc := 75) dX10_init_75 rfl l_RX10_11 rfl rfl ⟨by decide, by decide⟩ rfl (Nat.le_of_ble_eq_true rfl) hl (show 18 ≤ B.1 - 1 by omega) (show 166 ≤ B.2 - 7 by omega) (Nat.le_of_ble_eq_true rfl) (c_X7_init hl hc (show h.2.1 + (L.length + 1) < 800 by omega)) (fun E h1 z => by cases z.1) (fun o h1 z hq => by obtain ⟨-, rfl⟩ := z; exact ⟨hc, rfl⟩) (fun o h1 z => ?_)
  obtain ⟨z1, rfl⟩ := z
  cases z1
  refine r_aastore (n := 4) (f := f) (pc := 78) dX10_init_78 ?_ hv (vin_n (k := k) rfl hk (by decide)) ?_
  · rw [hA_app]
    exact s39 _ _
  rw [cl_n (k := k) (n := 4) rfl hk (by decide), hA_app]
  simp only [List.cons_append]
  rw [hs39]
  refine q_iinc (nI (k + 1)) [_, _] (pc := 79) dX10_init_79 rfl (by decide) (ninc 1 rfl) rfl ?_
  refine r_goto 57 (pc := 82) dX10_init_82 (by decide) ?_
  exact K
