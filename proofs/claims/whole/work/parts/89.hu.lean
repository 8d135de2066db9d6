/-! from the machine's start to the abstract machine -/
theorem start_of {om : OM} {p : Program} {e : Env} {s : State} {m : MethodId} {below : List Frame} {meth : Method} {c : Code} {l : Launch} {b : Nat} (hst : l.stackTraces = false) (hN : NNq) (hL : om_L om ≤ 3072) (C : CtxOK om l M_L_law p room_1 s m #[Value.ref b] meth c) (hz : om_z om = s.heap.size) (hb : om_st om 0 = b) (hD : va_P (om_D om) vwCl [] s.heap) (hr : meth.sig.returnType = ret) (hc9 : c.code = code) : W p l e room_1 s m #[Value.ref b] below meth c s.heap [] 0 0 (lw_Z below #[Value.ref b] s) (entryFrame m ([Value.ref b] : List Value).toArray 9) := by
  have hlv := lv_entry [Value.ref b] (n := 9) (Nat.le_of_ble_eq_true rfl)
  rw [lg_entry_eq]
  generalize (lg_sl [Value.ref b] ++ List.replicate (9 - (lg_sl [Value.ref b]).length) Slot.unset).toArray = ls at hlv ⊢
  refine law_all hst hN hL p e room_1 s m _ below meth c s.heap [] 0 0 _ ls C ⟨⟨hD, fun _ _ => rfl, Nat.zero_le _⟩, va_S.rf, fun _ => by rw [hz]; rfl⟩ ?_ (by decide) (by decide) ?_ (Or.inr (fun E h1 z => by cases z))
  · show lv_has ls 9 (ent om 0 (argL [.ref 100000] ++ List.replicate 8 none))
    rw [ent_arg]
    show lv_has ls 9 (lv_args 0 [.ref (om_st om 0)])
    rw [hb]
    exact hlv
  · intro o h1 H1 locs1 cells1 slots1 pc1 ls1 hp hS hS1 hc hs hR
    cases hp
    refine va_forget (fun q hq => ?_) ?_
    · have h2 : om_z om ≤ q.base := hS1.2.2 q hq
      rw [hz] at h2
      exact h2
    refine W.widen (k := 601024) (n := 7293034) hc hs ?_
    exact lw_ret (d0 := s.drawn) (Drawn.sameBut.refl s.drawn lw_cs) C.1 hc9 hr C.2.2.2.2.2.1 hR.1
