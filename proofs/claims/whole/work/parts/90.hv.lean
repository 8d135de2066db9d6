/-! the context at the law's entry, but for what is constant -/
theorem ctx_of {om : OM} {p : Program} {s : State} {m : MethodId} {meth : Method} {c : Code} {l : Launch} {b L : Nat} {xs : Nat → Int32} (hst : l.stackTraces = false) (A : lw_At p s m meth c b L xs) (hK : va_K (om_D om) vwCl (om_ty om) s) (hS : Stat om s s.heap) (hz : om_z om = s.heap.size) (hW : KW s) : CtxOK om l M_L_law p room_1 s m #[Value.ref b] meth c := by
  obtain ⟨a1, a2, a3, a4, a5, a6, a7, a8, a9, a10, a11, a12⟩ := A
  exact ⟨a1, a2, a4, a5, fun w hw => a6 w (List.mem_filter.mp hw).1, a9, a3, a11, a12, by decide, by decide, hK, hS, Nat.le_of_eq hz, hst, hW⟩
