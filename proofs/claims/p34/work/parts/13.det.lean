/-! rows for what is determined: stores that show the new locals, places as numbers, calls with one answer -/
abbrev Det (r : Option Value) (h2 : Hp) : Out → Hp → Prop := fun o h1 => o = .inl r ∧ h1 = h2
theorem nadd {a b : Int32} {x y : Nat} (ha : a = nI x) (hb : b = nI y) : a + b = nI (x + y) := by rw [ha, hb, nI_add]
theorem nmul {a b : Int32} {x y : Nat} (ha : a = nI x) (hb : b = nI y) : a * b = nI (x * y) := by rw [ha, hb, pk_mul]
theorem nsub {a b : Int32} {x y : Nat} (ha : a = nI x) (hb : b = nI y) (h : y ≤ x) : a - b = nI (x - y) := by rw [ha, hb, pk_sub h]
theorem ndiv {a b : Int32} {x y : Nat} (ha : a = nI x) (hb : b = nI y) (h1 : x < 2 ^ 31) (h2 : 0 < y) (h3 : y < 2 ^ 31) : a / b = nI (x / y) := by rw [ha, hb, pk_div h1 h2 h3]
theorem vin_n {i : Int32} {k n : Nat} (hk : i = nI k) (hl : k < n) (hn : n < 2 ^ 31) : vp_in i n := by rw [hk]; exact vp_in_nI hl hn
theorem cl_n {i : Int32} {k n : Nat} (hk : i = nI k) (hl : k < n) (hn : n < 2 ^ 31) : i.toNatClampNeg = k := by rw [hk]; exact nI_clamp (by omega)
section DR
variable {om : OM} {l : Launch} {M : MI} {B : Nat × Nat} {pc : Nat} {L : List (Option Value)} {S : List Value} {h : Hp} {Post : Out → Hp → Prop}
theorem q_istore_n {k0 : Fin 4} {i : Nat} {x : Int32} (L' : List (Option Value)) (d : decode (mi_by M) pc = .ok (.istore_n k0, 1)) (hi : (k0 : Nat) = i) (hn : i < mi_ml M) (hL : st1 L i (.int x) = L') (k : Runs om l M B (pc + 1) L' S h Post) : Runs om l M B pc L ((.int x) :: S) h Post := r_istore_n d hi hn (hL ▸ k)
theorem q_istore {i : Nat} {x : Int32} (L' : List (Option Value)) (d : decode (mi_by M) pc = .ok (.istore i, 2)) (hn : i < mi_ml M) (hL : st1 L i (.int x) = L') (k : Runs om l M B (pc + 2) L' S h Post) : Runs om l M B pc L ((.int x) :: S) h Post := r_istore d hn (hL ▸ k)
theorem q_lstore_n {k0 : Fin 4} {i : Nat} {x : Int64} (L' : List (Option Value)) (d : decode (mi_by M) pc = .ok (.lstore_n k0, 1)) (hi : (k0 : Nat) = i) (hn : i + 1 < mi_ml M) (hL : st2 L i (.long x) = L') (k : Runs om l M B (pc + 1) L' S h Post) : Runs om l M B pc L ((.long x) :: S) h Post := r_lstore_n d hi hn (hL ▸ k)
theorem q_astore_n {k0 : Fin 4} {i x : Nat} (L' : List (Option Value)) (d : decode (mi_by M) pc = .ok (.astore_n k0, 1)) (hi : (k0 : Nat) = i) (hn : i < mi_ml M) (hL : st1 L i (.ref x) = L') (k : Runs om l M B (pc + 1) L' S h Post) : Runs om l M B pc L ((.ref x) :: S) h Post := r_astore_n d hi hn (hL ▸ k)
theorem q_iinc {i : Nat} {n : Int} {x : Int32} (y : Int32) (L' : List (Option Value)) (d : decode (mi_by M) pc = .ok (.iinc i n, 3)) (hl : L[i]? = some (some (.int x))) (hn : i < mi_ml M) (hy : x + Int32.ofInt n = y) (hL : st1 L i (.int y) = L') (k : Runs om l M B (pc + 3) L' S h Post) : Runs om l M B pc L S h Post := r_iinc d hl hn (by rw [hy]; exact hL ▸ k)
theorem ninc {x : Int32} {j : Nat} (c : Nat) (hx : x = nI j) : x + Int32.ofInt (c : Int) = nI (j + c) := by
  rw [hx]
  have h1 : Int32.ofInt (c : Int) = nI c := rfl
  rw [h1, nI_add]
theorem q_callV {own : String} {idx n : Nat} {z : MI} {vs fs : List Value} {b ci : Nat} {T : u_T} {N : Nat} {r : Option Value} {h2 : Hp} (d : decode (mi_by M) pc = .ok (.invokevirtual idx, 3)) (ho : (mi_nm M).cls = own) (hz : CLV own idx z n) (hh : mi_hh z = []) (hfit : fitsIn z M) (hlen : vs.length = n) (hal : (argL (.ref b :: vs)).length ≤ mi_ml z) (hl : l.stackTraces = false)
    (hb : h.1 b = .inr (ci, fs)) (hcl : vwCl[ci]? = some ((mi_nm z).cls, T, N)) (hst : (S.map fun v => v.category).sum ≤ 8)
    (kz : Runs om l z (0, 0) 0 (entL (mi_ml z) (.ref b :: vs)) [] h (Det r h2)) (h22 : h2.2 = h.2)
    (k : Runs om l M B (pc + 3) L (r.toList ++ S) h2 Post) : Runs om l M B pc L (vs.reverse ++ .ref b :: S) h Post :=
  r_callV 0 0 d ho hz hh hfit hlen hal hl hb hcl (Nat.zero_le _) (Nat.zero_le _) hst kz (fun E h1 z => by cases z.1) (fun o h1 z hc => by
    obtain ⟨-, rfl⟩ := z
    rw [h22] at hc ⊢
    exact ⟨hc, rfl⟩) (fun o h1 z => by
    obtain ⟨z1, rfl⟩ := z
    cases z1
    exact k)
theorem q_callS {own : String} {idx n : Nat} {z : MI} {vs : List Value} {r : Option Value} {h2 : Hp} (d : decode (mi_by M) pc = .ok (.invokestatic idx, 3)) (ho : (mi_nm M).cls = own) (hz : CLS own idx z n) (hh : mi_hh z = []) (hfit : fitsIn z M) (hlen : vs.length = n) (hal : (argL vs).length ≤ mi_ml z) (hl : l.stackTraces = false) (hst : (S.map fun v => v.category).sum ≤ 8)
    (kz : Runs om l z (0, 0) 0 (entL (mi_ml z) vs) [] h (Det r h2)) (h22 : h2.2 = h.2)
    (k : Runs om l M B (pc + 3) L (r.toList ++ S) h2 Post) : Runs om l M B pc L (vs.reverse ++ S) h Post :=
  r_callS 0 0 d ho hz hh hfit hlen hal hl (Nat.zero_le _) (Nat.zero_le _) hst kz (fun E h1 z => by cases z.1) (fun o h1 z hc => by
    obtain ⟨-, rfl⟩ := z
    rw [h22] at hc ⊢
    exact ⟨hc, rfl⟩) (fun o h1 z => by
    obtain ⟨z1, rfl⟩ := z
    cases z1
    exact k)
theorem q_callSN {own host : String} {idx n : Nat} {z : MI} {vs : List Value} {r : Option Value} {h2 : Hp} (d : decode (mi_by M) pc = .ok (.invokestatic idx, 3)) (ho : (mi_nm M).cls = own) (hz : CNS own idx host z n) (hh : mi_hh z = []) (hfit : fitsIn z M) (hlen : vs.length = n) (hal : (argL vs).length ≤ mi_ml z) (hl : l.stackTraces = false) (hst : (S.map fun v => v.category).sum ≤ 8)
    (kz : Runs om l z (0, 0) 0 (entL (mi_ml z) vs) [] h (Det r h2)) (h22 : h2.2 = h.2)
    (k : Runs om l M B (pc + 3) L (r.toList ++ S) h2 Post) : Runs om l M B pc L (vs.reverse ++ S) h Post :=
  r_callSN 0 0 d ho hz hh hfit hlen hal hl (Nat.zero_le _) (Nat.zero_le _) hst kz (fun E h1 z => by cases z.1) (fun o h1 z hc => by
    obtain ⟨-, rfl⟩ := z
    rw [h22] at hc ⊢
    exact ⟨hc, rfl⟩) (fun o h1 z => by
    obtain ⟨z1, rfl⟩ := z
    cases z1
    exact k)
end DR
