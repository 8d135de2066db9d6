/-! what the Statement says of what is constant at the law's entry: its words, found in the list -/
def NF : List Cond := flatC (Jvm.Cond.and given_1 narrow_1)
theorem nfw {A : Array Value} {s : State} (h : (Jvm.Cond.and given_1 narrow_1).before A s = true) {w : Cond} (hw : w ∈ NF) : w.before A s = true := flat_of_before _ h w hw
def wd_n : List String := ["TANK", "LEVEL", "FLOW", "FOAM", "THING", "BLADES", "SET", "LEARN", "SHOOT"]
def wd_k : List Nat := [59, 65, 68, 71, 74, 77, 80, 83, 86]
def wdT (i : Nat) : Term := .static "EchoGauge$Word" (wd_n.getD i "") "LEchoGauge$Word;"
def wdS (i : Nat) : Term := .string "EchoGauge$Word" (wd_k.getD i 0)
def wdV (i : Nat) : Term := .field (wdS i) "java/lang/String" "value" "[B"
theorem N_ex : ∀ i, i < 9 → Cond.exactly (wdT i) "EchoGauge$Word" ∈ NF := by decide +kernel
theorem N_or : ∀ i, i < 9 → Cond.eq (.field (wdT i) "java/lang/Enum" "ordinal" "I") (.int (nI i)) ∈ NF := by decide +kernel
theorem N_tx : ∀ i, i < 9 → Cond.eq (.field (wdT i) "EchoGauge$Word" "text" "Ljava/lang/String;") (wdS i) ∈ NF := by decide +kernel
theorem N_nu : ∀ i, i < 9 → Cond.eq (.field (wdT i) "EchoGauge$Word" "numbers" "I") (.int (c_num.getD i 0)) ∈ NF := by decide +kernel
theorem N_sx : ∀ i, i < 9 → Cond.exactly (wdS i) "java/lang/String" ∈ NF := by decide +kernel
theorem N_sc : ∀ i, i < 9 → Cond.eq (.field (wdS i) "java/lang/String" "coder" "B") (.int 0) ∈ NF := by decide +kernel
theorem N_sa : ∀ i, i < 9 → Cond.arrayOf (wdV i) .byte ∈ NF := by decide +kernel
theorem N_sl : ∀ i, i < 9 → Cond.eq (.length (wdV i)) (.int (Int32.ofNat (c_txt.getD i []).length)) ∈ NF := by decide +kernel
def seF (i j : Nat) : Cond := Cond.eq (.elem (wdV i) (.int (Int32.ofNat j))) (.int ((c_txt.getD i []).getD j 0))
theorem se_run {i p n : Nat} (hn : (c_txt.getD i []).length = n) (h : (List.range n).map (seF i) = (NF.drop p).take n) : ∀ j, j < (c_txt.getD i []).length → Cond.eq (.elem (wdV i) (.int (Int32.ofNat j))) (.int ((c_txt.getD i []).getD j 0)) ∈ NF := fun j hj => va_run (f := seF i) (N := n) (p := p) h j (hn ▸ hj)
theorem N_se0 : ∀ j, j < (c_txt.getD 0 []).length → Cond.eq (.elem (wdV 0) (.int (Int32.ofNat j))) (.int ((c_txt.getD 0 []).getD j 0)) ∈ NF := se_run (i := 0) (p := 749) (n := 4) rfl (by decide +kernel)
theorem N_se1 : ∀ j, j < (c_txt.getD 1 []).length → Cond.eq (.elem (wdV 1) (.int (Int32.ofNat j))) (.int ((c_txt.getD 1 []).getD j 0)) ∈ NF := se_run (i := 1) (p := 757) (n := 5) rfl (by decide +kernel)
theorem N_se2 : ∀ j, j < (c_txt.getD 2 []).length → Cond.eq (.elem (wdV 2) (.int (Int32.ofNat j))) (.int ((c_txt.getD 2 []).getD j 0)) ∈ NF := se_run (i := 2) (p := 766) (n := 4) rfl (by decide +kernel)
theorem N_se3 : ∀ j, j < (c_txt.getD 3 []).length → Cond.eq (.elem (wdV 3) (.int (Int32.ofNat j))) (.int ((c_txt.getD 3 []).getD j 0)) ∈ NF := se_run (i := 3) (p := 774) (n := 4) rfl (by decide +kernel)
theorem N_se4 : ∀ j, j < (c_txt.getD 4 []).length → Cond.eq (.elem (wdV 4) (.int (Int32.ofNat j))) (.int ((c_txt.getD 4 []).getD j 0)) ∈ NF := se_run (i := 4) (p := 782) (n := 5) rfl (by decide +kernel)
theorem N_se5 : ∀ j, j < (c_txt.getD 5 []).length → Cond.eq (.elem (wdV 5) (.int (Int32.ofNat j))) (.int ((c_txt.getD 5 []).getD j 0)) ∈ NF := se_run (i := 5) (p := 791) (n := 6) rfl (by decide +kernel)
theorem N_se6 : ∀ j, j < (c_txt.getD 6 []).length → Cond.eq (.elem (wdV 6) (.int (Int32.ofNat j))) (.int ((c_txt.getD 6 []).getD j 0)) ∈ NF := se_run (i := 6) (p := 801) (n := 3) rfl (by decide +kernel)
theorem N_se7 : ∀ j, j < (c_txt.getD 7 []).length → Cond.eq (.elem (wdV 7) (.int (Int32.ofNat j))) (.int ((c_txt.getD 7 []).getD j 0)) ∈ NF := se_run (i := 7) (p := 808) (n := 5) rfl (by decide +kernel)
theorem N_se8 : ∀ j, j < (c_txt.getD 8 []).length → Cond.eq (.elem (wdV 8) (.int (Int32.ofNat j))) (.int ((c_txt.getD 8 []).getD j 0)) ∈ NF := se_run (i := 8) (p := 817) (n := 5) rfl (by decide +kernel)
theorem N_se : ∀ i, i < 9 → ∀ j, j < (c_txt.getD i []).length → Cond.eq (.elem (wdV i) (.int (Int32.ofNat j))) (.int ((c_txt.getD i []).getD j 0)) ∈ NF
  | 0, _ => N_se0
  | 1, _ => N_se1
  | 2, _ => N_se2
  | 3, _ => N_se3
  | 4, _ => N_se4
  | 5, _ => N_se5
  | 6, _ => N_se6
  | 7, _ => N_se7
  | 8, _ => N_se8
  | _ + 9, h => absurd h (by omega)
theorem N_tl : ∀ i, i < 9 → (c_txt.getD i []).length < 2147483648 := by decide +kernel
def tA (C n : String) (N : Nat) (f : Nat → Int32) : Prop := Cond.arrayOf (.static C n "[I") .int ∈ NF ∧ Cond.eq (.length (.static C n "[I")) (.int (Int32.ofNat N)) ∈ NF ∧ ∀ j, j < N → Cond.eq (.elem (.static C n "[I") (.int (Int32.ofNat j))) (.int (f j)) ∈ NF
theorem tA_first : tA "EchoGauge$Settings" "FIRST" 12 (fun j => c_first.getD j 0) := ⟨by decide +kernel, by decide +kernel, by decide +kernel⟩
theorem tA_least : tA "EchoGauge$Settings" "LEAST" 12 (fun j => c_least.getD j 0) := ⟨by decide +kernel, by decide +kernel, by decide +kernel⟩
theorem tA_most : tA "EchoGauge$Settings" "MOST" 12 (fun j => c_most.getD j 0) := ⟨by decide +kernel, by decide +kernel, by decide +kernel⟩
theorem tA_map : tA "EchoGauge$1" "$SwitchMap$EchoGauge$Word" 9 (fun j => nI (j + 1)) := ⟨by decide +kernel, by decide +kernel, by decide +kernel⟩
def wdA : Term := .static "EchoGauge$CommandText" "WORDS" "[LEchoGauge$Word;"
theorem N_wa : Cond.arrayOf wdA (.object "EchoGauge$Word") ∈ NF := by decide +kernel
theorem N_wl : Cond.eq (.length wdA) (.int (Int32.ofNat 9)) ∈ NF := by decide +kernel
theorem N_we : ∀ j, j < 9 → Cond.eq (.elem wdA (.int (Int32.ofNat j))) (wdT j) ∈ NF := by decide +kernel
theorem N_cs : Cond.eq (.static "java/lang/String" "COMPACT_STRINGS" "Z") (.int 1) ∈ NF := by decide +kernel
theorem N_fm : Cond.isRef (.static "jdk/internal/util/Preconditions" "SIOOBE_FORMATTER" "Ljava/util/function/BiFunction;") ∈ NF := by decide +kernel
theorem N_us : Cond.isRef (.static Bundle.tN "UNASSIGNED_STACK" Bundle.steD) ∈ NF := by decide +kernel
theorem N_ss : Cond.isRef (.static Bundle.tN "SUPPRESSED_SENTINEL" Bundle.listD) ∈ NF := by decide +kernel
theorem N_str : ∀ q ∈ str_l, Cond.exactly (.string q.1 q.2.1) "java/lang/String" ∈ NF := by decide +kernel
theorem N_nc : ∀ q ∈ nc_l, Cond.not (.castable q.1 q.2) ∈ NF := by decide +kernel
/-! the same of the tables -/
theorem B_str : ∀ q ∈ str_l, Cond.stringRef q.1 q.2.1 q.2.2 ∈ lw_tbl := by decide +kernel
def laid (C n d : String) : Prop := Cond.laysStatic C n d ∈ lw_tbl ∧ Cond.initialized C ∈ lw_tbl
theorem B_first : laid "EchoGauge$Settings" "FIRST" "[I" := ⟨by decide +kernel, by decide +kernel⟩
theorem B_least : laid "EchoGauge$Settings" "LEAST" "[I" := ⟨by decide +kernel, by decide +kernel⟩
theorem B_most : laid "EchoGauge$Settings" "MOST" "[I" := ⟨by decide +kernel, by decide +kernel⟩
theorem B_map : laid "EchoGauge$1" "$SwitchMap$EchoGauge$Word" "[I" := ⟨by decide +kernel, by decide +kernel⟩
theorem B_words : laid "EchoGauge$CommandText" "WORDS" "[LEchoGauge$Word;" := ⟨by decide +kernel, by decide +kernel⟩
theorem B_cs : laid "java/lang/String" "COMPACT_STRINGS" "Z" := ⟨by decide +kernel, by decide +kernel⟩
theorem B_fm : laid "jdk/internal/util/Preconditions" "SIOOBE_FORMATTER" "Ljava/util/function/BiFunction;" := ⟨by decide +kernel, by decide +kernel⟩
theorem B_us : laid Bundle.tN "UNASSIGNED_STACK" Bundle.steD := ⟨by decide +kernel, by decide +kernel⟩
theorem B_ss : laid Bundle.tN "SUPPRESSED_SENTINEL" Bundle.listD := ⟨by decide +kernel, by decide +kernel⟩
theorem B_ai : Cond.arrayClass .int ∈ lw_tbl := by decide +kernel
theorem B_ab : Cond.arrayClass .byte ∈ lw_tbl := by decide +kernel
theorem B_al : Cond.arrayClass .long ∈ lw_tbl := by decide +kernel
theorem B_ao : Cond.arrayOver (.object "EchoGauge$State") ∈ lw_tbl := by decide +kernel
