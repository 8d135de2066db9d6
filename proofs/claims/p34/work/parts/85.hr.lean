/-! the model's constructor -/
def Zi : Nat → Int32 := fun _ => 0
def Zl : Nat → Int64 := fun _ => 0
section GM
variable {e e0 e1 : va_E} {es : List va_E}
theorem gm_n : G118.2.1 = 119 := by decide
end GM
