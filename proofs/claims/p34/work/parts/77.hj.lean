/-! the law's calls of the class, with what they catch -/
def LA (w : Nat → Int64) : va_E := .inl (2, 1, .inr (.inl w))
section WL
variable {g : Hp} {k : GS} {r : RS} {e : va_E}
end WL
