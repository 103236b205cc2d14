noncomputable section
def yB (i : Int × Int) : eBx := .inl [[i]]
/-! shorter words: runs by a rule -/
def yFm (f : Nat → eFa) : Nat → Nat → List eFa
  | _, 0 => []
  | i, n + 1 => f i :: yFm f (i + 1) n
end
