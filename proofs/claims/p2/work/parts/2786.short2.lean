noncomputable section
/-! shorter words: runs by a rule -/
def yFm (f : Nat → eFa) : Nat → Nat → List eFa
  | _, 0 => []
  | i, n + 1 => f i :: yFm f (i + 1) n
def ySm (f : Nat → eSg) : Nat → Nat → eSg
  | _, 0 => []
  | i, n + 1 => f i ++ ySm f (i + 1) n
def yEm (b : eEv) : Nat → eEv
  | 0 => []
  | n + 1 => b ++ yEm b n
end
