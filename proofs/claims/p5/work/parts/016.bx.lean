noncomputable section
/-! the boxes of facts -/
noncomputable def bxL : List (List (List (List (Int × Int)))) := []
noncomputable def bxT1 (o : Option (List (List (List (Int × Int))))) (n : Nat) : List (List (Int × Int)) := match o with
  | some l => (match l[n]? with
    | some b => b
    | none => [])
  | none => []
noncomputable def bxT (n : Nat) : List (List (Int × Int)) := bxT1 bxL[n / 40]? (n % 40)
end
