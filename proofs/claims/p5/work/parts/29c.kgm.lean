noncomputable section
/-! a contract whose templates were checked one by one -/
theorem K_gqM {l : Launch} {D : va_G} {ca : Nat → ClassId} {K : eK} {C : eCode} {KS : List eK} {ini : Bool} {FL : List Nat} {n k : Nat} {an : List eAn} {Z : List (eCut × Nat × List eAn)} {q : MethodName × ByteArray × Nat × Option FieldType} (hq : mQ k q C) (hk : K.1 = k) (hp : preQ K ini q = true) (hKS : ∀ K' ∈ KS, KMet l D ca K')
    (hrun : (run ini q.2.2.1 K.2.2.2.2.2 (60 * K.2.2.2.2.2) K.2.2.2.1 K.2.2.2.2.1 C KS (Z.map (fun z => z.1)) FL K.2.1.1.1 K.2.1.2.2.2.1 none (rB K q.2.2.2) n an (S0 K)).isSome = true)
    (hct : ∀ z ∈ Z, ctB (stepR ini q.2.2.1 K.2.2.2.2.2 (60 * K.2.2.2.2.2) K.2.2.2.1 K.2.2.2.2.1 C KS (rB K q.2.2.2)) (Z.map (fun z => z.1)) FL K.2.1.1.1 K.2.1.2.2.2.1 z = true) : KMet l D ca K :=
  K_gqL hq hk hp hKS hrun (List.all_eq_true.mpr hct)
theorem zall_cons {f : eCut × Nat × List eAn → Bool} {z : eCut × Nat × List eAn} {Z : List (eCut × Nat × List eAn)} (h : f z = true) (g : ∀ y ∈ Z, f y = true) : ∀ y ∈ z :: Z, f y = true := fun y hy => by
  rcases List.mem_cons.mp hy with rfl | hy
  · exact h
  · exact g y hy
end
