noncomputable section
/-! the words of the library; a contract, ready to be checked -/
def mq (n : Nat) : MethodName × ByteArray × Nat × Option FieldType := match mtab[n]? with
  | some q => q
  | none => (⟨"", "", ""⟩, ⟨#[]⟩, 0, none)
theorem mtab_len : mtab.length = 376 := by decide +kernel
theorem mq_ok {n : Nat} (h : n < 376) : mtab[n]? = some (mq n) := by
  have h1 : n < mtab.length := by rw [mtab_len]; exact h
  have h2 : mtab[n]? = some mtab[n] := List.getElem?_eq_getElem h1
  unfold mq
  rw [h2]
theorem codB_ok' {own o : String} {cc b : ByteArray} {C : eCode} (h1 : o = own) (h2 : b = cc) (h : codB own cc C = true) : codOk o b C := by
  rw [h1, h2]
  exact codB_ok h
theorem KS_nil {l : Launch} {D : va_G} {ca : Nat → ClassId} : ∀ K' ∈ ([] : List eK), KMet l D ca K' := fun _ h => by cases h
theorem KS_cons {l : Launch} {D : va_G} {ca : Nat → ClassId} {K : eK} {KS : List eK} (h : KMet l D ca K) (h2 : ∀ K' ∈ KS, KMet l D ca K') : ∀ K' ∈ K :: KS, KMet l D ca K' := fun K' hK => by
  rcases List.mem_cons.mp hK with rfl | hK
  · exact h
  · exact h2 K' hK
theorem hlib : libW := ⟨⟨wAt_ok (k := 968) (by decide +kernel), wAt_ok (k := 969) (by decide +kernel)⟩, ⟨wAt_ok (k := 980) (by decide +kernel), wAt_ok (k := 981) (by decide +kernel)⟩, ⟨wAt_ok (k := 1160) (by decide +kernel), wAt_ok (k := 1161) (by decide +kernel)⟩, wAt_ok (k := 151) (by decide +kernel), ⟨wAt_ok (k := 900) (by decide +kernel), wAt_ok (k := 899) (by decide +kernel), wAt_ok (k := 146) (by decide +kernel)⟩, wAt_ok (k := 162) (by decide +kernel), wAt_ok (k := 163) (by decide +kernel)⟩
def preB (K : eK) (ini : Bool) (q : MethodName × ByteArray × Nat × Option FieldType) : Bool := Nat.blt K.1 376 && plainName q.1.cls && Nat.ble (K.2.1.2.1.map ecat).sum q.2.2.1 && Nat.ble 1 K.2.2.2.2.2 && (bif ini then decide (q.1.name = "<init>") else true)
theorem K_go {l : Launch} {D : va_G} {ca : Nat → ClassId} {K : eK} {C : eCode} {KS : List eK} {ini : Bool} {FL : List Nat} {n : Nat} {an : List eAn} (hp : preB K ini (mq K.1) = true) (hC : codOk (mq K.1).1.cls (mq K.1).2.1 C) (hKS : ∀ K' ∈ KS, KMet l D ca K')
    (hrun : (run ini (mq K.1).2.2.1 K.2.2.2.2.2 (60 * K.2.2.2.2.2) K.2.2.2.1 K.2.2.2.2.1 C KS [] FL 0 0 none (rB K (mq K.1).2.2.2) n an (S0 K)).isSome = true) : KMet l D ca K := by
  unfold preB at hp
  simp only [Bool.and_eq_true] at hp
  obtain ⟨⟨⟨⟨p1, p2⟩, p3⟩, p4⟩, p5⟩ := hp
  obtain ⟨an', h⟩ := Option.isSome_iff_exists.mp hrun
  exact K_of hlib (mq_ok (blt_t p1)) p2 (Nat.le_of_ble_eq_true p3) (Nat.le_of_ble_eq_true p4) hC hKS (ini := ini) (fun z => by rw [z] at p5; exact of_decide_eq_true p5) h
end
