noncomputable section
/-! a contract out of two, by where one of its numbers lies -/
def setI (K : eK) (v : Nat) (i : Int × Int) : eK := (K.1, (K.2.1.1.set v i, K.2.1.2), K.2.2)
theorem eOk_re {env : eEv} {ρ : List Int} {v : Nat} {i j : Int × Int} (h : eOk (env.set v i) ρ) (hx : ∀ x, ρ[v]? = some x → ivr i x → ivr j x) : eOk (env.set v j) ρ := by
  by_cases hv : v < env.length
  · have e1 : (env.set v i)[v]? = some i := by rw [List.getElem?_set_self hv]
    obtain ⟨x, g1, g2⟩ := R2.get h e1
    have g3 := R2.set (a := j) (b := x) (hx x g1 g2) h v
    have e2 : (env.set v i).set v j = env.set v j := List.set_set ..
    have e3 : ρ.set v x = ρ := by
      obtain ⟨k1, k2⟩ := List.getElem?_eq_some_iff.mp g1
      rw [← k2]
      exact List.set_getElem_self k1
    rw [e2, e3] at g3
    exact g3
  · have e1 : env.set v i = env := List.set_eq_of_length_le (by omega)
    have e2 : env.set v j = env := List.set_eq_of_length_le (by omega)
    rw [e2]
    rw [e1] at h
    exact h
theorem K_un {l : Launch} {D : va_G} {ca : Nat → ClassId} {K : eK} (v : Nat) {lo mid hi : Int} (h1 : KMet l D ca (setI K v (lo, mid))) (h2 : KMet l D ca (setI K v (mid + 1, hi))) : KMet l D ca (setI K v (lo, hi)) := by
  intro q hq ρ α ws sz av hE hα hav hh hD hcx
  by_cases hc : ∃ x, ρ[v]? = some x ∧ mid < x
  · obtain ⟨x, x1, x2⟩ := hc
    exact h2 q hq ρ α ws sz av (eOk_re (i := (lo, hi)) hE (fun y y1 y2 => by
      rw [x1] at y1
      cases y1
      exact ⟨by show mid + 1 ≤ x; omega, y2.2⟩)) hα hav hh hD hcx
  · exact h1 q hq ρ α ws sz av (eOk_re (i := (lo, hi)) hE (fun y y1 y2 => ⟨y2.1, by
      show y ≤ mid
      have : ¬ mid < y := fun z => hc ⟨y, y1, z⟩
      omega⟩)) hα hav hh hD hcx
/-- more room beneath -/
theorem Met_room {l : Launch} {y : MethodName} {ws : List Cond} {rm rm' : Room} {Pc : Array Value → State → Prop} {Qc : Array Value → State → Outcome → State → Prop} {mc ms : Nat} {free : Addr → Prop} (h1 : rm.frames ≤ rm'.frames) (h2 : rm.cells ≤ rm'.cells) (h3 : rm.slots ≤ rm'.slots) (h4 : rm.locals ≤ rm'.locals) (hM : Met l y ws rm Pc Qc mc ms free) : Met l y ws rm' Pc Qc mc ms free := by
  intro p e hadm hc hk s m args below hf ha hP hK
  refine hM p e hadm hc hk s m args below hf ?_ hP hK
  rw [Spec.appliesLoose_iff hf] at ha ⊢
  obtain ⟨a1, a2, a3, a4, a5, a6, a7, a8⟩ := ha
  refine ⟨a1, a2, a3, a4, a5, a6, ?_, a8⟩
  have a7' : s.hasRoom e.platform rm' = true := a7
  show s.hasRoom e.platform rm = true
  unfold State.hasRoom at a7' ⊢
  simp only [Bool.and_eq_true, decide_eq_true_eq] at a7' ⊢
  obtain ⟨⟨⟨⟨b1, b2, b3, b4, b5, b6⟩, b7⟩, b8⟩, b9⟩ := a7'
  exact ⟨⟨⟨⟨by omega, by omega, by omega, by omega, by omega, b6⟩, by omega⟩, by omega⟩, b9⟩
def setD (K : eK) (d : Nat) : eK := (K.1, K.2.1, K.2.2.1, K.2.2.2.1, K.2.2.2.2.1, d)
theorem K_dp {l : Launch} {D : va_G} {ca : Nat → ClassId} {K : eK} {d d' : Nat} (h : d ≤ d') (hK : KMet l D ca (setD K d)) : KMet l D ca (setD K d') := by
  intro q hq ρ α ws sz av hE hα hav hh hD hcx
  exact Met_room (rm := rmK (setD K d)) h (Nat.le_refl _) (Nat.le_refl _) (Nat.mul_le_mul_left 60 h) (hK q hq ρ α ws sz av hE hα hav hh hD hcx)
end
