noncomputable section
/-! a contract out of two, by where one of its numbers lies -/
def setI (K : eK) (v : Nat) (i : Int × Int) : eK := (K.1, (eset K.2.1.1 v i, K.2.1.2), K.2.2)
/-- a bound that its digit says wholly -/
def edB (i : Int × Int) : Bool := ile mnL i.1 && ile i.1 mxL && (ile mnL i.2 && ile i.2 mxL)
theorem eOk_re {env : eEv} {ρ : List Int} {v : Nat} {i j : Int × Int} (h : eOk (eset env v i) ρ) (hi : edB i = true) (hj : edB j = true) (hx : ∀ x, ρ[v]? = some x → ivr i x → ivr j x) : eOk (eset env v j) ρ := by
  refine ⟨h.1, fun k x hk => ?_⟩
  have g := h.2 k x hk
  by_cases hv : k = v
  · subst hv
    obtain ⟨a1, a2⟩ := eset_dg (E := env) (k := k) (i := i)
    obtain ⟨b1, b2⟩ := eset_dg (E := env) (k := k) (i := j)
    unfold edB at hi hj
    simp only [Bool.and_eq_true] at hi hj
    have q1 := elo_eq (ile_t hi.1.1) (ile_t hi.1.2)
    have q2 := ehi_eq (ile_t hi.2.1) (ile_t hi.2.2)
    have q3 := elo_eq (ile_t hj.1.1) (ile_t hj.1.2)
    have q4 := ehi_eq (ile_t hj.2.1) (ile_t hj.2.2)
    have m1 : (-9223372036854775808 : Int) ≤ i.1 := ile_t hi.1.1
    have m2 : i.2 ≤ (9223372036854775807 : Int) := ile_t hi.2.2
    have m3 : (-9223372036854775808 : Int) ≤ j.1 := ile_t hj.1.1
    have m4 : j.2 ≤ (9223372036854775807 : Int) := ile_t hj.2.2
    have g1 := g.1
    have g2 := g.2
    rw [a1] at g1
    rw [a2] at g2
    obtain ⟨z1, z2⟩ := hx x hk ⟨by omega, by omega⟩
    refine ⟨?_, ?_⟩
    · rw [b1]
      omega
    · rw [b2]
      omega
  · exact (eset_ne hv x).mpr ((eset_ne hv x).mp g)
def KME (l : Launch) (D : va_G) (ca : Nat → ClassId) (K : eK) (E : eEv) : Prop := KMet l D ca (K.1, (E, K.2.1.2), K.2.2)
theorem KME_un {l : Launch} {D : va_G} {ca : Nat → ClassId} {K : eK} {E1 E2 E : eEv} (h : ∀ ρ, eOk E ρ → eOk E1 ρ ∨ eOk E2 ρ) (h1 : KME l D ca K E1) (h2 : KME l D ca K E2) : KME l D ca K E := by
  intro q hq ρ α ws sz av hE hα hav hh hD hcx
  rcases h ρ hE with g | g
  · exact h1 q hq ρ α ws sz av g hα hav hh hD hcx
  · exact h2 q hq ρ α ws sz av g hα hav hh hD hcx
theorem K_un {l : Launch} {D : va_G} {ca : Nat → ClassId} {K : eK} (v : Nat) {lo mid hi : Int} (hb : (edB (lo, mid) && (edB (mid + 1, hi) && edB (lo, hi))) = true) (h1 : KMet l D ca (setI K v (lo, mid))) (h2 : KMet l D ca (setI K v (mid + 1, hi))) : KMet l D ca (setI K v (lo, hi)) := by
  rw [Bool.and_eq_true, Bool.and_eq_true] at hb
  obtain ⟨hb1, hb2, hb3⟩ := hb
  refine KME_un (E1 := eset K.2.1.1 v (lo, mid)) (E2 := eset K.2.1.1 v (mid + 1, hi)) (E := eset K.2.1.1 v (lo, hi)) (fun ρ hE => ?_) h1 h2
  by_cases hc : ∃ x, ρ[v]? = some x ∧ mid < x
  · obtain ⟨x, x1, x2⟩ := hc
    exact Or.inr (eOk_re (i := (lo, hi)) hE hb3 hb2 (fun y y1 y2 => by
      rw [x1] at y1
      cases y1
      exact ⟨by show mid + 1 ≤ x; omega, y2.2⟩))
  · exact Or.inl (eOk_re (i := (lo, hi)) hE hb3 hb1 (fun y y1 y2 => ⟨y2.1, by
      show y ≤ mid
      have : ¬ mid < y := fun z => hc ⟨y, y1, z⟩
      omega⟩))
/-- more room beneath -/
theorem Met_room {l : Launch} {y : MethodName} {ws : List Cond} {rm rm' : Room} {Pc : Array Value → State → Prop} {Qc : Array Value → State → Outcome → State → Prop} {mc ms : Nat} {free : Addr → Prop} (h1 : rm.frames ≤ rm'.frames) (h2 : rm.cells ≤ rm'.cells) (h3 : rm.slots ≤ rm'.slots) (h4 : rm.locals ≤ rm'.locals) (hM : Met l y ws rm Pc Qc mc ms free) : Met l y ws rm' Pc Qc mc ms free := by
  intro p e hadm hc hk s m args below hf ha hP hK
  refine hM p e hadm hc hk s m args below hf ?_ hP hK
  rw [Spec.appliesLoose_iff hf] at ha ⊢
  obtain ⟨a1, a2, a3, a4, a5, a6, a7, a8⟩ := ha
  refine ⟨a1, a2, a3, a4, a5, a6, ?_, a8⟩
  have a7' : s.hasRoom e.platform rm' = true := a7
  show s.hasRoom e.platform rm = true
  unfold State.hasRoom at a7' ⊢
  simp only [Bool.and_eq_true, decide_eq_true_eq] at a7' ⊢
  obtain ⟨⟨⟨⟨b1, b2, b3, b4, b5, b6⟩, b7⟩, b8⟩, b9⟩ := a7'
  exact ⟨⟨⟨⟨by omega, by omega, by omega, by omega, by omega, b6⟩, by omega⟩, by omega⟩, b9⟩
def setD (K : eK) (d : Nat) : eK := (K.1, K.2.1, K.2.2.1, K.2.2.2.1, K.2.2.2.2.1, d)
theorem K_dp {l : Launch} {D : va_G} {ca : Nat → ClassId} {K : eK} {d d' : Nat} (h : d ≤ d') (hK : KMet l D ca (setD K d)) : KMet l D ca (setD K d') := by
  intro q hq ρ α ws sz av hE hα hav hh hD hcx
  exact Met_room (rm := rmK (setD K d)) h (Nat.le_refl _) (Nat.le_refl _) (Nat.mul_le_mul_left 60 h) (hK q hq ρ α ws sz av hE hα hav hh hD hcx)
end
