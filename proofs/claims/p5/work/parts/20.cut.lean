noncomputable section
/-! a cut: a state that a template covers -/
section
variable {p : Program} {l : Launch} {e : Env} {R : Room} {s : State} {m : MethodId} {args : Array Value} {below : List Frame} {meth : Method} {c : Code} {Q : State → Prop} {D : va_G} {ca : Nat → ClassId} {A : Nat → Prop} {nL cb sb : Nat} {r0 : List Int} {a0 : List Nat} {own : String} {cc : ByteArray} {env : eEv} {lo : List (Nat × eSV)} {st : List eSV} {hp : eHp} {na : eNa} {nc ns pc : Nat}
theorem cut_ok {CT : List eCut} {nv0 na0 : Nat} {mu : Option eLF} {a : eAn} {S : eSt} {ρ0 : List Int} {α0 : List Nat} (hp0 : ρ0 <+: r0) (hq0 : α0 <+: a0) (hr0 : ρ0.length = nv0) (ha0 : α0.length = na0) (hmu : ∀ μ, mu = some μ → ∃ y, lfv r0 μ y) (h : cutB CT nv0 na0 mu a S = true)
    (hT : ∀ T ∈ CT, ∀ (ρ : List Int) (α : List Nat) (ls : Array Slot) (lvl : List (Nat × Value)) (stk : List Value) (ws : va_W) (H : Heap) (locs : List Loc), eRep s D ca A nL ρ0 α0 T.2.1 T.2.2.1 T.2.2.2.1 T.2.2.2.2.1 T.2.2.2.2.2.1 ρ α ls lvl stk ws H locs →
      (∀ μ y, mu = some μ → lfv r0 μ y → ∃ x, lfv ρ T.2.2.2.2.2.2.2.2 x ∧ x + 1 ≤ y) → W p l e R s m args below meth c H locs (cb + T.2.2.2.2.2.2.1) (sb + T.2.2.2.2.2.2.2.1) Q (F0 m T.1 ls stk)) : GS p l e R s m args below meth c Q D ca A nL cb sb r0 a0 S := by
  intro ρ α ls lvl stk ws H locs hh
  obtain ⟨h1, h2, h3, h4, h5, h6, hP, hD, hS⟩ := hh
  unfold cutB at h
  split at h
  · rename_i T hTe
    simp only [Bool.and_eq_true] at h
    obtain ⟨⟨⟨⟨⟨⟨⟨⟨⟨⟨m0, m1⟩, m2⟩, m3⟩, mf⟩, m4⟩, m5⟩, m6⟩, m7⟩, m8⟩, m9⟩ := h
    obtain ⟨ρT, t1, t2⟩ := mtE_ok h1 h2.1.2 m1
    rw [← h2.1.1] at m2
    obtain ⟨αT, u1, u2⟩ := mtA_ok m2
    obtain ⟨ρ1, σ, e0, t3, t4⟩ := R2.appI (show R2 (lfv ρ) (nvs 0 nv0 ++ exT a.2.1) ρT from t1)
    obtain ⟨α1, β, f0, u3, u4⟩ := R2.appI u1
    obtain ⟨ρx, hρx⟩ := hp0.trans h2.2.1
    obtain ⟨αx, hαx⟩ := hq0.trans h2.2.2
    have e1 : ρ1 = ρ0 := by
      refine nvs_inv ρ0 [] ρx ρ1 ?_
      rw [List.nil_append, hρx]
      show R2 (lfv ρ) (nvs 0 ρ0.length) ρ1
      rw [hr0]
      exact t3
    have e2 : α1 = α0 := by
      refine nas_inv α0 [] αx α1 ?_
      rw [List.nil_append, hαx]
      show aOk α (nas 0 α0.length) α1
      rw [ha0]
      exact u3
    subst e1; subst e2
    split at m6
    · rename_i ks hks
      obtain ⟨wc, w1, w2⟩ := hmt_ok (ca := ca) h1 t1 u1 h6 hks
      obtain ⟨lvT, l1, l2⟩ := lomt_ok t1 u1 h4 h3 m4
      have hPc : va_P D vwCl wc H := by
        refine hP.sub (ws' := wc) ks ?_
        have : ks.filterMap (fun i => ws[i]?) = (ks.map (fun i => ws[i]?)).filterMap id := by rw [List.filterMap_map]; rfl
        rw [this, w1, List.filterMap_map]
        show wc.filterMap some = wc
        exact List.filterMap_some ..
      have hpc := Nat.eq_of_beq_eq_true m0
      have g := hT T (List.mem_of_getElem? hTe) ρT αT ls lvT stk wc H locs ⟨t2, ⟨⟨by rw [u2]; exact Nat.eq_of_beq_eq_true m3, fmt_ok h1 t1 h2.1.2 mf⟩, by rw [e0]; exact List.prefix_append _ _, by rw [f0]; exact List.prefix_append _ _⟩, l2, l1, vsmt_ok t1 u1 m5 h5, w2, hPc, hD.sub ks (ndq_ok m6) w1, hS⟩ ?_
      · rw [hpc] at g
        have b7 := Nat.le_of_ble_eq_true m7
        have b8 := Nat.le_of_ble_eq_true m8
        exact W.widen (by omega) (by omega) g
      · intro μ y hμ hy
        subst hμ
        dsimp only at m9
        split at m9
        · rename_i g1 hg1
          obtain ⟨x, x1, x2⟩ := sbf_ok t1 hg1
          refine ⟨x, x1, ?_⟩
          split at m9
          · rename_i j hj
            obtain ⟨ρy, hρy⟩ := h2.2.1
            have hy2 : lfv ρ μ y := by rw [← hρy]; exact lfv_mono ρy hy
            have q1 := fsub_ok x2 hy2
            have q2 := rsm_ok h1 h2.1.2 hj q1
            have q3 := ile_t m9
            have q4 := q2.2
            omega
          · cases m9
        · cases m9
    · cases m6
  · cases h
end
end
