noncomputable section
/-! rules: how many numbers, premises, how many new numbers, what follows -/
abbrev eRul : Type := Nat × List eFa × Nat × List eFa
def ruOk (R : eRul) : Prop := ∀ ρT : List Int, ρT.length = R.1 → fOk ρT R.2.1 → ∃ σ : List Int, σ.length = R.2.2.1 ∧ fOk (ρT ++ σ) R.2.2.2
/-- a form's number, reckoned -/
def gtI : List Int → Nat → Int
  | [], _ => 0
  | x :: _, 0 => x
  | _ :: t, n + 1 => gtI t n
def fvl (ρ : List Int) : List (Nat × Int) → Int
  | [] => 0
  | q :: t => q.2 * gtI ρ q.1 + fvl ρ t
def fev (ρ : List Int) (f : eLF) : Int := fvl ρ f.1 + f.2
theorem gtI_eq : ∀ {ρ : List Int} {k : Nat} {x : Int}, ρ[k]? = some x → gtI ρ k = x
  | [], k, x, h => by rw [List.getElem?_nil] at h; cases h
  | y :: _, 0, x, h => by
    rw [List.getElem?_cons_zero] at h
    cases h
    rfl
  | _ :: t, k + 1, x, h => by
    rw [List.getElem?_cons_succ] at h
    exact gtI_eq (ρ := t) h
theorem gtI_ex : ∀ {ρ : List Int} {k : Nat}, k < ρ.length → ρ[k]? = some (gtI ρ k)
  | [], k, h => by cases h
  | y :: _, 0, h => rfl
  | _ :: t, k + 1, h => by
    rw [List.getElem?_cons_succ]
    exact gtI_ex (ρ := t) (Nat.lt_of_succ_lt_succ h)
theorem fvl_eq {ρ : List Int} : ∀ {t : List (Nat × Int)} {z : Int}, lev ρ t = some z → fvl ρ t = z
  | [], z, h => by cases h; rfl
  | q :: t, z, h => by
    obtain ⟨x, y, h1, h2, rfl⟩ := lev_cons h
    show q.2 * gtI ρ q.1 + fvl ρ t = _
    rw [gtI_eq h1, fvl_eq h2]
theorem fvl_ex {ρ : List Int} : ∀ {t : List (Nat × Int)}, wfl ρ.length t = true → lev ρ t = some (fvl ρ t)
  | [], _ => rfl
  | q :: t, h => by
    have h' : bq (Nat.blt q.1 ρ.length) (wfl ρ.length t) false = true := h
    cases hb : Nat.blt q.1 ρ.length
    · rw [hb] at h'; cases h'
    · rw [hb, bq_t] at h'
      exact lev_mk (gtI_ex (blt_t hb)) (fvl_ex h')
theorem fev_eq {ρ : List Int} {f : eLF} {x : Int} (h : lfv ρ f x) : fev ρ f = x := by
  have h' : lev ρ f.1 = some (x - f.2) := h
  show fvl ρ f.1 + f.2 = x
  rw [fvl_eq h']
  omega
theorem fev_ex {ρ : List Int} {f : eLF} (h : wfl ρ.length f.1 = true) : lfv ρ f (fev ρ f) := by
  show lev ρ f.1 = some (fvl ρ f.1 + f.2 - f.2)
  rw [fvl_ex h]
  congr 1
  omega
theorem fevs_eq {ρ : List Int} : ∀ {fs : List eLF} {xs : List Int}, R2 (lfv ρ) fs xs → fs.map (fev ρ) = xs
  | [], xs, h => (R2.nil_inv h).symm
  | f :: t, xs, h => by
    obtain ⟨y, ys, rfl, h1, h2⟩ := R2.cons_inv h
    rw [List.map_cons, fev_eq h1, fevs_eq h2]
theorem fevs_ex {ρ : List Int} : ∀ {fs : List eLF}, (fs.all fun f => wfl ρ.length f.1) = true → R2 (lfv ρ) fs (fs.map (fev ρ))
  | [], _ => trivial
  | f :: t, h => by
    rw [List.all_cons, Bool.and_eq_true] at h
    exact ⟨fev_ex h.1, fevs_ex h.2⟩
/-- premises got, ends put -/
theorem p_get {ρ : List Int} {t : Nat} {fs : List eLF} (h : bxOk ρ (.inr (1000000 + t), fs)) : PR t (fs.map (fev ρ)) := by
  obtain ⟨xs, h1, h2⟩ := h
  rw [fevs_eq h1]
  exact bxS_t.mp h2
theorem p_put {ρ : List Int} {t : Nat} {fs : List eLF} (hw : (fs.all fun f => wfl ρ.length f.1) = true) (h : PR t (fs.map (fev ρ))) : bxOk ρ (.inr (1000000 + t), fs) := ⟨_, fevs_ex hw, bxS_t.mpr h⟩
theorem i_get {ρ : List Int} {i : Int × Int} {f : eLF} (h : bxOk ρ (.inl [[i]], [f])) : i.1 ≤ fev ρ f ∧ fev ρ f ≤ i.2 := by
  obtain ⟨y, h1, h2⟩ := sing_ok h
  rw [fev_eq h1]
  exact h2
theorem i_put {ρ : List Int} {i : Int × Int} {f : eLF} (hw : wfl ρ.length f.1 = true) (h1 : i.1 ≤ fev ρ f) (h2 : fev ρ f ≤ i.2) : bxOk ρ (.inl [[i]], [f]) := ⟨[fev ρ f], ⟨fev_ex hw, trivial⟩, (bxS_b rfl).mpr ⟨[i], List.mem_cons_self, ⟨⟨h1, h2⟩, trivial⟩⟩⟩
theorem fOk_cons {ρ : List Int} {F : eFa} {t : List eFa} (h : bxOk ρ F) (h' : fOk ρ t) : fOk ρ (F :: t) := fun G hG => by
  rcases List.mem_cons.mp hG with rfl | hG
  · exact h
  · exact h' G hG
theorem fOk_nil {ρ : List Int} : fOk ρ [] := fun G hG => by cases hG
theorem fOk_hd {ρ : List Int} {F : eFa} {t : List eFa} (h : fOk ρ (F :: t)) : bxOk ρ F := h F List.mem_cons_self
theorem fOk_tl {ρ : List Int} {F : eFa} {t : List eFa} (h : fOk ρ (F :: t)) : fOk ρ t := fun G hG => h G (List.mem_cons_of_mem _ hG)
end
