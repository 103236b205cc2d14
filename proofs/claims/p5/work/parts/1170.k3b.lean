noncomputable section
/-! T3: rules (printed by wip/v5/gen/rules4.py) -/
theorem I1_b {n : Int} {s : AS} (h : I1 n s) : 0 ≤ s 200 ∧ s 200 ≤ 5 ∧ 0 ≤ s 201 ∧ s 201 ≤ 8 ∧ 0 ≤ s 202 ∧ s 202 ≤ 6 := by
  obtain ⟨_, _, a, b, c, d, e, f, _⟩ := h
  exact ⟨a, b, c, d, e, f⟩
theorem I1_o {n : Int} {s : AS} (h : I1 n s) : (s 10 = 0 ∨ s 10 = 1) ∧ (s 11 = 0 ∨ s 11 = 1) ∧ (s 12 = 0 ∨ s 12 = 1) ∧ (s 13 = 0 ∨ s 13 = 1) := by
  obtain ⟨_, _, _, _, _, _, _, _, _, _, _, a, b, c, d, _⟩ := h
  exact ⟨a, b, c, d⟩
theorem I1_g {n : Int} {s : AS} (h : I1 n s) (q : 13 ≤ s 0 ∧ s 0 ≤ 15) : s 202 ≤ 5 := by
  obtain ⟨_, _, _, _, _, _, _, _, _, _, a, _⟩ := h
  exact a q
theorem I1_r {n : Int} {s : AS} (h : I1 n s) (q : 9 ≤ s 0 ∧ s 0 ≤ 12) : s 201 ≤ 7 := by
  obtain ⟨_, _, _, _, _, _, _, _, _, a, _⟩ := h
  exact a q
theorem I1_3 {n : Int} {s : AS} (h : I1 n s) (q : s 0 = 17 ∨ s 0 = 19) : 0 ≤ s 3 ∧ s 3 < s 202 := by
  obtain ⟨_, _, _, _, _, _, _, _, _, _, _, _, _, _, _, _, _, _, _, _, a, _⟩ := h
  exact a q
theorem Tok_6 {z n M p kd pl fi kw va wo : Int} (h : Tok z n M p kd pl fi kw va wo) : kd ≠ 2 → kw = -1 := (Tok_p h).2.2.2.2.2.1
theorem Tok_8 {z n M p kd pl fi kw va wo : Int} (h : Tok z n M p kd pl fi kw va wo) (q : kd = 2) : vW wo := ((Tok_p h).2.2.2.2.2.2.2 q).1
theorem Tok_k {z n M p kd pl fi kw va wo : Int} (h : Tok z n M p kd pl fi kw va wo) (q : 0 ≤ kw) : kd = 2 := by
  by_cases e : kd = 2
  · exact e
  · have := Tok_6 h e
    omega
end
