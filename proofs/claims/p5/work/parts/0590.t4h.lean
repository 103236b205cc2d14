noncomputable section
/-! T4: how a reading ends (printed by wip/v5/gen/proofs6.py) -/
theorem end_w {z n : Int} {s : AS} (h : pEnd z n s) : wfS s := by
  obtain ⟨t, a, kd, pl, fi, kw, va, wo, h1, h2, h3⟩ := h
  exact Or.inl ⟨z, n, t, h1⟩
theorem end_t {y z n : Int} {s : AS} (h : eqT y z n) (q : pEnd y n s) : pEnd z n s := by
  obtain ⟨t, a, kd, pl, fi, kw, va, wo, h1, h2, h3⟩ := q
  exact ⟨t, a, kd, pl, fi, kw, va, wo, Rch_t h h1, Tok_t h h2, h3⟩
theorem end_u {z n : Int} {s s' : AS} (h : pEnd z n s) (h' : pEnd z n s') : s = s' := by
  obtain ⟨t, a, kd, pl, fi, kw, va, wo, h1, h2, h3⟩ := h
  obtain ⟨t', a', kd', pl', fi', kw', va', wo', g1, g2, g3⟩ := h'
  rcases Nat.lt_trichotomy t t' with q | q | q
  · exact (ans_no h1 h2 h3 g1 q).elim
  · subst q
    exact Rch_u h1 g1
  · exact (ans_no g1 g2 g3 h1 q).elim
def s0V (zr zn : Int) : AS := fun j => @ite Int (200 ≤ j) (Int.decLe _ _) (dcd (j - 200).toNat zr) (dcd (j - 100).toNat zn)
theorem s0V_r {zr zn j : Int} (h : 0 ≤ j) : s0V zr zn (200 + j) = dcd j.toNat zr := by
  unfold s0V
  rw [if_pos (by omega), show 200 + j - 200 = j by omega]
theorem s0V_n {zr zn j : Int} (h1 : j < 19) : s0V zr zn (100 + j) = dcd j.toNat zn := by
  unfold s0V
  rw [if_neg (by omega), show 100 + j - 100 = j by omega]
theorem agR_o {s : AS} {zr o zm o' y p ym p' : Int} (h : agR s zr o zm o') (h1 : ∀ j : Int, 0 ≤ j → j < 72 → dcd (p + j).toNat y = dcd (o + j).toNat zr) (h2 : ∀ j : Int, 0 ≤ j → j < 19 → dcd (p' + j).toNat ym = dcd (o' + j).toNat zm) : agR s y p ym p' := ⟨fun j j0 j1 => by
  rw [h1 j j0 j1]
  exact h.1 j j0 j1, fun j jk j0 j1 => by
  rw [h2 j j0 j1]
  exact h.2 j jk j0 j1⟩
theorem cpy_f {z n b a m : Int} (h : pCpy z n b a m) {k : Int} (hk : k ≤ m) (hb : b + k ≤ 4096) : ∀ j : Int, 0 ≤ j → j < k → dcd (b + j).toNat z = dcd (a + j).toNat n := fun j j0 j1 => h j j0 (by omega) (by omega)
theorem out_f {z n a b o k : Int} (h : pOut z n a b) (ho : 0 ≤ o) (hk : o + k ≤ 4096) (hs : o + k ≤ a ∨ b ≤ o) : ∀ j : Int, 0 ≤ j → j < k → dcd (o + j).toNat z = dcd (o + j).toNat n := fun j j0 j1 => h (o + j) (by omega) (by omega) (by omega)
theorem frf {z o k : Int} : ∀ j : Int, 0 ≤ j → j < k → dcd (o + j).toNat z = dcd (o + j).toNat z := fun _ _ _ => rfl
end
