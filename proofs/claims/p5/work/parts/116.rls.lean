noncomputable section
/-! the rules themselves (printed by wip/v5/gen/rules4.py) -/
def xv (k : Nat) : eLF := ([(k, 1)], 0)
def xP (t : Nat) (fs : List eLF) : eFa := (.inr (1000000 + t), fs)
/-- a form that is 0 or less -/
def xG (f : eLF) : eFa := (.inl [[(-1000000000000, 0)]], [f])
theorem gg_get {ρ : List Int} {f : eLF} (h : bxOk ρ (xG f)) : fev ρ f ≤ 0 := (i_get h).2
theorem gg_put {ρ : List Int} {f : eLF} (hw : wfl ρ.length f.1 = true) (h1 : -1000000000000 ≤ fev ρ f) (h2 : fev ρ f ≤ 0) : bxOk ρ (xG f) := i_put hw h1 h2
theorem len_inv : ∀ {ρ : List Int} {n : Nat}, ρ.length = n + 1 → ∃ x t, ρ = x :: t ∧ t.length = n
  | [], n, h => by cases h
  | x :: t, n, h => ⟨x, t, rfl, Nat.succ.inj h⟩
theorem pRg_cpy {z n b a m c d l h : Int} (hc : pCpy z n b a m) (hr : pRg n (a + c) (a + d) l h) (hd : d ≤ m) (c0 : 0 ≤ c) (a0 : 0 ≤ a) (a1 : a + d ≤ 4096) : pRg z (b + c) (b + d) l h := by
  intro j j0 j1 j2 j3
  have e := hc (j - b) (by omega) (by omega) (by omega)
  rw [show b + (j - b) = j by omega] at e
  rw [e]
  exact hr (a + (j - b)) (by omega) (by omega) (by omega) (by omega)
theorem pTree_cpy {z n b a m : Int} (hc : pCpy z n b a m) (ht : pTree n (a + 110)) (hm : 350 ≤ m) (b0 : 0 ≤ b) (b1 : b ≤ 3700) (a0 : 0 ≤ a) (a1 : a ≤ 3700) : pTree z (b + 110) := by
  intro k k0 k1
  have q := ht k k0 k1
  unfold pNode at q ⊢
  have e0 := hc (110 + 4 * k) (by omega) (by omega) (by omega)
  have e1 := hc (110 + 4 * k + 1) (by omega) (by omega) (by omega)
  have e2 := hc (110 + 4 * k + 2) (by omega) (by omega) (by omega)
  rw [show b + 110 + 4 * k = b + (110 + 4 * k) by omega, show a + 110 + 4 * k = a + (110 + 4 * k) by omega] at *
  rw [show b + (110 + 4 * k) + 1 = b + (110 + 4 * k + 1) by omega, show b + (110 + 4 * k) + 2 = b + (110 + 4 * k + 2) by omega, show b + (110 + 4 * k) = b + (110 + 4 * k) by omega, e0, e1, e2]
  rw [show a + (110 + 4 * k) + 1 = a + (110 + 4 * k + 1) by omega, show a + (110 + 4 * k) + 2 = a + (110 + 4 * k + 2) by omega] at q
  exact q
theorem pNow_cpy {z n b a m : Int} (hn : pNow n a) (hc : pCpy z n b a m) (hm : 350 ≤ m) (b0 : 0 ≤ b) (b1 : b ≤ 3700) (a0 : 0 ≤ a) (a1 : a ≤ 3700) : pNow z b := by
  obtain ⟨q1, q2, q3, q4, q5, q6, q7, q8, q9⟩ := hn
  have h0 : pRg z (b + 0) (b + 1) 0 5 := pRg_cpy hc (c := 0) (d := 1) (by rw [Int.add_zero]; exact q1) (by omega) (by omega) a0 (by omega)
  rw [Int.add_zero] at h0
  exact ⟨h0, pRg_cpy hc q2 (by omega) (by omega) a0 (by omega), pRg_cpy hc q3 (by omega) (by omega) a0 (by omega), pRg_cpy hc q4 (by omega) (by omega) a0 (by omega), pRg_cpy hc q5 (by omega) (by omega) a0 (by omega), pRg_cpy hc q6 (by omega) (by omega) a0 (by omega), pRg_cpy hc q7 (by omega) (by omega) a0 (by omega), pRg_cpy hc q8 (by omega) (by omega) a0 (by omega), pTree_cpy hc q9 hm b0 b1 a0 a1⟩
def r_rg_put : eRul := (8, [xP 3 [xv 1, xv 4, xv 5, xv 6, xv 7], xP 2 [xv 0, xv 1, xv 2, xv 3], xG (([(3, -1), (6, 1)], 0)), xG (([(3, 1), (7, -1)], 0))], 0, [xP 3 [xv 0, xv 4, xv 5, xv 6, xv 7]])
theorem r_rg_put_ok : ruOk r_rg_put := by
  intro ρ hl0 hp
  obtain ⟨z', t0, rfl, hl1⟩ := len_inv hl0
  obtain ⟨z, t1, rfl, hl2⟩ := len_inv hl1
  obtain ⟨i, t2, rfl, hl3⟩ := len_inv hl2
  obtain ⟨v, t3, rfl, hl4⟩ := len_inv hl3
  obtain ⟨a, t4, rfl, hl5⟩ := len_inv hl4
  obtain ⟨b, t5, rfl, hl6⟩ := len_inv hl5
  obtain ⟨l, t6, rfl, hl7⟩ := len_inv hl6
  obtain ⟨h, t7, rfl, hl8⟩ := len_inv hl7
  have hl := List.eq_nil_of_length_eq_zero hl8
  subst hl
  have p1 := p_get (fOk_hd hp)
  have p2 := p_get (fOk_hd (fOk_tl hp))
  have p3 := gg_get (fOk_hd (fOk_tl (fOk_tl hp)))
  have p4 := gg_get (fOk_hd (fOk_tl (fOk_tl (fOk_tl hp))))
  simp only [List.map, xv, fev, fvl, gtI, Int.one_mul, Int.add_zero, Int.zero_add, PR] at p1 p2 p3 p4
  refine ⟨[], rfl, fOk_cons (p_put rfl ?_) fOk_nil⟩ <;> simp only [List.map, xv, fev, fvl, gtI, Int.one_mul, Int.add_zero, Int.zero_add, PR, List.append_nil]
  obtain ⟨u1, u2, u3, rfl⟩ := p2
  intro j j0 j1 j2 j3
  by_cases e : j = i
  · rw [e, dcd_us u3 (by omega)]
    omega
  · rw [dcd_un u3 (by omega) (by omega)]
    exact p1 j j0 j1 j2 j3
def r_rg_out1 : eRul := (8, [xP 3 [xv 1, xv 4, xv 5, xv 6, xv 7], xP 2 [xv 0, xv 1, xv 2, xv 3], xG (([(2, 1), (4, -1)], 1))], 0, [xP 3 [xv 0, xv 4, xv 5, xv 6, xv 7]])
theorem r_rg_out1_ok : ruOk r_rg_out1 := by
  intro ρ hl0 hp
  obtain ⟨z', t0, rfl, hl1⟩ := len_inv hl0
  obtain ⟨z, t1, rfl, hl2⟩ := len_inv hl1
  obtain ⟨i, t2, rfl, hl3⟩ := len_inv hl2
  obtain ⟨v, t3, rfl, hl4⟩ := len_inv hl3
  obtain ⟨a, t4, rfl, hl5⟩ := len_inv hl4
  obtain ⟨b, t5, rfl, hl6⟩ := len_inv hl5
  obtain ⟨l, t6, rfl, hl7⟩ := len_inv hl6
  obtain ⟨h, t7, rfl, hl8⟩ := len_inv hl7
  have hl := List.eq_nil_of_length_eq_zero hl8
  subst hl
  have p1 := p_get (fOk_hd hp)
  have p2 := p_get (fOk_hd (fOk_tl hp))
  have p3 := gg_get (fOk_hd (fOk_tl (fOk_tl hp)))
  simp only [List.map, xv, fev, fvl, gtI, Int.one_mul, Int.add_zero, Int.zero_add, PR] at p1 p2 p3
  refine ⟨[], rfl, fOk_cons (p_put rfl ?_) fOk_nil⟩ <;> simp only [List.map, xv, fev, fvl, gtI, Int.one_mul, Int.add_zero, Int.zero_add, PR, List.append_nil]
  obtain ⟨u1, u2, u3, rfl⟩ := p2
  intro j j0 j1 j2 j3
  rw [dcd_un u3 (by omega) (by omega)]
  exact p1 j j0 j1 j2 j3
def r_rg_out2 : eRul := (8, [xP 3 [xv 1, xv 4, xv 5, xv 6, xv 7], xP 2 [xv 0, xv 1, xv 2, xv 3], xG (([(2, -1), (5, 1)], 0))], 0, [xP 3 [xv 0, xv 4, xv 5, xv 6, xv 7]])
theorem r_rg_out2_ok : ruOk r_rg_out2 := by
  intro ρ hl0 hp
  obtain ⟨z', t0, rfl, hl1⟩ := len_inv hl0
  obtain ⟨z, t1, rfl, hl2⟩ := len_inv hl1
  obtain ⟨i, t2, rfl, hl3⟩ := len_inv hl2
  obtain ⟨v, t3, rfl, hl4⟩ := len_inv hl3
  obtain ⟨a, t4, rfl, hl5⟩ := len_inv hl4
  obtain ⟨b, t5, rfl, hl6⟩ := len_inv hl5
  obtain ⟨l, t6, rfl, hl7⟩ := len_inv hl6
  obtain ⟨h, t7, rfl, hl8⟩ := len_inv hl7
  have hl := List.eq_nil_of_length_eq_zero hl8
  subst hl
  have p1 := p_get (fOk_hd hp)
  have p2 := p_get (fOk_hd (fOk_tl hp))
  have p3 := gg_get (fOk_hd (fOk_tl (fOk_tl hp)))
  simp only [List.map, xv, fev, fvl, gtI, Int.one_mul, Int.add_zero, Int.zero_add, PR] at p1 p2 p3
  refine ⟨[], rfl, fOk_cons (p_put rfl ?_) fOk_nil⟩ <;> simp only [List.map, xv, fev, fvl, gtI, Int.one_mul, Int.add_zero, Int.zero_add, PR, List.append_nil]
  obtain ⟨u1, u2, u3, rfl⟩ := p2
  intro j j0 j1 j2 j3
  rw [dcd_un u3 (by omega) (by omega)]
  exact p1 j j0 j1 j2 j3
def r_rg_ext : eRul := (7, [xP 3 [xv 1, xv 4, xv 2, xv 5, xv 6], xP 2 [xv 0, xv 1, xv 2, xv 3], xG (([(3, -1), (5, 1)], 0)), xG (([(3, 1), (6, -1)], 0))], 0, [xP 3 [xv 0, xv 4, ([(2, 1)], 1), xv 5, xv 6]])
theorem r_rg_ext_ok : ruOk r_rg_ext := by
  intro ρ hl0 hp
  obtain ⟨z', t0, rfl, hl1⟩ := len_inv hl0
  obtain ⟨z, t1, rfl, hl2⟩ := len_inv hl1
  obtain ⟨i, t2, rfl, hl3⟩ := len_inv hl2
  obtain ⟨v, t3, rfl, hl4⟩ := len_inv hl3
  obtain ⟨a, t4, rfl, hl5⟩ := len_inv hl4
  obtain ⟨l, t5, rfl, hl6⟩ := len_inv hl5
  obtain ⟨h, t6, rfl, hl7⟩ := len_inv hl6
  have hl := List.eq_nil_of_length_eq_zero hl7
  subst hl
  have p1 := p_get (fOk_hd hp)
  have p2 := p_get (fOk_hd (fOk_tl hp))
  have p3 := gg_get (fOk_hd (fOk_tl (fOk_tl hp)))
  have p4 := gg_get (fOk_hd (fOk_tl (fOk_tl (fOk_tl hp))))
  simp only [List.map, xv, fev, fvl, gtI, Int.one_mul, Int.add_zero, Int.zero_add, PR] at p1 p2 p3 p4
  refine ⟨[], rfl, fOk_cons (p_put rfl ?_) fOk_nil⟩ <;> simp only [List.map, xv, fev, fvl, gtI, Int.one_mul, Int.add_zero, Int.zero_add, PR, List.append_nil]
  obtain ⟨u1, u2, u3, rfl⟩ := p2
  intro j j0 j1 j2 j3
  by_cases e : j = i
  · rw [e, dcd_us u3 (by omega)]
    omega
  · rw [dcd_un u3 (by omega) (by omega)]
    exact p1 j j0 j1 (by omega) j3
def r_rg_extD : eRul := (6, [xP 3 [xv 0, xv 3, xv 1, xv 4, xv 5], xP 1 [xv 2, xv 0, xv 1], xG (([(2, -1), (4, 1)], 0)), xG (([(2, 1), (5, -1)], 0))], 0, [xP 3 [xv 0, xv 3, ([(1, 1)], 1), xv 4, xv 5]])
theorem r_rg_extD_ok : ruOk r_rg_extD := by
  intro ρ hl0 hp
  obtain ⟨z, t0, rfl, hl1⟩ := len_inv hl0
  obtain ⟨i, t1, rfl, hl2⟩ := len_inv hl1
  obtain ⟨x, t2, rfl, hl3⟩ := len_inv hl2
  obtain ⟨a, t3, rfl, hl4⟩ := len_inv hl3
  obtain ⟨l, t4, rfl, hl5⟩ := len_inv hl4
  obtain ⟨h, t5, rfl, hl6⟩ := len_inv hl5
  have hl := List.eq_nil_of_length_eq_zero hl6
  subst hl
  have p1 := p_get (fOk_hd hp)
  have p2 := p_get (fOk_hd (fOk_tl hp))
  have p3 := gg_get (fOk_hd (fOk_tl (fOk_tl hp)))
  have p4 := gg_get (fOk_hd (fOk_tl (fOk_tl (fOk_tl hp))))
  simp only [List.map, xv, fev, fvl, gtI, Int.one_mul, Int.add_zero, Int.zero_add, PR] at p1 p2 p3 p4
  refine ⟨[], rfl, fOk_cons (p_put rfl ?_) fOk_nil⟩ <;> simp only [List.map, xv, fev, fvl, gtI, Int.one_mul, Int.add_zero, Int.zero_add, PR, List.append_nil]
  obtain ⟨u1, u2⟩ := p2
  intro j j0 j1 j2 j3
  by_cases e : j = i
  · rw [e, u2]
    omega
  · exact p1 j j0 j1 (by omega) j3
def r_rg_putR : eRul := (12, [xP 3 [xv 1, xv 4, xv 5, xv 6, xv 7], xP 2 [xv 0, xv 1, xv 2, xv 3], xP 1 [xv 3, xv 8, xv 9], xP 3 [xv 8, xv 10, xv 11, xv 6, xv 7], xG (([(9, -1), (10, 1)], 0)), xG (([(9, 1), (11, -1)], 1)), xG (([(9, 1)], -4095))], 0, [xP 3 [xv 0, xv 4, xv 5, xv 6, xv 7]])
theorem r_rg_putR_ok : ruOk r_rg_putR := by
  intro ρ hl0 hp
  obtain ⟨z', t0, rfl, hl1⟩ := len_inv hl0
  obtain ⟨z, t1, rfl, hl2⟩ := len_inv hl1
  obtain ⟨i, t2, rfl, hl3⟩ := len_inv hl2
  obtain ⟨v, t3, rfl, hl4⟩ := len_inv hl3
  obtain ⟨a, t4, rfl, hl5⟩ := len_inv hl4
  obtain ⟨b, t5, rfl, hl6⟩ := len_inv hl5
  obtain ⟨l, t6, rfl, hl7⟩ := len_inv hl6
  obtain ⟨h, t7, rfl, hl8⟩ := len_inv hl7
  obtain ⟨y, t8, rfl, hl9⟩ := len_inv hl8
  obtain ⟨k, t9, rfl, hl10⟩ := len_inv hl9
  obtain ⟨c, t10, rfl, hl11⟩ := len_inv hl10
  obtain ⟨d, t11, rfl, hl12⟩ := len_inv hl11
  have hl := List.eq_nil_of_length_eq_zero hl12
  subst hl
  have p1 := p_get (fOk_hd hp)
  have p2 := p_get (fOk_hd (fOk_tl hp))
  have p3 := p_get (fOk_hd (fOk_tl (fOk_tl hp)))
  have p4 := p_get (fOk_hd (fOk_tl (fOk_tl (fOk_tl hp))))
  have p5 := gg_get (fOk_hd (fOk_tl (fOk_tl (fOk_tl (fOk_tl hp)))))
  have p6 := gg_get (fOk_hd (fOk_tl (fOk_tl (fOk_tl (fOk_tl (fOk_tl hp))))))
  have p7 := gg_get (fOk_hd (fOk_tl (fOk_tl (fOk_tl (fOk_tl (fOk_tl (fOk_tl hp)))))))
  simp only [List.map, xv, fev, fvl, gtI, Int.one_mul, Int.add_zero, Int.zero_add, PR] at p1 p2 p3 p4 p5 p6 p7
  refine ⟨[], rfl, fOk_cons (p_put rfl ?_) fOk_nil⟩ <;> simp only [List.map, xv, fev, fvl, gtI, Int.one_mul, Int.add_zero, Int.zero_add, PR, List.append_nil]
  obtain ⟨u1, u2, u3, rfl⟩ := p2
  obtain ⟨w1, w2⟩ := p3
  have q := p4 k w1 (by omega) (by omega) (by omega)
  rw [w2] at q
  intro j j0 j1 j2 j3
  by_cases e : j = i
  · rw [e, dcd_us u3 (by omega)]
    omega
  · rw [dcd_un u3 (by omega) (by omega)]
    exact p1 j j0 j1 j2 j3
def r_rg_extR : eRul := (11, [xP 3 [xv 1, xv 4, xv 2, xv 5, xv 6], xP 2 [xv 0, xv 1, xv 2, xv 3], xP 1 [xv 3, xv 7, xv 8], xP 3 [xv 7, xv 9, xv 10, xv 5, xv 6], xG (([(8, -1), (9, 1)], 0)), xG (([(8, 1), (10, -1)], 1)), xG (([(8, 1)], -4095))], 0, [xP 3 [xv 0, xv 4, ([(2, 1)], 1), xv 5, xv 6]])
theorem r_rg_extR_ok : ruOk r_rg_extR := by
  intro ρ hl0 hp
  obtain ⟨z', t0, rfl, hl1⟩ := len_inv hl0
  obtain ⟨z, t1, rfl, hl2⟩ := len_inv hl1
  obtain ⟨i, t2, rfl, hl3⟩ := len_inv hl2
  obtain ⟨v, t3, rfl, hl4⟩ := len_inv hl3
  obtain ⟨a, t4, rfl, hl5⟩ := len_inv hl4
  obtain ⟨l, t5, rfl, hl6⟩ := len_inv hl5
  obtain ⟨h, t6, rfl, hl7⟩ := len_inv hl6
  obtain ⟨y, t7, rfl, hl8⟩ := len_inv hl7
  obtain ⟨k, t8, rfl, hl9⟩ := len_inv hl8
  obtain ⟨c, t9, rfl, hl10⟩ := len_inv hl9
  obtain ⟨d, t10, rfl, hl11⟩ := len_inv hl10
  have hl := List.eq_nil_of_length_eq_zero hl11
  subst hl
  have p1 := p_get (fOk_hd hp)
  have p2 := p_get (fOk_hd (fOk_tl hp))
  have p3 := p_get (fOk_hd (fOk_tl (fOk_tl hp)))
  have p4 := p_get (fOk_hd (fOk_tl (fOk_tl (fOk_tl hp))))
  have p5 := gg_get (fOk_hd (fOk_tl (fOk_tl (fOk_tl (fOk_tl hp)))))
  have p6 := gg_get (fOk_hd (fOk_tl (fOk_tl (fOk_tl (fOk_tl (fOk_tl hp))))))
  have p7 := gg_get (fOk_hd (fOk_tl (fOk_tl (fOk_tl (fOk_tl (fOk_tl (fOk_tl hp)))))))
  simp only [List.map, xv, fev, fvl, gtI, Int.one_mul, Int.add_zero, Int.zero_add, PR] at p1 p2 p3 p4 p5 p6 p7
  refine ⟨[], rfl, fOk_cons (p_put rfl ?_) fOk_nil⟩ <;> simp only [List.map, xv, fev, fvl, gtI, Int.one_mul, Int.add_zero, Int.zero_add, PR, List.append_nil]
  obtain ⟨u1, u2, u3, rfl⟩ := p2
  obtain ⟨w1, w2⟩ := p3
  have q := p4 k w1 (by omega) (by omega) (by omega)
  rw [w2] at q
  intro j j0 j1 j2 j3
  by_cases e : j = i
  · rw [e, dcd_us u3 (by omega)]
    omega
  · rw [dcd_un u3 (by omega) (by omega)]
    exact p1 j j0 j1 (by omega) j3
def r_rg_one : eRul := (6, [xP 2 [xv 0, xv 1, xv 2, xv 3], xG (([(3, -1), (4, 1)], 0)), xG (([(3, 1), (5, -1)], 0))], 0, [xP 3 [xv 0, xv 2, ([(2, 1)], 1), xv 4, xv 5]])
theorem r_rg_one_ok : ruOk r_rg_one := by
  intro ρ hl0 hp
  obtain ⟨z', t0, rfl, hl1⟩ := len_inv hl0
  obtain ⟨z, t1, rfl, hl2⟩ := len_inv hl1
  obtain ⟨i, t2, rfl, hl3⟩ := len_inv hl2
  obtain ⟨v, t3, rfl, hl4⟩ := len_inv hl3
  obtain ⟨l, t4, rfl, hl5⟩ := len_inv hl4
  obtain ⟨h, t5, rfl, hl6⟩ := len_inv hl5
  have hl := List.eq_nil_of_length_eq_zero hl6
  subst hl
  have p1 := p_get (fOk_hd hp)
  have p2 := gg_get (fOk_hd (fOk_tl hp))
  have p3 := gg_get (fOk_hd (fOk_tl (fOk_tl hp)))
  simp only [List.map, xv, fev, fvl, gtI, Int.one_mul, Int.add_zero, Int.zero_add, PR] at p1 p2 p3
  refine ⟨[], rfl, fOk_cons (p_put rfl ?_) fOk_nil⟩ <;> simp only [List.map, xv, fev, fvl, gtI, Int.one_mul, Int.add_zero, Int.zero_add, PR, List.append_nil]
  obtain ⟨u1, u2, u3, rfl⟩ := p1
  intro j j0 j1 j2 j3
  have e : j = i := by omega
  rw [e, dcd_us u3 (by omega)]
  omega
def r_rg_no : eRul := (5, [xG (([(1, -1), (2, 1)], 0))], 0, [xP 3 [xv 0, xv 1, xv 2, xv 3, xv 4]])
theorem r_rg_no_ok : ruOk r_rg_no := by
  intro ρ hl0 hp
  obtain ⟨z, t0, rfl, hl1⟩ := len_inv hl0
  obtain ⟨a, t1, rfl, hl2⟩ := len_inv hl1
  obtain ⟨b, t2, rfl, hl3⟩ := len_inv hl2
  obtain ⟨l, t3, rfl, hl4⟩ := len_inv hl3
  obtain ⟨h, t4, rfl, hl5⟩ := len_inv hl4
  have hl := List.eq_nil_of_length_eq_zero hl5
  subst hl
  have p1 := gg_get (fOk_hd hp)
  simp only [List.map, xv, fev, fvl, gtI, Int.one_mul, Int.add_zero, Int.zero_add, PR] at p1
  refine ⟨[], rfl, fOk_cons (p_put rfl ?_) fOk_nil⟩ <;> simp only [List.map, xv, fev, fvl, gtI, Int.one_mul, Int.add_zero, Int.zero_add, PR, List.append_nil]
  intro j j0 j1 j2 j3
  omega
def r_rg_weak : eRul := (9, [xP 3 [xv 0, xv 1, xv 2, xv 3, xv 4], xG (([(1, 1), (5, -1)], 0)), xG (([(2, -1), (6, 1)], 0)), xG (([(3, -1), (7, 1)], 0)), xG (([(4, 1), (8, -1)], 0))], 0, [xP 3 [xv 0, xv 5, xv 6, xv 7, xv 8]])
theorem r_rg_weak_ok : ruOk r_rg_weak := by
  intro ρ hl0 hp
  obtain ⟨z, t0, rfl, hl1⟩ := len_inv hl0
  obtain ⟨a, t1, rfl, hl2⟩ := len_inv hl1
  obtain ⟨b, t2, rfl, hl3⟩ := len_inv hl2
  obtain ⟨l, t3, rfl, hl4⟩ := len_inv hl3
  obtain ⟨h, t4, rfl, hl5⟩ := len_inv hl4
  obtain ⟨A, t5, rfl, hl6⟩ := len_inv hl5
  obtain ⟨B, t6, rfl, hl7⟩ := len_inv hl6
  obtain ⟨L, t7, rfl, hl8⟩ := len_inv hl7
  obtain ⟨H, t8, rfl, hl9⟩ := len_inv hl8
  have hl := List.eq_nil_of_length_eq_zero hl9
  subst hl
  have p1 := p_get (fOk_hd hp)
  have p2 := gg_get (fOk_hd (fOk_tl hp))
  have p3 := gg_get (fOk_hd (fOk_tl (fOk_tl hp)))
  have p4 := gg_get (fOk_hd (fOk_tl (fOk_tl (fOk_tl hp))))
  have p5 := gg_get (fOk_hd (fOk_tl (fOk_tl (fOk_tl (fOk_tl hp)))))
  simp only [List.map, xv, fev, fvl, gtI, Int.one_mul, Int.add_zero, Int.zero_add, PR] at p1 p2 p3 p4 p5
  refine ⟨[], rfl, fOk_cons (p_put rfl ?_) fOk_nil⟩ <;> simp only [List.map, xv, fev, fvl, gtI, Int.one_mul, Int.add_zero, Int.zero_add, PR, List.append_nil]
  intro j j0 j1 j2 j3
  have q := p1 j j0 (by omega) (by omega) j3
  omega
def r_rg_use : eRul := (7, [xP 3 [xv 0, xv 1, xv 2, xv 3, xv 4], xP 1 [xv 6, xv 0, xv 5], xG (([(1, 1), (5, -1)], 0)), xG (([(2, -1), (5, 1)], 1)), xG (([(5, 1)], -4095)), xG (([(3, -1), (4, 1)], -500000000000))], 0, [xG (([(3, 1), (6, -1)], 0)), xG (([(4, -1), (6, 1)], 0))])
theorem r_rg_use_ok : ruOk r_rg_use := by
  intro ρ hl0 hp
  obtain ⟨z, t0, rfl, hl1⟩ := len_inv hl0
  obtain ⟨a, t1, rfl, hl2⟩ := len_inv hl1
  obtain ⟨b, t2, rfl, hl3⟩ := len_inv hl2
  obtain ⟨l, t3, rfl, hl4⟩ := len_inv hl3
  obtain ⟨h, t4, rfl, hl5⟩ := len_inv hl4
  obtain ⟨i, t5, rfl, hl6⟩ := len_inv hl5
  obtain ⟨x, t6, rfl, hl7⟩ := len_inv hl6
  have hl := List.eq_nil_of_length_eq_zero hl7
  subst hl
  have p1 := p_get (fOk_hd hp)
  have p2 := p_get (fOk_hd (fOk_tl hp))
  have p3 := gg_get (fOk_hd (fOk_tl (fOk_tl hp)))
  have p4 := gg_get (fOk_hd (fOk_tl (fOk_tl (fOk_tl hp))))
  have p5 := gg_get (fOk_hd (fOk_tl (fOk_tl (fOk_tl (fOk_tl hp)))))
  have p6 := gg_get (fOk_hd (fOk_tl (fOk_tl (fOk_tl (fOk_tl (fOk_tl hp))))))
  simp only [List.map, xv, fev, fvl, gtI, Int.one_mul, Int.add_zero, Int.zero_add, PR] at p1 p2 p3 p4 p5 p6
  refine ⟨[], rfl, fOk_cons (gg_put rfl ?_ ?_) (fOk_cons (gg_put rfl ?_ ?_) fOk_nil)⟩ <;> simp only [List.map, xv, fev, fvl, gtI, Int.one_mul, Int.add_zero, Int.zero_add, PR, List.append_nil]
  · obtain ⟨u1, u2⟩ := p2
    have q := p1 i u1 (by omega) (by omega) (by omega)
    rw [u2] at q
    omega
  · obtain ⟨u1, u2⟩ := p2
    have q := p1 i u1 (by omega) (by omega) (by omega)
    rw [u2] at q
    omega
  · obtain ⟨u1, u2⟩ := p2
    have q := p1 i u1 (by omega) (by omega) (by omega)
    rw [u2] at q
    omega
  · obtain ⟨u1, u2⟩ := p2
    have q := p1 i u1 (by omega) (by omega) (by omega)
    rw [u2] at q
    omega
def r_dec_eq : eRul := (4, [xP 1 [xv 0, xv 2, xv 3], xP 1 [xv 1, xv 2, xv 3]], 0, [(.inl [[(0, 0)]], [([(0, 1), (1, -1)], 0)])])
theorem r_dec_eq_ok : ruOk r_dec_eq := by
  intro ρ hl0 hp
  obtain ⟨x, t0, rfl, hl1⟩ := len_inv hl0
  obtain ⟨y, t1, rfl, hl2⟩ := len_inv hl1
  obtain ⟨z, t2, rfl, hl3⟩ := len_inv hl2
  obtain ⟨i, t3, rfl, hl4⟩ := len_inv hl3
  have hl := List.eq_nil_of_length_eq_zero hl4
  subst hl
  have p1 := p_get (fOk_hd hp)
  have p2 := p_get (fOk_hd (fOk_tl hp))
  simp only [List.map, xv, fev, fvl, gtI, Int.one_mul, Int.add_zero, Int.zero_add, PR] at p1 p2
  refine ⟨[], rfl, fOk_cons (i_put rfl ?_ ?_) fOk_nil⟩ <;> simp only [List.map, xv, fev, fvl, gtI, Int.one_mul, Int.add_zero, Int.zero_add, PR, List.append_nil]
  · obtain ⟨u1, u2⟩ := p1
    obtain ⟨u3, u4⟩ := p2
    omega
  · obtain ⟨u1, u2⟩ := p1
    obtain ⟨u3, u4⟩ := p2
    omega
def r_i19_a : eRul := (2, [xG (([(0, 1)], -18))], 0, [xP 20 [xv 0, xv 1]])
theorem r_i19_a_ok : ruOk r_i19_a := by
  intro ρ hl0 hp
  obtain ⟨s, t0, rfl, hl1⟩ := len_inv hl0
  obtain ⟨n, t1, rfl, hl2⟩ := len_inv hl1
  have hl := List.eq_nil_of_length_eq_zero hl2
  subst hl
  have p1 := gg_get (fOk_hd hp)
  simp only [List.map, xv, fev, fvl, gtI, Int.one_mul, Int.add_zero, Int.zero_add, PR] at p1
  refine ⟨[], rfl, fOk_cons (p_put rfl ?_) fOk_nil⟩ <;> simp only [List.map, xv, fev, fvl, gtI, Int.one_mul, Int.add_zero, Int.zero_add, PR, List.append_nil]
  intro e
  omega
def r_i19_b : eRul := (2, [xG (([(0, -1)], 20))], 0, [xP 20 [xv 0, xv 1]])
theorem r_i19_b_ok : ruOk r_i19_b := by
  intro ρ hl0 hp
  obtain ⟨s, t0, rfl, hl1⟩ := len_inv hl0
  obtain ⟨n, t1, rfl, hl2⟩ := len_inv hl1
  have hl := List.eq_nil_of_length_eq_zero hl2
  subst hl
  have p1 := gg_get (fOk_hd hp)
  simp only [List.map, xv, fev, fvl, gtI, Int.one_mul, Int.add_zero, Int.zero_add, PR] at p1
  refine ⟨[], rfl, fOk_cons (p_put rfl ?_) fOk_nil⟩ <;> simp only [List.map, xv, fev, fvl, gtI, Int.one_mul, Int.add_zero, Int.zero_add, PR, List.append_nil]
  intro e
  omega
def r_i19_c : eRul := (2, [xG (([(1, -1)], 0)), xG (([(1, 1)], -5))], 0, [xP 20 [xv 0, xv 1]])
theorem r_i19_c_ok : ruOk r_i19_c := by
  intro ρ hl0 hp
  obtain ⟨s, t0, rfl, hl1⟩ := len_inv hl0
  obtain ⟨n, t1, rfl, hl2⟩ := len_inv hl1
  have hl := List.eq_nil_of_length_eq_zero hl2
  subst hl
  have p1 := gg_get (fOk_hd hp)
  have p2 := gg_get (fOk_hd (fOk_tl hp))
  simp only [List.map, xv, fev, fvl, gtI, Int.one_mul, Int.add_zero, Int.zero_add, PR] at p1 p2
  refine ⟨[], rfl, fOk_cons (p_put rfl ?_) fOk_nil⟩ <;> simp only [List.map, xv, fev, fvl, gtI, Int.one_mul, Int.add_zero, Int.zero_add, PR, List.append_nil]
  intro e
  omega
def r_sent_no : eRul := (3, [xG (xv 2)], 0, [xP 4 [xv 0, xv 1, xv 2]])
theorem r_sent_no_ok : ruOk r_sent_no := by
  intro ρ hl0 hp
  obtain ⟨S, t0, rfl, hl1⟩ := len_inv hl0
  obtain ⟨N, t1, rfl, hl2⟩ := len_inv hl1
  obtain ⟨m, t2, rfl, hl3⟩ := len_inv hl2
  have hl := List.eq_nil_of_length_eq_zero hl3
  subst hl
  have p1 := gg_get (fOk_hd hp)
  simp only [List.map, xv, fev, fvl, gtI, Int.one_mul, Int.add_zero, Int.zero_add, PR] at p1
  refine ⟨[], rfl, fOk_cons (p_put rfl ?_) fOk_nil⟩ <;> simp only [List.map, xv, fev, fvl, gtI, Int.one_mul, Int.add_zero, Int.zero_add, PR, List.append_nil]
  intro j j0 j1 j2
  omega
def r_sent_S : eRul := (6, [xP 4 [xv 1, xv 2, xv 3], xP 2 [xv 0, xv 1, xv 4, xv 5], xG (([(3, 1), (4, -1)], 0))], 0, [xP 4 [xv 0, xv 2, xv 3]])
theorem r_sent_S_ok : ruOk r_sent_S := by
  intro ρ hl0 hp
  obtain ⟨S', t0, rfl, hl1⟩ := len_inv hl0
  obtain ⟨S, t1, rfl, hl2⟩ := len_inv hl1
  obtain ⟨N, t2, rfl, hl3⟩ := len_inv hl2
  obtain ⟨m, t3, rfl, hl4⟩ := len_inv hl3
  obtain ⟨i, t4, rfl, hl5⟩ := len_inv hl4
  obtain ⟨s, t5, rfl, hl6⟩ := len_inv hl5
  have hl := List.eq_nil_of_length_eq_zero hl6
  subst hl
  have p1 := p_get (fOk_hd hp)
  have p2 := p_get (fOk_hd (fOk_tl hp))
  have p3 := gg_get (fOk_hd (fOk_tl (fOk_tl hp)))
  simp only [List.map, xv, fev, fvl, gtI, Int.one_mul, Int.add_zero, Int.zero_add, PR] at p1 p2 p3
  refine ⟨[], rfl, fOk_cons (p_put rfl ?_) fOk_nil⟩ <;> simp only [List.map, xv, fev, fvl, gtI, Int.one_mul, Int.add_zero, Int.zero_add, PR, List.append_nil]
  obtain ⟨u1, u2, u3, rfl⟩ := p2
  intro j j0 j1 j2
  rw [dcd_un u3 (by omega) (by omega)]
  exact p1 j j0 j1 j2
def r_sent_N : eRul := (6, [xP 4 [xv 2, xv 1, xv 3], xP 2 [xv 0, xv 1, xv 4, xv 5], xG (([(3, 1), (4, -1)], 0))], 0, [xP 4 [xv 2, xv 0, xv 3]])
theorem r_sent_N_ok : ruOk r_sent_N := by
  intro ρ hl0 hp
  obtain ⟨N', t0, rfl, hl1⟩ := len_inv hl0
  obtain ⟨N, t1, rfl, hl2⟩ := len_inv hl1
  obtain ⟨S, t2, rfl, hl3⟩ := len_inv hl2
  obtain ⟨m, t3, rfl, hl4⟩ := len_inv hl3
  obtain ⟨i, t4, rfl, hl5⟩ := len_inv hl4
  obtain ⟨s, t5, rfl, hl6⟩ := len_inv hl5
  have hl := List.eq_nil_of_length_eq_zero hl6
  subst hl
  have p1 := p_get (fOk_hd hp)
  have p2 := p_get (fOk_hd (fOk_tl hp))
  have p3 := gg_get (fOk_hd (fOk_tl (fOk_tl hp)))
  simp only [List.map, xv, fev, fvl, gtI, Int.one_mul, Int.add_zero, Int.zero_add, PR] at p1 p2 p3
  refine ⟨[], rfl, fOk_cons (p_put rfl ?_) fOk_nil⟩ <;> simp only [List.map, xv, fev, fvl, gtI, Int.one_mul, Int.add_zero, Int.zero_add, PR, List.append_nil]
  obtain ⟨u1, u2, u3, rfl⟩ := p2
  intro j j0 j1 j2
  rw [dcd_un u3 (by omega) (by omega)]
  exact p1 j j0 j1 j2
def r_sent_ext : eRul := (7, [xP 4 [xv 1, xv 3, xv 4], xP 2 [xv 0, xv 1, xv 4, xv 5], xP 2 [xv 2, xv 3, xv 4, xv 6], xP 20 [xv 5, xv 6]], 0, [xP 4 [xv 0, xv 2, ([(4, 1)], 1)]])
theorem r_sent_ext_ok : ruOk r_sent_ext := by
  intro ρ hl0 hp
  obtain ⟨S', t0, rfl, hl1⟩ := len_inv hl0
  obtain ⟨S, t1, rfl, hl2⟩ := len_inv hl1
  obtain ⟨N', t2, rfl, hl3⟩ := len_inv hl2
  obtain ⟨N, t3, rfl, hl4⟩ := len_inv hl3
  obtain ⟨m, t4, rfl, hl5⟩ := len_inv hl4
  obtain ⟨s, t5, rfl, hl6⟩ := len_inv hl5
  obtain ⟨n, t6, rfl, hl7⟩ := len_inv hl6
  have hl := List.eq_nil_of_length_eq_zero hl7
  subst hl
  have p1 := p_get (fOk_hd hp)
  have p2 := p_get (fOk_hd (fOk_tl hp))
  have p3 := p_get (fOk_hd (fOk_tl (fOk_tl hp)))
  have p4 := p_get (fOk_hd (fOk_tl (fOk_tl (fOk_tl hp))))
  simp only [List.map, xv, fev, fvl, gtI, Int.one_mul, Int.add_zero, Int.zero_add, PR] at p1 p2 p3 p4
  refine ⟨[], rfl, fOk_cons (p_put rfl ?_) fOk_nil⟩ <;> simp only [List.map, xv, fev, fvl, gtI, Int.one_mul, Int.add_zero, Int.zero_add, PR, List.append_nil]
  obtain ⟨u1, u2, u3, rfl⟩ := p2
  obtain ⟨w1, w2, w3, rfl⟩ := p3
  intro j j0 j1 j2
  by_cases e : j = m
  · rw [e, dcd_us u3 (by omega), dcd_us w3 (by omega)]
    exact p4
  · rw [dcd_un u3 (by omega) (by omega), dcd_un w3 (by omega) (by omega)]
    exact p1 j j0 (by omega) j2
def r_sent_le : eRul := (4, [xP 4 [xv 0, xv 1, xv 2], xG (([(2, -1), (3, 1)], 0))], 0, [xP 4 [xv 0, xv 1, xv 3]])
theorem r_sent_le_ok : ruOk r_sent_le := by
  intro ρ hl0 hp
  obtain ⟨S, t0, rfl, hl1⟩ := len_inv hl0
  obtain ⟨N, t1, rfl, hl2⟩ := len_inv hl1
  obtain ⟨m, t2, rfl, hl3⟩ := len_inv hl2
  obtain ⟨k, t3, rfl, hl4⟩ := len_inv hl3
  have hl := List.eq_nil_of_length_eq_zero hl4
  subst hl
  have p1 := p_get (fOk_hd hp)
  have p2 := gg_get (fOk_hd (fOk_tl hp))
  simp only [List.map, xv, fev, fvl, gtI, Int.one_mul, Int.add_zero, Int.zero_add, PR] at p1 p2
  refine ⟨[], rfl, fOk_cons (p_put rfl ?_) fOk_nil⟩ <;> simp only [List.map, xv, fev, fvl, gtI, Int.one_mul, Int.add_zero, Int.zero_add, PR, List.append_nil]
  intro j j0 j1 j2
  exact p1 j j0 (by omega) j2
def r_sent_use : eRul := (6, [xP 4 [xv 0, xv 1, xv 2], xP 1 [xv 4, xv 0, xv 3], xP 1 [xv 5, xv 1, xv 3], (.inl [[(19, 19)]], [xv 4]), xG (([(2, -1), (3, 1)], 1)), xG (([(3, 1)], -4095))], 0, [(.inl [[(0, 5)]], [xv 5])])
theorem r_sent_use_ok : ruOk r_sent_use := by
  intro ρ hl0 hp
  obtain ⟨S, t0, rfl, hl1⟩ := len_inv hl0
  obtain ⟨N, t1, rfl, hl2⟩ := len_inv hl1
  obtain ⟨m, t2, rfl, hl3⟩ := len_inv hl2
  obtain ⟨i, t3, rfl, hl4⟩ := len_inv hl3
  obtain ⟨s, t4, rfl, hl5⟩ := len_inv hl4
  obtain ⟨n, t5, rfl, hl6⟩ := len_inv hl5
  have hl := List.eq_nil_of_length_eq_zero hl6
  subst hl
  have p1 := p_get (fOk_hd hp)
  have p2 := p_get (fOk_hd (fOk_tl hp))
  have p3 := p_get (fOk_hd (fOk_tl (fOk_tl hp)))
  have p4 := i_get (fOk_hd (fOk_tl (fOk_tl (fOk_tl hp))))
  have p5 := gg_get (fOk_hd (fOk_tl (fOk_tl (fOk_tl (fOk_tl hp)))))
  have p6 := gg_get (fOk_hd (fOk_tl (fOk_tl (fOk_tl (fOk_tl (fOk_tl hp))))))
  simp only [List.map, xv, fev, fvl, gtI, Int.one_mul, Int.add_zero, Int.zero_add, PR] at p1 p2 p3 p4 p5 p6
  refine ⟨[], rfl, fOk_cons (i_put rfl ?_ ?_) fOk_nil⟩ <;> simp only [List.map, xv, fev, fvl, gtI, Int.one_mul, Int.add_zero, Int.zero_add, PR, List.append_nil]
  · obtain ⟨u1, u2⟩ := p2
    obtain ⟨u3, u4⟩ := p3
    have q := p1 i u1 (by omega) (by omega) (by omega)
    omega
  · obtain ⟨u1, u2⟩ := p2
    obtain ⟨u3, u4⟩ := p3
    have q := p1 i u1 (by omega) (by omega) (by omega)
    omega
def r_ring_no : eRul := (11, [xG (xv 1)], 0, [xP 6 [xv 0, xv 1, xv 2, xv 3, xv 4, xv 5, xv 6, xv 7, xv 8, xv 9, xv 10]])
theorem r_ring_no_ok : ruOk r_ring_no := by
  intro ρ hl0 hp
  obtain ⟨nx, t0, rfl, hl1⟩ := len_inv hl0
  obtain ⟨kp, t1, rfl, hl2⟩ := len_inv hl1
  obtain ⟨R, t2, rfl, hl3⟩ := len_inv hl2
  obtain ⟨z0, t3, rfl, hl4⟩ := len_inv hl3
  obtain ⟨z1, t4, rfl, hl5⟩ := len_inv hl4
  obtain ⟨z2, t5, rfl, hl6⟩ := len_inv hl5
  obtain ⟨z3, t6, rfl, hl7⟩ := len_inv hl6
  obtain ⟨z4, t7, rfl, hl8⟩ := len_inv hl7
  obtain ⟨z5, t8, rfl, hl9⟩ := len_inv hl8
  obtain ⟨z6, t9, rfl, hl10⟩ := len_inv hl9
  obtain ⟨z7, t10, rfl, hl11⟩ := len_inv hl10
  have hl := List.eq_nil_of_length_eq_zero hl11
  subst hl
  have p1 := gg_get (fOk_hd hp)
  simp only [List.map, xv, fev, fvl, gtI, Int.one_mul, Int.add_zero, Int.zero_add, PR] at p1
  refine ⟨[], rfl, fOk_cons (p_put rfl ?_) fOk_nil⟩ <;> simp only [List.map, xv, fev, fvl, gtI, Int.one_mul, Int.add_zero, Int.zero_add, PR, List.append_nil]
  intro k z hz n0 n1 hk
  omega
def r_ring_keep0 : eRul := (13, [xP 6 [xv 12, xv 0, xv 1, xv 4, xv 5, xv 6, xv 7, xv 8, xv 9, xv 10, xv 11], xP 3 [xv 2, ([], 0), ([], 6), ([], -1), ([(1, 1)], -1)], xG (([(0, -1), (3, 1)], -1)), (.inl [[(0, 0)]], [xv 12])], 0, [xP 6 [([], 1), xv 3, xv 1, xv 2, xv 5, xv 6, xv 7, xv 8, xv 9, xv 10, xv 11]])
theorem r_ring_keep0_ok : ruOk r_ring_keep0 := by
  intro ρ hl0 hp
  obtain ⟨kp, t0, rfl, hl1⟩ := len_inv hl0
  obtain ⟨R, t1, rfl, hl2⟩ := len_inv hl1
  obtain ⟨RO, t2, rfl, hl3⟩ := len_inv hl2
  obtain ⟨kp2, t3, rfl, hl4⟩ := len_inv hl3
  obtain ⟨z0, t4, rfl, hl5⟩ := len_inv hl4
  obtain ⟨z1, t5, rfl, hl6⟩ := len_inv hl5
  obtain ⟨z2, t6, rfl, hl7⟩ := len_inv hl6
  obtain ⟨z3, t7, rfl, hl8⟩ := len_inv hl7
  obtain ⟨z4, t8, rfl, hl9⟩ := len_inv hl8
  obtain ⟨z5, t9, rfl, hl10⟩ := len_inv hl9
  obtain ⟨z6, t10, rfl, hl11⟩ := len_inv hl10
  obtain ⟨z7, t11, rfl, hl12⟩ := len_inv hl11
  obtain ⟨nx, t12, rfl, hl13⟩ := len_inv hl12
  have hl := List.eq_nil_of_length_eq_zero hl13
  subst hl
  have p1 := p_get (fOk_hd hp)
  have p2 := p_get (fOk_hd (fOk_tl hp))
  have p3 := gg_get (fOk_hd (fOk_tl (fOk_tl hp)))
  have p4 := i_get (fOk_hd (fOk_tl (fOk_tl (fOk_tl hp))))
  simp only [List.map, xv, fev, fvl, gtI, Int.one_mul, Int.add_zero, Int.zero_add, PR] at p1 p2 p3 p4
  refine ⟨[], rfl, fOk_cons (p_put rfl ?_) fOk_nil⟩ <;> simp only [List.map, xv, fev, fvl, gtI, Int.one_mul, Int.add_zero, Int.zero_add, PR, List.append_nil]
  intro k z hz n0 n1 hk
  match k, hz, hk with
  | 0, hz, hk => (cases hz; exact p2)
  | 1, hz, hk => (cases hz; exact p1 1 _ rfl (by omega) (by omega) (by omega))
  | 2, hz, hk => (cases hz; exact p1 2 _ rfl (by omega) (by omega) (by omega))
  | 3, hz, hk => (cases hz; exact p1 3 _ rfl (by omega) (by omega) (by omega))
  | 4, hz, hk => (cases hz; exact p1 4 _ rfl (by omega) (by omega) (by omega))
  | 5, hz, hk => (cases hz; exact p1 5 _ rfl (by omega) (by omega) (by omega))
  | 6, hz, hk => (cases hz; exact p1 6 _ rfl (by omega) (by omega) (by omega))
  | 7, hz, hk => (cases hz; exact p1 7 _ rfl (by omega) (by omega) (by omega))
  | k + 8, hz, hk => cases hz
def r_ring_back0 : eRul := (11, [xP 6 [xv 10, xv 0, xv 1, xv 2, xv 3, xv 4, xv 5, xv 6, xv 7, xv 8, xv 9], xG (([(0, -1)], 1)), xG (([(0, 1)], -8)), (.inl [[(0, 0)]], [xv 10])], 0, [xP 3 [xv 9, ([], 0), ([], 6), ([], -1), ([(1, 1)], -1)], xP 6 [([], 7), ([(0, 1)], -1), xv 1, xv 2, xv 3, xv 4, xv 5, xv 6, xv 7, xv 8, xv 9]])
theorem r_ring_back0_ok : ruOk r_ring_back0 := by
  intro ρ hl0 hp
  obtain ⟨kp, t0, rfl, hl1⟩ := len_inv hl0
  obtain ⟨R, t1, rfl, hl2⟩ := len_inv hl1
  obtain ⟨z0, t2, rfl, hl3⟩ := len_inv hl2
  obtain ⟨z1, t3, rfl, hl4⟩ := len_inv hl3
  obtain ⟨z2, t4, rfl, hl5⟩ := len_inv hl4
  obtain ⟨z3, t5, rfl, hl6⟩ := len_inv hl5
  obtain ⟨z4, t6, rfl, hl7⟩ := len_inv hl6
  obtain ⟨z5, t7, rfl, hl8⟩ := len_inv hl7
  obtain ⟨z6, t8, rfl, hl9⟩ := len_inv hl8
  obtain ⟨z7, t9, rfl, hl10⟩ := len_inv hl9
  obtain ⟨nx, t10, rfl, hl11⟩ := len_inv hl10
  have hl := List.eq_nil_of_length_eq_zero hl11
  subst hl
  have p1 := p_get (fOk_hd hp)
  have p2 := gg_get (fOk_hd (fOk_tl hp))
  have p3 := gg_get (fOk_hd (fOk_tl (fOk_tl hp)))
  have p4 := i_get (fOk_hd (fOk_tl (fOk_tl (fOk_tl hp))))
  simp only [List.map, xv, fev, fvl, gtI, Int.one_mul, Int.add_zero, Int.zero_add, PR] at p1 p2 p3 p4
  refine ⟨[], rfl, fOk_cons (p_put rfl ?_) (fOk_cons (p_put rfl ?_) fOk_nil)⟩ <;> simp only [List.map, xv, fev, fvl, gtI, Int.one_mul, Int.add_zero, Int.zero_add, PR, List.append_nil]
  · exact p1 7 _ rfl (by omega) (by omega) (by omega)
  · intro k z hz n0 n1 hk
    match k, hz, hk with
    | 0, hz, hk => exact p1 0 _ hz (by omega) (by omega) (by omega)
    | 1, hz, hk => exact p1 1 _ hz (by omega) (by omega) (by omega)
    | 2, hz, hk => exact p1 2 _ hz (by omega) (by omega) (by omega)
    | 3, hz, hk => exact p1 3 _ hz (by omega) (by omega) (by omega)
    | 4, hz, hk => exact p1 4 _ hz (by omega) (by omega) (by omega)
    | 5, hz, hk => exact p1 5 _ hz (by omega) (by omega) (by omega)
    | 6, hz, hk => exact p1 6 _ hz (by omega) (by omega) (by omega)
    | 7, hz, hk => exact p1 7 _ hz (by omega) (by omega) (by omega)
    | k + 8, hz, hk => cases hz
def r_ring_keep1 : eRul := (13, [xP 6 [xv 12, xv 0, xv 1, xv 4, xv 5, xv 6, xv 7, xv 8, xv 9, xv 10, xv 11], xP 3 [xv 2, ([], 0), ([], 6), ([], -1), ([(1, 1)], -1)], xG (([(0, -1), (3, 1)], -1)), (.inl [[(1, 1)]], [xv 12])], 0, [xP 6 [([], 2), xv 3, xv 1, xv 4, xv 2, xv 6, xv 7, xv 8, xv 9, xv 10, xv 11]])
theorem r_ring_keep1_ok : ruOk r_ring_keep1 := by
  intro ρ hl0 hp
  obtain ⟨kp, t0, rfl, hl1⟩ := len_inv hl0
  obtain ⟨R, t1, rfl, hl2⟩ := len_inv hl1
  obtain ⟨RO, t2, rfl, hl3⟩ := len_inv hl2
  obtain ⟨kp2, t3, rfl, hl4⟩ := len_inv hl3
  obtain ⟨z0, t4, rfl, hl5⟩ := len_inv hl4
  obtain ⟨z1, t5, rfl, hl6⟩ := len_inv hl5
  obtain ⟨z2, t6, rfl, hl7⟩ := len_inv hl6
  obtain ⟨z3, t7, rfl, hl8⟩ := len_inv hl7
  obtain ⟨z4, t8, rfl, hl9⟩ := len_inv hl8
  obtain ⟨z5, t9, rfl, hl10⟩ := len_inv hl9
  obtain ⟨z6, t10, rfl, hl11⟩ := len_inv hl10
  obtain ⟨z7, t11, rfl, hl12⟩ := len_inv hl11
  obtain ⟨nx, t12, rfl, hl13⟩ := len_inv hl12
  have hl := List.eq_nil_of_length_eq_zero hl13
  subst hl
  have p1 := p_get (fOk_hd hp)
  have p2 := p_get (fOk_hd (fOk_tl hp))
  have p3 := gg_get (fOk_hd (fOk_tl (fOk_tl hp)))
  have p4 := i_get (fOk_hd (fOk_tl (fOk_tl (fOk_tl hp))))
  simp only [List.map, xv, fev, fvl, gtI, Int.one_mul, Int.add_zero, Int.zero_add, PR] at p1 p2 p3 p4
  refine ⟨[], rfl, fOk_cons (p_put rfl ?_) fOk_nil⟩ <;> simp only [List.map, xv, fev, fvl, gtI, Int.one_mul, Int.add_zero, Int.zero_add, PR, List.append_nil]
  intro k z hz n0 n1 hk
  match k, hz, hk with
  | 0, hz, hk => (cases hz; exact p1 0 _ rfl (by omega) (by omega) (by omega))
  | 1, hz, hk => (cases hz; exact p2)
  | 2, hz, hk => (cases hz; exact p1 2 _ rfl (by omega) (by omega) (by omega))
  | 3, hz, hk => (cases hz; exact p1 3 _ rfl (by omega) (by omega) (by omega))
  | 4, hz, hk => (cases hz; exact p1 4 _ rfl (by omega) (by omega) (by omega))
  | 5, hz, hk => (cases hz; exact p1 5 _ rfl (by omega) (by omega) (by omega))
  | 6, hz, hk => (cases hz; exact p1 6 _ rfl (by omega) (by omega) (by omega))
  | 7, hz, hk => (cases hz; exact p1 7 _ rfl (by omega) (by omega) (by omega))
  | k + 8, hz, hk => cases hz
def r_ring_back1 : eRul := (11, [xP 6 [xv 10, xv 0, xv 1, xv 2, xv 3, xv 4, xv 5, xv 6, xv 7, xv 8, xv 9], xG (([(0, -1)], 1)), xG (([(0, 1)], -8)), (.inl [[(1, 1)]], [xv 10])], 0, [xP 3 [xv 2, ([], 0), ([], 6), ([], -1), ([(1, 1)], -1)], xP 6 [([], 0), ([(0, 1)], -1), xv 1, xv 2, xv 3, xv 4, xv 5, xv 6, xv 7, xv 8, xv 9]])
theorem r_ring_back1_ok : ruOk r_ring_back1 := by
  intro ρ hl0 hp
  obtain ⟨kp, t0, rfl, hl1⟩ := len_inv hl0
  obtain ⟨R, t1, rfl, hl2⟩ := len_inv hl1
  obtain ⟨z0, t2, rfl, hl3⟩ := len_inv hl2
  obtain ⟨z1, t3, rfl, hl4⟩ := len_inv hl3
  obtain ⟨z2, t4, rfl, hl5⟩ := len_inv hl4
  obtain ⟨z3, t5, rfl, hl6⟩ := len_inv hl5
  obtain ⟨z4, t6, rfl, hl7⟩ := len_inv hl6
  obtain ⟨z5, t7, rfl, hl8⟩ := len_inv hl7
  obtain ⟨z6, t8, rfl, hl9⟩ := len_inv hl8
  obtain ⟨z7, t9, rfl, hl10⟩ := len_inv hl9
  obtain ⟨nx, t10, rfl, hl11⟩ := len_inv hl10
  have hl := List.eq_nil_of_length_eq_zero hl11
  subst hl
  have p1 := p_get (fOk_hd hp)
  have p2 := gg_get (fOk_hd (fOk_tl hp))
  have p3 := gg_get (fOk_hd (fOk_tl (fOk_tl hp)))
  have p4 := i_get (fOk_hd (fOk_tl (fOk_tl (fOk_tl hp))))
  simp only [List.map, xv, fev, fvl, gtI, Int.one_mul, Int.add_zero, Int.zero_add, PR] at p1 p2 p3 p4
  refine ⟨[], rfl, fOk_cons (p_put rfl ?_) (fOk_cons (p_put rfl ?_) fOk_nil)⟩ <;> simp only [List.map, xv, fev, fvl, gtI, Int.one_mul, Int.add_zero, Int.zero_add, PR, List.append_nil]
  · exact p1 0 _ rfl (by omega) (by omega) (by omega)
  · intro k z hz n0 n1 hk
    match k, hz, hk with
    | 0, hz, hk => exact p1 0 _ hz (by omega) (by omega) (by omega)
    | 1, hz, hk => exact p1 1 _ hz (by omega) (by omega) (by omega)
    | 2, hz, hk => exact p1 2 _ hz (by omega) (by omega) (by omega)
    | 3, hz, hk => exact p1 3 _ hz (by omega) (by omega) (by omega)
    | 4, hz, hk => exact p1 4 _ hz (by omega) (by omega) (by omega)
    | 5, hz, hk => exact p1 5 _ hz (by omega) (by omega) (by omega)
    | 6, hz, hk => exact p1 6 _ hz (by omega) (by omega) (by omega)
    | 7, hz, hk => exact p1 7 _ hz (by omega) (by omega) (by omega)
    | k + 8, hz, hk => cases hz
def r_ring_keep2 : eRul := (13, [xP 6 [xv 12, xv 0, xv 1, xv 4, xv 5, xv 6, xv 7, xv 8, xv 9, xv 10, xv 11], xP 3 [xv 2, ([], 0), ([], 6), ([], -1), ([(1, 1)], -1)], xG (([(0, -1), (3, 1)], -1)), (.inl [[(2, 2)]], [xv 12])], 0, [xP 6 [([], 3), xv 3, xv 1, xv 4, xv 5, xv 2, xv 7, xv 8, xv 9, xv 10, xv 11]])
theorem r_ring_keep2_ok : ruOk r_ring_keep2 := by
  intro ρ hl0 hp
  obtain ⟨kp, t0, rfl, hl1⟩ := len_inv hl0
  obtain ⟨R, t1, rfl, hl2⟩ := len_inv hl1
  obtain ⟨RO, t2, rfl, hl3⟩ := len_inv hl2
  obtain ⟨kp2, t3, rfl, hl4⟩ := len_inv hl3
  obtain ⟨z0, t4, rfl, hl5⟩ := len_inv hl4
  obtain ⟨z1, t5, rfl, hl6⟩ := len_inv hl5
  obtain ⟨z2, t6, rfl, hl7⟩ := len_inv hl6
  obtain ⟨z3, t7, rfl, hl8⟩ := len_inv hl7
  obtain ⟨z4, t8, rfl, hl9⟩ := len_inv hl8
  obtain ⟨z5, t9, rfl, hl10⟩ := len_inv hl9
  obtain ⟨z6, t10, rfl, hl11⟩ := len_inv hl10
  obtain ⟨z7, t11, rfl, hl12⟩ := len_inv hl11
  obtain ⟨nx, t12, rfl, hl13⟩ := len_inv hl12
  have hl := List.eq_nil_of_length_eq_zero hl13
  subst hl
  have p1 := p_get (fOk_hd hp)
  have p2 := p_get (fOk_hd (fOk_tl hp))
  have p3 := gg_get (fOk_hd (fOk_tl (fOk_tl hp)))
  have p4 := i_get (fOk_hd (fOk_tl (fOk_tl (fOk_tl hp))))
  simp only [List.map, xv, fev, fvl, gtI, Int.one_mul, Int.add_zero, Int.zero_add, PR] at p1 p2 p3 p4
  refine ⟨[], rfl, fOk_cons (p_put rfl ?_) fOk_nil⟩ <;> simp only [List.map, xv, fev, fvl, gtI, Int.one_mul, Int.add_zero, Int.zero_add, PR, List.append_nil]
  intro k z hz n0 n1 hk
  match k, hz, hk with
  | 0, hz, hk => (cases hz; exact p1 0 _ rfl (by omega) (by omega) (by omega))
  | 1, hz, hk => (cases hz; exact p1 1 _ rfl (by omega) (by omega) (by omega))
  | 2, hz, hk => (cases hz; exact p2)
  | 3, hz, hk => (cases hz; exact p1 3 _ rfl (by omega) (by omega) (by omega))
  | 4, hz, hk => (cases hz; exact p1 4 _ rfl (by omega) (by omega) (by omega))
  | 5, hz, hk => (cases hz; exact p1 5 _ rfl (by omega) (by omega) (by omega))
  | 6, hz, hk => (cases hz; exact p1 6 _ rfl (by omega) (by omega) (by omega))
  | 7, hz, hk => (cases hz; exact p1 7 _ rfl (by omega) (by omega) (by omega))
  | k + 8, hz, hk => cases hz
def r_ring_back2 : eRul := (11, [xP 6 [xv 10, xv 0, xv 1, xv 2, xv 3, xv 4, xv 5, xv 6, xv 7, xv 8, xv 9], xG (([(0, -1)], 1)), xG (([(0, 1)], -8)), (.inl [[(2, 2)]], [xv 10])], 0, [xP 3 [xv 3, ([], 0), ([], 6), ([], -1), ([(1, 1)], -1)], xP 6 [([], 1), ([(0, 1)], -1), xv 1, xv 2, xv 3, xv 4, xv 5, xv 6, xv 7, xv 8, xv 9]])
theorem r_ring_back2_ok : ruOk r_ring_back2 := by
  intro ρ hl0 hp
  obtain ⟨kp, t0, rfl, hl1⟩ := len_inv hl0
  obtain ⟨R, t1, rfl, hl2⟩ := len_inv hl1
  obtain ⟨z0, t2, rfl, hl3⟩ := len_inv hl2
  obtain ⟨z1, t3, rfl, hl4⟩ := len_inv hl3
  obtain ⟨z2, t4, rfl, hl5⟩ := len_inv hl4
  obtain ⟨z3, t5, rfl, hl6⟩ := len_inv hl5
  obtain ⟨z4, t6, rfl, hl7⟩ := len_inv hl6
  obtain ⟨z5, t7, rfl, hl8⟩ := len_inv hl7
  obtain ⟨z6, t8, rfl, hl9⟩ := len_inv hl8
  obtain ⟨z7, t9, rfl, hl10⟩ := len_inv hl9
  obtain ⟨nx, t10, rfl, hl11⟩ := len_inv hl10
  have hl := List.eq_nil_of_length_eq_zero hl11
  subst hl
  have p1 := p_get (fOk_hd hp)
  have p2 := gg_get (fOk_hd (fOk_tl hp))
  have p3 := gg_get (fOk_hd (fOk_tl (fOk_tl hp)))
  have p4 := i_get (fOk_hd (fOk_tl (fOk_tl (fOk_tl hp))))
  simp only [List.map, xv, fev, fvl, gtI, Int.one_mul, Int.add_zero, Int.zero_add, PR] at p1 p2 p3 p4
  refine ⟨[], rfl, fOk_cons (p_put rfl ?_) (fOk_cons (p_put rfl ?_) fOk_nil)⟩ <;> simp only [List.map, xv, fev, fvl, gtI, Int.one_mul, Int.add_zero, Int.zero_add, PR, List.append_nil]
  · exact p1 1 _ rfl (by omega) (by omega) (by omega)
  · intro k z hz n0 n1 hk
    match k, hz, hk with
    | 0, hz, hk => exact p1 0 _ hz (by omega) (by omega) (by omega)
    | 1, hz, hk => exact p1 1 _ hz (by omega) (by omega) (by omega)
    | 2, hz, hk => exact p1 2 _ hz (by omega) (by omega) (by omega)
    | 3, hz, hk => exact p1 3 _ hz (by omega) (by omega) (by omega)
    | 4, hz, hk => exact p1 4 _ hz (by omega) (by omega) (by omega)
    | 5, hz, hk => exact p1 5 _ hz (by omega) (by omega) (by omega)
    | 6, hz, hk => exact p1 6 _ hz (by omega) (by omega) (by omega)
    | 7, hz, hk => exact p1 7 _ hz (by omega) (by omega) (by omega)
    | k + 8, hz, hk => cases hz
def r_ring_keep3 : eRul := (13, [xP 6 [xv 12, xv 0, xv 1, xv 4, xv 5, xv 6, xv 7, xv 8, xv 9, xv 10, xv 11], xP 3 [xv 2, ([], 0), ([], 6), ([], -1), ([(1, 1)], -1)], xG (([(0, -1), (3, 1)], -1)), (.inl [[(3, 3)]], [xv 12])], 0, [xP 6 [([], 4), xv 3, xv 1, xv 4, xv 5, xv 6, xv 2, xv 8, xv 9, xv 10, xv 11]])
theorem r_ring_keep3_ok : ruOk r_ring_keep3 := by
  intro ρ hl0 hp
  obtain ⟨kp, t0, rfl, hl1⟩ := len_inv hl0
  obtain ⟨R, t1, rfl, hl2⟩ := len_inv hl1
  obtain ⟨RO, t2, rfl, hl3⟩ := len_inv hl2
  obtain ⟨kp2, t3, rfl, hl4⟩ := len_inv hl3
  obtain ⟨z0, t4, rfl, hl5⟩ := len_inv hl4
  obtain ⟨z1, t5, rfl, hl6⟩ := len_inv hl5
  obtain ⟨z2, t6, rfl, hl7⟩ := len_inv hl6
  obtain ⟨z3, t7, rfl, hl8⟩ := len_inv hl7
  obtain ⟨z4, t8, rfl, hl9⟩ := len_inv hl8
  obtain ⟨z5, t9, rfl, hl10⟩ := len_inv hl9
  obtain ⟨z6, t10, rfl, hl11⟩ := len_inv hl10
  obtain ⟨z7, t11, rfl, hl12⟩ := len_inv hl11
  obtain ⟨nx, t12, rfl, hl13⟩ := len_inv hl12
  have hl := List.eq_nil_of_length_eq_zero hl13
  subst hl
  have p1 := p_get (fOk_hd hp)
  have p2 := p_get (fOk_hd (fOk_tl hp))
  have p3 := gg_get (fOk_hd (fOk_tl (fOk_tl hp)))
  have p4 := i_get (fOk_hd (fOk_tl (fOk_tl (fOk_tl hp))))
  simp only [List.map, xv, fev, fvl, gtI, Int.one_mul, Int.add_zero, Int.zero_add, PR] at p1 p2 p3 p4
  refine ⟨[], rfl, fOk_cons (p_put rfl ?_) fOk_nil⟩ <;> simp only [List.map, xv, fev, fvl, gtI, Int.one_mul, Int.add_zero, Int.zero_add, PR, List.append_nil]
  intro k z hz n0 n1 hk
  match k, hz, hk with
  | 0, hz, hk => (cases hz; exact p1 0 _ rfl (by omega) (by omega) (by omega))
  | 1, hz, hk => (cases hz; exact p1 1 _ rfl (by omega) (by omega) (by omega))
  | 2, hz, hk => (cases hz; exact p1 2 _ rfl (by omega) (by omega) (by omega))
  | 3, hz, hk => (cases hz; exact p2)
  | 4, hz, hk => (cases hz; exact p1 4 _ rfl (by omega) (by omega) (by omega))
  | 5, hz, hk => (cases hz; exact p1 5 _ rfl (by omega) (by omega) (by omega))
  | 6, hz, hk => (cases hz; exact p1 6 _ rfl (by omega) (by omega) (by omega))
  | 7, hz, hk => (cases hz; exact p1 7 _ rfl (by omega) (by omega) (by omega))
  | k + 8, hz, hk => cases hz
def r_ring_back3 : eRul := (11, [xP 6 [xv 10, xv 0, xv 1, xv 2, xv 3, xv 4, xv 5, xv 6, xv 7, xv 8, xv 9], xG (([(0, -1)], 1)), xG (([(0, 1)], -8)), (.inl [[(3, 3)]], [xv 10])], 0, [xP 3 [xv 4, ([], 0), ([], 6), ([], -1), ([(1, 1)], -1)], xP 6 [([], 2), ([(0, 1)], -1), xv 1, xv 2, xv 3, xv 4, xv 5, xv 6, xv 7, xv 8, xv 9]])
theorem r_ring_back3_ok : ruOk r_ring_back3 := by
  intro ρ hl0 hp
  obtain ⟨kp, t0, rfl, hl1⟩ := len_inv hl0
  obtain ⟨R, t1, rfl, hl2⟩ := len_inv hl1
  obtain ⟨z0, t2, rfl, hl3⟩ := len_inv hl2
  obtain ⟨z1, t3, rfl, hl4⟩ := len_inv hl3
  obtain ⟨z2, t4, rfl, hl5⟩ := len_inv hl4
  obtain ⟨z3, t5, rfl, hl6⟩ := len_inv hl5
  obtain ⟨z4, t6, rfl, hl7⟩ := len_inv hl6
  obtain ⟨z5, t7, rfl, hl8⟩ := len_inv hl7
  obtain ⟨z6, t8, rfl, hl9⟩ := len_inv hl8
  obtain ⟨z7, t9, rfl, hl10⟩ := len_inv hl9
  obtain ⟨nx, t10, rfl, hl11⟩ := len_inv hl10
  have hl := List.eq_nil_of_length_eq_zero hl11
  subst hl
  have p1 := p_get (fOk_hd hp)
  have p2 := gg_get (fOk_hd (fOk_tl hp))
  have p3 := gg_get (fOk_hd (fOk_tl (fOk_tl hp)))
  have p4 := i_get (fOk_hd (fOk_tl (fOk_tl (fOk_tl hp))))
  simp only [List.map, xv, fev, fvl, gtI, Int.one_mul, Int.add_zero, Int.zero_add, PR] at p1 p2 p3 p4
  refine ⟨[], rfl, fOk_cons (p_put rfl ?_) (fOk_cons (p_put rfl ?_) fOk_nil)⟩ <;> simp only [List.map, xv, fev, fvl, gtI, Int.one_mul, Int.add_zero, Int.zero_add, PR, List.append_nil]
  · exact p1 2 _ rfl (by omega) (by omega) (by omega)
  · intro k z hz n0 n1 hk
    match k, hz, hk with
    | 0, hz, hk => exact p1 0 _ hz (by omega) (by omega) (by omega)
    | 1, hz, hk => exact p1 1 _ hz (by omega) (by omega) (by omega)
    | 2, hz, hk => exact p1 2 _ hz (by omega) (by omega) (by omega)
    | 3, hz, hk => exact p1 3 _ hz (by omega) (by omega) (by omega)
    | 4, hz, hk => exact p1 4 _ hz (by omega) (by omega) (by omega)
    | 5, hz, hk => exact p1 5 _ hz (by omega) (by omega) (by omega)
    | 6, hz, hk => exact p1 6 _ hz (by omega) (by omega) (by omega)
    | 7, hz, hk => exact p1 7 _ hz (by omega) (by omega) (by omega)
    | k + 8, hz, hk => cases hz
def r_ring_keep4 : eRul := (13, [xP 6 [xv 12, xv 0, xv 1, xv 4, xv 5, xv 6, xv 7, xv 8, xv 9, xv 10, xv 11], xP 3 [xv 2, ([], 0), ([], 6), ([], -1), ([(1, 1)], -1)], xG (([(0, -1), (3, 1)], -1)), (.inl [[(4, 4)]], [xv 12])], 0, [xP 6 [([], 5), xv 3, xv 1, xv 4, xv 5, xv 6, xv 7, xv 2, xv 9, xv 10, xv 11]])
theorem r_ring_keep4_ok : ruOk r_ring_keep4 := by
  intro ρ hl0 hp
  obtain ⟨kp, t0, rfl, hl1⟩ := len_inv hl0
  obtain ⟨R, t1, rfl, hl2⟩ := len_inv hl1
  obtain ⟨RO, t2, rfl, hl3⟩ := len_inv hl2
  obtain ⟨kp2, t3, rfl, hl4⟩ := len_inv hl3
  obtain ⟨z0, t4, rfl, hl5⟩ := len_inv hl4
  obtain ⟨z1, t5, rfl, hl6⟩ := len_inv hl5
  obtain ⟨z2, t6, rfl, hl7⟩ := len_inv hl6
  obtain ⟨z3, t7, rfl, hl8⟩ := len_inv hl7
  obtain ⟨z4, t8, rfl, hl9⟩ := len_inv hl8
  obtain ⟨z5, t9, rfl, hl10⟩ := len_inv hl9
  obtain ⟨z6, t10, rfl, hl11⟩ := len_inv hl10
  obtain ⟨z7, t11, rfl, hl12⟩ := len_inv hl11
  obtain ⟨nx, t12, rfl, hl13⟩ := len_inv hl12
  have hl := List.eq_nil_of_length_eq_zero hl13
  subst hl
  have p1 := p_get (fOk_hd hp)
  have p2 := p_get (fOk_hd (fOk_tl hp))
  have p3 := gg_get (fOk_hd (fOk_tl (fOk_tl hp)))
  have p4 := i_get (fOk_hd (fOk_tl (fOk_tl (fOk_tl hp))))
  simp only [List.map, xv, fev, fvl, gtI, Int.one_mul, Int.add_zero, Int.zero_add, PR] at p1 p2 p3 p4
  refine ⟨[], rfl, fOk_cons (p_put rfl ?_) fOk_nil⟩ <;> simp only [List.map, xv, fev, fvl, gtI, Int.one_mul, Int.add_zero, Int.zero_add, PR, List.append_nil]
  intro k z hz n0 n1 hk
  match k, hz, hk with
  | 0, hz, hk => (cases hz; exact p1 0 _ rfl (by omega) (by omega) (by omega))
  | 1, hz, hk => (cases hz; exact p1 1 _ rfl (by omega) (by omega) (by omega))
  | 2, hz, hk => (cases hz; exact p1 2 _ rfl (by omega) (by omega) (by omega))
  | 3, hz, hk => (cases hz; exact p1 3 _ rfl (by omega) (by omega) (by omega))
  | 4, hz, hk => (cases hz; exact p2)
  | 5, hz, hk => (cases hz; exact p1 5 _ rfl (by omega) (by omega) (by omega))
  | 6, hz, hk => (cases hz; exact p1 6 _ rfl (by omega) (by omega) (by omega))
  | 7, hz, hk => (cases hz; exact p1 7 _ rfl (by omega) (by omega) (by omega))
  | k + 8, hz, hk => cases hz
def r_ring_back4 : eRul := (11, [xP 6 [xv 10, xv 0, xv 1, xv 2, xv 3, xv 4, xv 5, xv 6, xv 7, xv 8, xv 9], xG (([(0, -1)], 1)), xG (([(0, 1)], -8)), (.inl [[(4, 4)]], [xv 10])], 0, [xP 3 [xv 5, ([], 0), ([], 6), ([], -1), ([(1, 1)], -1)], xP 6 [([], 3), ([(0, 1)], -1), xv 1, xv 2, xv 3, xv 4, xv 5, xv 6, xv 7, xv 8, xv 9]])
theorem r_ring_back4_ok : ruOk r_ring_back4 := by
  intro ρ hl0 hp
  obtain ⟨kp, t0, rfl, hl1⟩ := len_inv hl0
  obtain ⟨R, t1, rfl, hl2⟩ := len_inv hl1
  obtain ⟨z0, t2, rfl, hl3⟩ := len_inv hl2
  obtain ⟨z1, t3, rfl, hl4⟩ := len_inv hl3
  obtain ⟨z2, t4, rfl, hl5⟩ := len_inv hl4
  obtain ⟨z3, t5, rfl, hl6⟩ := len_inv hl5
  obtain ⟨z4, t6, rfl, hl7⟩ := len_inv hl6
  obtain ⟨z5, t7, rfl, hl8⟩ := len_inv hl7
  obtain ⟨z6, t8, rfl, hl9⟩ := len_inv hl8
  obtain ⟨z7, t9, rfl, hl10⟩ := len_inv hl9
  obtain ⟨nx, t10, rfl, hl11⟩ := len_inv hl10
  have hl := List.eq_nil_of_length_eq_zero hl11
  subst hl
  have p1 := p_get (fOk_hd hp)
  have p2 := gg_get (fOk_hd (fOk_tl hp))
  have p3 := gg_get (fOk_hd (fOk_tl (fOk_tl hp)))
  have p4 := i_get (fOk_hd (fOk_tl (fOk_tl (fOk_tl hp))))
  simp only [List.map, xv, fev, fvl, gtI, Int.one_mul, Int.add_zero, Int.zero_add, PR] at p1 p2 p3 p4
  refine ⟨[], rfl, fOk_cons (p_put rfl ?_) (fOk_cons (p_put rfl ?_) fOk_nil)⟩ <;> simp only [List.map, xv, fev, fvl, gtI, Int.one_mul, Int.add_zero, Int.zero_add, PR, List.append_nil]
  · exact p1 3 _ rfl (by omega) (by omega) (by omega)
  · intro k z hz n0 n1 hk
    match k, hz, hk with
    | 0, hz, hk => exact p1 0 _ hz (by omega) (by omega) (by omega)
    | 1, hz, hk => exact p1 1 _ hz (by omega) (by omega) (by omega)
    | 2, hz, hk => exact p1 2 _ hz (by omega) (by omega) (by omega)
    | 3, hz, hk => exact p1 3 _ hz (by omega) (by omega) (by omega)
    | 4, hz, hk => exact p1 4 _ hz (by omega) (by omega) (by omega)
    | 5, hz, hk => exact p1 5 _ hz (by omega) (by omega) (by omega)
    | 6, hz, hk => exact p1 6 _ hz (by omega) (by omega) (by omega)
    | 7, hz, hk => exact p1 7 _ hz (by omega) (by omega) (by omega)
    | k + 8, hz, hk => cases hz
def r_ring_keep5 : eRul := (13, [xP 6 [xv 12, xv 0, xv 1, xv 4, xv 5, xv 6, xv 7, xv 8, xv 9, xv 10, xv 11], xP 3 [xv 2, ([], 0), ([], 6), ([], -1), ([(1, 1)], -1)], xG (([(0, -1), (3, 1)], -1)), (.inl [[(5, 5)]], [xv 12])], 0, [xP 6 [([], 6), xv 3, xv 1, xv 4, xv 5, xv 6, xv 7, xv 8, xv 2, xv 10, xv 11]])
theorem r_ring_keep5_ok : ruOk r_ring_keep5 := by
  intro ρ hl0 hp
  obtain ⟨kp, t0, rfl, hl1⟩ := len_inv hl0
  obtain ⟨R, t1, rfl, hl2⟩ := len_inv hl1
  obtain ⟨RO, t2, rfl, hl3⟩ := len_inv hl2
  obtain ⟨kp2, t3, rfl, hl4⟩ := len_inv hl3
  obtain ⟨z0, t4, rfl, hl5⟩ := len_inv hl4
  obtain ⟨z1, t5, rfl, hl6⟩ := len_inv hl5
  obtain ⟨z2, t6, rfl, hl7⟩ := len_inv hl6
  obtain ⟨z3, t7, rfl, hl8⟩ := len_inv hl7
  obtain ⟨z4, t8, rfl, hl9⟩ := len_inv hl8
  obtain ⟨z5, t9, rfl, hl10⟩ := len_inv hl9
  obtain ⟨z6, t10, rfl, hl11⟩ := len_inv hl10
  obtain ⟨z7, t11, rfl, hl12⟩ := len_inv hl11
  obtain ⟨nx, t12, rfl, hl13⟩ := len_inv hl12
  have hl := List.eq_nil_of_length_eq_zero hl13
  subst hl
  have p1 := p_get (fOk_hd hp)
  have p2 := p_get (fOk_hd (fOk_tl hp))
  have p3 := gg_get (fOk_hd (fOk_tl (fOk_tl hp)))
  have p4 := i_get (fOk_hd (fOk_tl (fOk_tl (fOk_tl hp))))
  simp only [List.map, xv, fev, fvl, gtI, Int.one_mul, Int.add_zero, Int.zero_add, PR] at p1 p2 p3 p4
  refine ⟨[], rfl, fOk_cons (p_put rfl ?_) fOk_nil⟩ <;> simp only [List.map, xv, fev, fvl, gtI, Int.one_mul, Int.add_zero, Int.zero_add, PR, List.append_nil]
  intro k z hz n0 n1 hk
  match k, hz, hk with
  | 0, hz, hk => (cases hz; exact p1 0 _ rfl (by omega) (by omega) (by omega))
  | 1, hz, hk => (cases hz; exact p1 1 _ rfl (by omega) (by omega) (by omega))
  | 2, hz, hk => (cases hz; exact p1 2 _ rfl (by omega) (by omega) (by omega))
  | 3, hz, hk => (cases hz; exact p1 3 _ rfl (by omega) (by omega) (by omega))
  | 4, hz, hk => (cases hz; exact p1 4 _ rfl (by omega) (by omega) (by omega))
  | 5, hz, hk => (cases hz; exact p2)
  | 6, hz, hk => (cases hz; exact p1 6 _ rfl (by omega) (by omega) (by omega))
  | 7, hz, hk => (cases hz; exact p1 7 _ rfl (by omega) (by omega) (by omega))
  | k + 8, hz, hk => cases hz
def r_ring_back5 : eRul := (11, [xP 6 [xv 10, xv 0, xv 1, xv 2, xv 3, xv 4, xv 5, xv 6, xv 7, xv 8, xv 9], xG (([(0, -1)], 1)), xG (([(0, 1)], -8)), (.inl [[(5, 5)]], [xv 10])], 0, [xP 3 [xv 6, ([], 0), ([], 6), ([], -1), ([(1, 1)], -1)], xP 6 [([], 4), ([(0, 1)], -1), xv 1, xv 2, xv 3, xv 4, xv 5, xv 6, xv 7, xv 8, xv 9]])
theorem r_ring_back5_ok : ruOk r_ring_back5 := by
  intro ρ hl0 hp
  obtain ⟨kp, t0, rfl, hl1⟩ := len_inv hl0
  obtain ⟨R, t1, rfl, hl2⟩ := len_inv hl1
  obtain ⟨z0, t2, rfl, hl3⟩ := len_inv hl2
  obtain ⟨z1, t3, rfl, hl4⟩ := len_inv hl3
  obtain ⟨z2, t4, rfl, hl5⟩ := len_inv hl4
  obtain ⟨z3, t5, rfl, hl6⟩ := len_inv hl5
  obtain ⟨z4, t6, rfl, hl7⟩ := len_inv hl6
  obtain ⟨z5, t7, rfl, hl8⟩ := len_inv hl7
  obtain ⟨z6, t8, rfl, hl9⟩ := len_inv hl8
  obtain ⟨z7, t9, rfl, hl10⟩ := len_inv hl9
  obtain ⟨nx, t10, rfl, hl11⟩ := len_inv hl10
  have hl := List.eq_nil_of_length_eq_zero hl11
  subst hl
  have p1 := p_get (fOk_hd hp)
  have p2 := gg_get (fOk_hd (fOk_tl hp))
  have p3 := gg_get (fOk_hd (fOk_tl (fOk_tl hp)))
  have p4 := i_get (fOk_hd (fOk_tl (fOk_tl (fOk_tl hp))))
  simp only [List.map, xv, fev, fvl, gtI, Int.one_mul, Int.add_zero, Int.zero_add, PR] at p1 p2 p3 p4
  refine ⟨[], rfl, fOk_cons (p_put rfl ?_) (fOk_cons (p_put rfl ?_) fOk_nil)⟩ <;> simp only [List.map, xv, fev, fvl, gtI, Int.one_mul, Int.add_zero, Int.zero_add, PR, List.append_nil]
  · exact p1 4 _ rfl (by omega) (by omega) (by omega)
  · intro k z hz n0 n1 hk
    match k, hz, hk with
    | 0, hz, hk => exact p1 0 _ hz (by omega) (by omega) (by omega)
    | 1, hz, hk => exact p1 1 _ hz (by omega) (by omega) (by omega)
    | 2, hz, hk => exact p1 2 _ hz (by omega) (by omega) (by omega)
    | 3, hz, hk => exact p1 3 _ hz (by omega) (by omega) (by omega)
    | 4, hz, hk => exact p1 4 _ hz (by omega) (by omega) (by omega)
    | 5, hz, hk => exact p1 5 _ hz (by omega) (by omega) (by omega)
    | 6, hz, hk => exact p1 6 _ hz (by omega) (by omega) (by omega)
    | 7, hz, hk => exact p1 7 _ hz (by omega) (by omega) (by omega)
    | k + 8, hz, hk => cases hz
def r_ring_keep6 : eRul := (13, [xP 6 [xv 12, xv 0, xv 1, xv 4, xv 5, xv 6, xv 7, xv 8, xv 9, xv 10, xv 11], xP 3 [xv 2, ([], 0), ([], 6), ([], -1), ([(1, 1)], -1)], xG (([(0, -1), (3, 1)], -1)), (.inl [[(6, 6)]], [xv 12])], 0, [xP 6 [([], 7), xv 3, xv 1, xv 4, xv 5, xv 6, xv 7, xv 8, xv 9, xv 2, xv 11]])
theorem r_ring_keep6_ok : ruOk r_ring_keep6 := by
  intro ρ hl0 hp
  obtain ⟨kp, t0, rfl, hl1⟩ := len_inv hl0
  obtain ⟨R, t1, rfl, hl2⟩ := len_inv hl1
  obtain ⟨RO, t2, rfl, hl3⟩ := len_inv hl2
  obtain ⟨kp2, t3, rfl, hl4⟩ := len_inv hl3
  obtain ⟨z0, t4, rfl, hl5⟩ := len_inv hl4
  obtain ⟨z1, t5, rfl, hl6⟩ := len_inv hl5
  obtain ⟨z2, t6, rfl, hl7⟩ := len_inv hl6
  obtain ⟨z3, t7, rfl, hl8⟩ := len_inv hl7
  obtain ⟨z4, t8, rfl, hl9⟩ := len_inv hl8
  obtain ⟨z5, t9, rfl, hl10⟩ := len_inv hl9
  obtain ⟨z6, t10, rfl, hl11⟩ := len_inv hl10
  obtain ⟨z7, t11, rfl, hl12⟩ := len_inv hl11
  obtain ⟨nx, t12, rfl, hl13⟩ := len_inv hl12
  have hl := List.eq_nil_of_length_eq_zero hl13
  subst hl
  have p1 := p_get (fOk_hd hp)
  have p2 := p_get (fOk_hd (fOk_tl hp))
  have p3 := gg_get (fOk_hd (fOk_tl (fOk_tl hp)))
  have p4 := i_get (fOk_hd (fOk_tl (fOk_tl (fOk_tl hp))))
  simp only [List.map, xv, fev, fvl, gtI, Int.one_mul, Int.add_zero, Int.zero_add, PR] at p1 p2 p3 p4
  refine ⟨[], rfl, fOk_cons (p_put rfl ?_) fOk_nil⟩ <;> simp only [List.map, xv, fev, fvl, gtI, Int.one_mul, Int.add_zero, Int.zero_add, PR, List.append_nil]
  intro k z hz n0 n1 hk
  match k, hz, hk with
  | 0, hz, hk => (cases hz; exact p1 0 _ rfl (by omega) (by omega) (by omega))
  | 1, hz, hk => (cases hz; exact p1 1 _ rfl (by omega) (by omega) (by omega))
  | 2, hz, hk => (cases hz; exact p1 2 _ rfl (by omega) (by omega) (by omega))
  | 3, hz, hk => (cases hz; exact p1 3 _ rfl (by omega) (by omega) (by omega))
  | 4, hz, hk => (cases hz; exact p1 4 _ rfl (by omega) (by omega) (by omega))
  | 5, hz, hk => (cases hz; exact p1 5 _ rfl (by omega) (by omega) (by omega))
  | 6, hz, hk => (cases hz; exact p2)
  | 7, hz, hk => (cases hz; exact p1 7 _ rfl (by omega) (by omega) (by omega))
  | k + 8, hz, hk => cases hz
def r_ring_back6 : eRul := (11, [xP 6 [xv 10, xv 0, xv 1, xv 2, xv 3, xv 4, xv 5, xv 6, xv 7, xv 8, xv 9], xG (([(0, -1)], 1)), xG (([(0, 1)], -8)), (.inl [[(6, 6)]], [xv 10])], 0, [xP 3 [xv 7, ([], 0), ([], 6), ([], -1), ([(1, 1)], -1)], xP 6 [([], 5), ([(0, 1)], -1), xv 1, xv 2, xv 3, xv 4, xv 5, xv 6, xv 7, xv 8, xv 9]])
theorem r_ring_back6_ok : ruOk r_ring_back6 := by
  intro ρ hl0 hp
  obtain ⟨kp, t0, rfl, hl1⟩ := len_inv hl0
  obtain ⟨R, t1, rfl, hl2⟩ := len_inv hl1
  obtain ⟨z0, t2, rfl, hl3⟩ := len_inv hl2
  obtain ⟨z1, t3, rfl, hl4⟩ := len_inv hl3
  obtain ⟨z2, t4, rfl, hl5⟩ := len_inv hl4
  obtain ⟨z3, t5, rfl, hl6⟩ := len_inv hl5
  obtain ⟨z4, t6, rfl, hl7⟩ := len_inv hl6
  obtain ⟨z5, t7, rfl, hl8⟩ := len_inv hl7
  obtain ⟨z6, t8, rfl, hl9⟩ := len_inv hl8
  obtain ⟨z7, t9, rfl, hl10⟩ := len_inv hl9
  obtain ⟨nx, t10, rfl, hl11⟩ := len_inv hl10
  have hl := List.eq_nil_of_length_eq_zero hl11
  subst hl
  have p1 := p_get (fOk_hd hp)
  have p2 := gg_get (fOk_hd (fOk_tl hp))
  have p3 := gg_get (fOk_hd (fOk_tl (fOk_tl hp)))
  have p4 := i_get (fOk_hd (fOk_tl (fOk_tl (fOk_tl hp))))
  simp only [List.map, xv, fev, fvl, gtI, Int.one_mul, Int.add_zero, Int.zero_add, PR] at p1 p2 p3 p4
  refine ⟨[], rfl, fOk_cons (p_put rfl ?_) (fOk_cons (p_put rfl ?_) fOk_nil)⟩ <;> simp only [List.map, xv, fev, fvl, gtI, Int.one_mul, Int.add_zero, Int.zero_add, PR, List.append_nil]
  · exact p1 5 _ rfl (by omega) (by omega) (by omega)
  · intro k z hz n0 n1 hk
    match k, hz, hk with
    | 0, hz, hk => exact p1 0 _ hz (by omega) (by omega) (by omega)
    | 1, hz, hk => exact p1 1 _ hz (by omega) (by omega) (by omega)
    | 2, hz, hk => exact p1 2 _ hz (by omega) (by omega) (by omega)
    | 3, hz, hk => exact p1 3 _ hz (by omega) (by omega) (by omega)
    | 4, hz, hk => exact p1 4 _ hz (by omega) (by omega) (by omega)
    | 5, hz, hk => exact p1 5 _ hz (by omega) (by omega) (by omega)
    | 6, hz, hk => exact p1 6 _ hz (by omega) (by omega) (by omega)
    | 7, hz, hk => exact p1 7 _ hz (by omega) (by omega) (by omega)
    | k + 8, hz, hk => cases hz
def r_ring_keep7 : eRul := (13, [xP 6 [xv 12, xv 0, xv 1, xv 4, xv 5, xv 6, xv 7, xv 8, xv 9, xv 10, xv 11], xP 3 [xv 2, ([], 0), ([], 6), ([], -1), ([(1, 1)], -1)], xG (([(0, -1), (3, 1)], -1)), (.inl [[(7, 7)]], [xv 12])], 0, [xP 6 [([], 0), xv 3, xv 1, xv 4, xv 5, xv 6, xv 7, xv 8, xv 9, xv 10, xv 2]])
theorem r_ring_keep7_ok : ruOk r_ring_keep7 := by
  intro ρ hl0 hp
  obtain ⟨kp, t0, rfl, hl1⟩ := len_inv hl0
  obtain ⟨R, t1, rfl, hl2⟩ := len_inv hl1
  obtain ⟨RO, t2, rfl, hl3⟩ := len_inv hl2
  obtain ⟨kp2, t3, rfl, hl4⟩ := len_inv hl3
  obtain ⟨z0, t4, rfl, hl5⟩ := len_inv hl4
  obtain ⟨z1, t5, rfl, hl6⟩ := len_inv hl5
  obtain ⟨z2, t6, rfl, hl7⟩ := len_inv hl6
  obtain ⟨z3, t7, rfl, hl8⟩ := len_inv hl7
  obtain ⟨z4, t8, rfl, hl9⟩ := len_inv hl8
  obtain ⟨z5, t9, rfl, hl10⟩ := len_inv hl9
  obtain ⟨z6, t10, rfl, hl11⟩ := len_inv hl10
  obtain ⟨z7, t11, rfl, hl12⟩ := len_inv hl11
  obtain ⟨nx, t12, rfl, hl13⟩ := len_inv hl12
  have hl := List.eq_nil_of_length_eq_zero hl13
  subst hl
  have p1 := p_get (fOk_hd hp)
  have p2 := p_get (fOk_hd (fOk_tl hp))
  have p3 := gg_get (fOk_hd (fOk_tl (fOk_tl hp)))
  have p4 := i_get (fOk_hd (fOk_tl (fOk_tl (fOk_tl hp))))
  simp only [List.map, xv, fev, fvl, gtI, Int.one_mul, Int.add_zero, Int.zero_add, PR] at p1 p2 p3 p4
  refine ⟨[], rfl, fOk_cons (p_put rfl ?_) fOk_nil⟩ <;> simp only [List.map, xv, fev, fvl, gtI, Int.one_mul, Int.add_zero, Int.zero_add, PR, List.append_nil]
  intro k z hz n0 n1 hk
  match k, hz, hk with
  | 0, hz, hk => (cases hz; exact p1 0 _ rfl (by omega) (by omega) (by omega))
  | 1, hz, hk => (cases hz; exact p1 1 _ rfl (by omega) (by omega) (by omega))
  | 2, hz, hk => (cases hz; exact p1 2 _ rfl (by omega) (by omega) (by omega))
  | 3, hz, hk => (cases hz; exact p1 3 _ rfl (by omega) (by omega) (by omega))
  | 4, hz, hk => (cases hz; exact p1 4 _ rfl (by omega) (by omega) (by omega))
  | 5, hz, hk => (cases hz; exact p1 5 _ rfl (by omega) (by omega) (by omega))
  | 6, hz, hk => (cases hz; exact p1 6 _ rfl (by omega) (by omega) (by omega))
  | 7, hz, hk => (cases hz; exact p2)
  | k + 8, hz, hk => cases hz
def r_ring_back7 : eRul := (11, [xP 6 [xv 10, xv 0, xv 1, xv 2, xv 3, xv 4, xv 5, xv 6, xv 7, xv 8, xv 9], xG (([(0, -1)], 1)), xG (([(0, 1)], -8)), (.inl [[(7, 7)]], [xv 10])], 0, [xP 3 [xv 8, ([], 0), ([], 6), ([], -1), ([(1, 1)], -1)], xP 6 [([], 6), ([(0, 1)], -1), xv 1, xv 2, xv 3, xv 4, xv 5, xv 6, xv 7, xv 8, xv 9]])
theorem r_ring_back7_ok : ruOk r_ring_back7 := by
  intro ρ hl0 hp
  obtain ⟨kp, t0, rfl, hl1⟩ := len_inv hl0
  obtain ⟨R, t1, rfl, hl2⟩ := len_inv hl1
  obtain ⟨z0, t2, rfl, hl3⟩ := len_inv hl2
  obtain ⟨z1, t3, rfl, hl4⟩ := len_inv hl3
  obtain ⟨z2, t4, rfl, hl5⟩ := len_inv hl4
  obtain ⟨z3, t5, rfl, hl6⟩ := len_inv hl5
  obtain ⟨z4, t6, rfl, hl7⟩ := len_inv hl6
  obtain ⟨z5, t7, rfl, hl8⟩ := len_inv hl7
  obtain ⟨z6, t8, rfl, hl9⟩ := len_inv hl8
  obtain ⟨z7, t9, rfl, hl10⟩ := len_inv hl9
  obtain ⟨nx, t10, rfl, hl11⟩ := len_inv hl10
  have hl := List.eq_nil_of_length_eq_zero hl11
  subst hl
  have p1 := p_get (fOk_hd hp)
  have p2 := gg_get (fOk_hd (fOk_tl hp))
  have p3 := gg_get (fOk_hd (fOk_tl (fOk_tl hp)))
  have p4 := i_get (fOk_hd (fOk_tl (fOk_tl (fOk_tl hp))))
  simp only [List.map, xv, fev, fvl, gtI, Int.one_mul, Int.add_zero, Int.zero_add, PR] at p1 p2 p3 p4
  refine ⟨[], rfl, fOk_cons (p_put rfl ?_) (fOk_cons (p_put rfl ?_) fOk_nil)⟩ <;> simp only [List.map, xv, fev, fvl, gtI, Int.one_mul, Int.add_zero, Int.zero_add, PR, List.append_nil]
  · exact p1 6 _ rfl (by omega) (by omega) (by omega)
  · intro k z hz n0 n1 hk
    match k, hz, hk with
    | 0, hz, hk => exact p1 0 _ hz (by omega) (by omega) (by omega)
    | 1, hz, hk => exact p1 1 _ hz (by omega) (by omega) (by omega)
    | 2, hz, hk => exact p1 2 _ hz (by omega) (by omega) (by omega)
    | 3, hz, hk => exact p1 3 _ hz (by omega) (by omega) (by omega)
    | 4, hz, hk => exact p1 4 _ hz (by omega) (by omega) (by omega)
    | 5, hz, hk => exact p1 5 _ hz (by omega) (by omega) (by omega)
    | 6, hz, hk => exact p1 6 _ hz (by omega) (by omega) (by omega)
    | 7, hz, hk => exact p1 7 _ hz (by omega) (by omega) (by omega)
    | k + 8, hz, hk => cases hz
def r_tree_out1 : eRul := (5, [xP 7 [xv 1, xv 4], xP 2 [xv 0, xv 1, xv 2, xv 3], xG (([(2, 1), (4, -1)], 1)), xG (([(4, 1)], -3900))], 0, [xP 7 [xv 0, xv 4]])
theorem r_tree_out1_ok : ruOk r_tree_out1 := by
  intro ρ hl0 hp
  obtain ⟨z', t0, rfl, hl1⟩ := len_inv hl0
  obtain ⟨z, t1, rfl, hl2⟩ := len_inv hl1
  obtain ⟨i, t2, rfl, hl3⟩ := len_inv hl2
  obtain ⟨v, t3, rfl, hl4⟩ := len_inv hl3
  obtain ⟨b, t4, rfl, hl5⟩ := len_inv hl4
  have hl := List.eq_nil_of_length_eq_zero hl5
  subst hl
  have p1 := p_get (fOk_hd hp)
  have p2 := p_get (fOk_hd (fOk_tl hp))
  have p3 := gg_get (fOk_hd (fOk_tl (fOk_tl hp)))
  have p4 := gg_get (fOk_hd (fOk_tl (fOk_tl (fOk_tl hp))))
  simp only [List.map, xv, fev, fvl, gtI, Int.one_mul, Int.add_zero, Int.zero_add, PR] at p1 p2 p3 p4
  refine ⟨[], rfl, fOk_cons (p_put rfl ?_) fOk_nil⟩ <;> simp only [List.map, xv, fev, fvl, gtI, Int.one_mul, Int.add_zero, Int.zero_add, PR, List.append_nil]
  obtain ⟨u1, u2, u3, rfl⟩ := p2
  intro k k0 k1
  have q := p1 k k0 k1
  unfold pNode at q ⊢
  rw [dcd_un u3 (by omega) (by omega), dcd_un u3 (by omega) (by omega), dcd_un u3 (by omega) (by omega)]
  exact q
def r_tree_out2 : eRul := (5, [xP 7 [xv 1, xv 4], xP 2 [xv 0, xv 1, xv 2, xv 3], xG (([(2, -1), (4, 1)], 160)), xG (([(4, 1)], -3900)), xG (([(4, -1)], 0))], 0, [xP 7 [xv 0, xv 4]])
theorem r_tree_out2_ok : ruOk r_tree_out2 := by
  intro ρ hl0 hp
  obtain ⟨z', t0, rfl, hl1⟩ := len_inv hl0
  obtain ⟨z, t1, rfl, hl2⟩ := len_inv hl1
  obtain ⟨i, t2, rfl, hl3⟩ := len_inv hl2
  obtain ⟨v, t3, rfl, hl4⟩ := len_inv hl3
  obtain ⟨b, t4, rfl, hl5⟩ := len_inv hl4
  have hl := List.eq_nil_of_length_eq_zero hl5
  subst hl
  have p1 := p_get (fOk_hd hp)
  have p2 := p_get (fOk_hd (fOk_tl hp))
  have p3 := gg_get (fOk_hd (fOk_tl (fOk_tl hp)))
  have p4 := gg_get (fOk_hd (fOk_tl (fOk_tl (fOk_tl hp))))
  have p5 := gg_get (fOk_hd (fOk_tl (fOk_tl (fOk_tl (fOk_tl hp)))))
  simp only [List.map, xv, fev, fvl, gtI, Int.one_mul, Int.add_zero, Int.zero_add, PR] at p1 p2 p3 p4 p5
  refine ⟨[], rfl, fOk_cons (p_put rfl ?_) fOk_nil⟩ <;> simp only [List.map, xv, fev, fvl, gtI, Int.one_mul, Int.add_zero, Int.zero_add, PR, List.append_nil]
  obtain ⟨u1, u2, u3, rfl⟩ := p2
  intro k k0 k1
  have q := p1 k k0 k1
  unfold pNode at q ⊢
  rw [dcd_un u3 (by omega) (by omega), dcd_un u3 (by omega) (by omega), dcd_un u3 (by omega) (by omega)]
  exact q
def r_tree_0 : eRul := (5, [xP 7 [xv 1, xv 4], xP 2 [xv 0, xv 1, xv 2, xv 3], (.inl [[(0, 0)]], [xv 3]), xG (([(4, 1)], -3900)), xG (([(4, -1)], 0))], 0, [xP 7 [xv 0, xv 4]])
theorem r_tree_0_ok : ruOk r_tree_0 := by
  intro ρ hl0 hp
  obtain ⟨z', t0, rfl, hl1⟩ := len_inv hl0
  obtain ⟨z, t1, rfl, hl2⟩ := len_inv hl1
  obtain ⟨i, t2, rfl, hl3⟩ := len_inv hl2
  obtain ⟨v, t3, rfl, hl4⟩ := len_inv hl3
  obtain ⟨b, t4, rfl, hl5⟩ := len_inv hl4
  have hl := List.eq_nil_of_length_eq_zero hl5
  subst hl
  have p1 := p_get (fOk_hd hp)
  have p2 := p_get (fOk_hd (fOk_tl hp))
  have p3 := i_get (fOk_hd (fOk_tl (fOk_tl hp)))
  have p4 := gg_get (fOk_hd (fOk_tl (fOk_tl (fOk_tl hp))))
  have p5 := gg_get (fOk_hd (fOk_tl (fOk_tl (fOk_tl (fOk_tl hp)))))
  simp only [List.map, xv, fev, fvl, gtI, Int.one_mul, Int.add_zero, Int.zero_add, PR] at p1 p2 p3 p4 p5
  refine ⟨[], rfl, fOk_cons (p_put rfl ?_) fOk_nil⟩ <;> simp only [List.map, xv, fev, fvl, gtI, Int.one_mul, Int.add_zero, Int.zero_add, PR, List.append_nil]
  obtain ⟨u1, u2, u3, rfl⟩ := p2
  have hv : v = 0 := by omega
  subst hv
  intro k k0 k1
  have q := p1 k k0 k1
  unfold pNode at q ⊢
  have g : ∀ a : Int, 0 ≤ a → a < 4096 → dcd a.toNat (ucd z i.toNat 0) = 0 ∨ dcd a.toNat (ucd z i.toNat 0) = dcd a.toNat z := fun a a0 a1 => by
    by_cases e : a = i
    · exact Or.inl (by rw [e, dcd_us u3 (by omega)])
    · exact Or.inr (dcd_un u3 (by omega) (by omega))
  have g0 := g (b + 4 * k) (by omega) (by omega)
  have g1 := g (b + 4 * k + 1) (by omega) (by omega)
  have g2 := g (b + 4 * k + 2) (by omega) (by omega)
  generalize dcd (b + 4 * k).toNat (ucd z i.toNat 0) = x0 at g0 ⊢
  generalize dcd (b + 4 * k + 1).toNat (ucd z i.toNat 0) = x1 at g1 ⊢
  generalize dcd (b + 4 * k + 2).toNat (ucd z i.toNat 0) = x2 at g2 ⊢
  generalize dcd (b + 4 * k).toNat z = y0 at g0 q
  generalize dcd (b + 4 * k + 1).toNat z = y1 at g1 q
  generalize dcd (b + 4 * k + 2).toNat z = y2 at g2 q
  omega
def r_tree_cpy : eRul := (5, [xP 7 [xv 1, xv 3], xP 11 [xv 0, xv 1, xv 2, xv 3, xv 4], xG (([(4, -1)], 160)), xG (([(2, 1)], -3900)), xG (([(2, -1)], 0)), xG (([(3, -1)], 0)), xG (([(3, 1)], -3900))], 0, [xP 7 [xv 0, xv 2]])
theorem r_tree_cpy_ok : ruOk r_tree_cpy := by
  intro ρ hl0 hp
  obtain ⟨z, t0, rfl, hl1⟩ := len_inv hl0
  obtain ⟨n, t1, rfl, hl2⟩ := len_inv hl1
  obtain ⟨b, t2, rfl, hl3⟩ := len_inv hl2
  obtain ⟨a, t3, rfl, hl4⟩ := len_inv hl3
  obtain ⟨m, t4, rfl, hl5⟩ := len_inv hl4
  have hl := List.eq_nil_of_length_eq_zero hl5
  subst hl
  have p1 := p_get (fOk_hd hp)
  have p2 := p_get (fOk_hd (fOk_tl hp))
  have p3 := gg_get (fOk_hd (fOk_tl (fOk_tl hp)))
  have p4 := gg_get (fOk_hd (fOk_tl (fOk_tl (fOk_tl hp))))
  have p5 := gg_get (fOk_hd (fOk_tl (fOk_tl (fOk_tl (fOk_tl hp)))))
  have p6 := gg_get (fOk_hd (fOk_tl (fOk_tl (fOk_tl (fOk_tl (fOk_tl hp))))))
  have p7 := gg_get (fOk_hd (fOk_tl (fOk_tl (fOk_tl (fOk_tl (fOk_tl (fOk_tl hp)))))))
  simp only [List.map, xv, fev, fvl, gtI, Int.one_mul, Int.add_zero, Int.zero_add, PR] at p1 p2 p3 p4 p5 p6 p7
  refine ⟨[], rfl, fOk_cons (p_put rfl ?_) fOk_nil⟩ <;> simp only [List.map, xv, fev, fvl, gtI, Int.one_mul, Int.add_zero, Int.zero_add, PR, List.append_nil]
  intro k k0 k1
  have q := p1 k k0 k1
  unfold pNode at q ⊢
  have e0 := p2 (4 * k) (by omega) (by omega) (by omega)
  have e1 := p2 (4 * k + 1) (by omega) (by omega) (by omega)
  have e2 := p2 (4 * k + 2) (by omega) (by omega) (by omega)
  rw [← Int.add_assoc, ← Int.add_assoc] at e1 e2
  rw [e0, e1, e2]
  exact q
def r_ind_a : eRul := (4, [xG (xv 0)], 0, [xP 21 [xv 0, xv 1, xv 2, xv 3]])
theorem r_ind_a_ok : ruOk r_ind_a := by
  intro ρ hl0 hp
  obtain ⟨w, t0, rfl, hl1⟩ := len_inv hl0
  obtain ⟨a, t1, rfl, hl2⟩ := len_inv hl1
  obtain ⟨c, t2, rfl, hl3⟩ := len_inv hl2
  obtain ⟨k, t3, rfl, hl4⟩ := len_inv hl3
  have hl := List.eq_nil_of_length_eq_zero hl4
  subst hl
  have p1 := gg_get (fOk_hd hp)
  simp only [List.map, xv, fev, fvl, gtI, Int.one_mul, Int.add_zero, Int.zero_add, PR] at p1
  refine ⟨[], rfl, fOk_cons (p_put rfl ?_) fOk_nil⟩ <;> simp only [List.map, xv, fev, fvl, gtI, Int.one_mul, Int.add_zero, Int.zero_add, PR, List.append_nil]
  refine ⟨?_, ?_, ?_⟩ <;> intro e <;> omega
def r_ind_4 : eRul := (4, [xG (([(0, -1)], 4)), xG (([(0, 1)], -68))], 0, [xP 21 [xv 0, xv 1, xv 2, xv 3]])
theorem r_ind_4_ok : ruOk r_ind_4 := by
  intro ρ hl0 hp
  obtain ⟨w, t0, rfl, hl1⟩ := len_inv hl0
  obtain ⟨a, t1, rfl, hl2⟩ := len_inv hl1
  obtain ⟨c, t2, rfl, hl3⟩ := len_inv hl2
  obtain ⟨k, t3, rfl, hl4⟩ := len_inv hl3
  have hl := List.eq_nil_of_length_eq_zero hl4
  subst hl
  have p1 := gg_get (fOk_hd hp)
  have p2 := gg_get (fOk_hd (fOk_tl hp))
  simp only [List.map, xv, fev, fvl, gtI, Int.one_mul, Int.add_zero, Int.zero_add, PR] at p1 p2
  refine ⟨[], rfl, fOk_cons (p_put rfl ?_) fOk_nil⟩ <;> simp only [List.map, xv, fev, fvl, gtI, Int.one_mul, Int.add_zero, Int.zero_add, PR, List.append_nil]
  refine ⟨?_, ?_, ?_⟩ <;> intro e <;> omega
def r_ind_5 : eRul := (4, [xG (([(0, -1)], 4)), xG (([(1, -1)], 0)), xG (([(1, 1)], -5))], 0, [xP 21 [xv 0, xv 1, xv 2, xv 3]])
theorem r_ind_5_ok : ruOk r_ind_5 := by
  intro ρ hl0 hp
  obtain ⟨w, t0, rfl, hl1⟩ := len_inv hl0
  obtain ⟨a, t1, rfl, hl2⟩ := len_inv hl1
  obtain ⟨c, t2, rfl, hl3⟩ := len_inv hl2
  obtain ⟨k, t3, rfl, hl4⟩ := len_inv hl3
  have hl := List.eq_nil_of_length_eq_zero hl4
  subst hl
  have p1 := gg_get (fOk_hd hp)
  have p2 := gg_get (fOk_hd (fOk_tl hp))
  have p3 := gg_get (fOk_hd (fOk_tl (fOk_tl hp)))
  simp only [List.map, xv, fev, fvl, gtI, Int.one_mul, Int.add_zero, Int.zero_add, PR] at p1 p2 p3
  refine ⟨[], rfl, fOk_cons (p_put rfl ?_) fOk_nil⟩ <;> simp only [List.map, xv, fev, fvl, gtI, Int.one_mul, Int.add_zero, Int.zero_add, PR, List.append_nil]
  refine ⟨?_, ?_, ?_⟩ <;> intro e <;> omega
def r_ind_70 : eRul := (4, [xG (([(0, -1)], 70))], 0, [xP 21 [xv 0, xv 1, xv 2, xv 3]])
theorem r_ind_70_ok : ruOk r_ind_70 := by
  intro ρ hl0 hp
  obtain ⟨w, t0, rfl, hl1⟩ := len_inv hl0
  obtain ⟨a, t1, rfl, hl2⟩ := len_inv hl1
  obtain ⟨c, t2, rfl, hl3⟩ := len_inv hl2
  obtain ⟨k, t3, rfl, hl4⟩ := len_inv hl3
  have hl := List.eq_nil_of_length_eq_zero hl4
  subst hl
  have p1 := gg_get (fOk_hd hp)
  simp only [List.map, xv, fev, fvl, gtI, Int.one_mul, Int.add_zero, Int.zero_add, PR] at p1
  refine ⟨[], rfl, fOk_cons (p_put rfl ?_) fOk_nil⟩ <;> simp only [List.map, xv, fev, fvl, gtI, Int.one_mul, Int.add_zero, Int.zero_add, PR, List.append_nil]
  refine ⟨?_, ?_, ?_⟩ <;> intro e <;> omega
def r_ind_1 : eRul := (4, [(.inl [[(1, 1)]], [xv 0]), xG (([(1, -1)], 0)), xG (([(1, 1), (3, -1)], 1))], 0, [xP 21 [xv 0, xv 1, xv 2, xv 3]])
theorem r_ind_1_ok : ruOk r_ind_1 := by
  intro ρ hl0 hp
  obtain ⟨w, t0, rfl, hl1⟩ := len_inv hl0
  obtain ⟨a, t1, rfl, hl2⟩ := len_inv hl1
  obtain ⟨c, t2, rfl, hl3⟩ := len_inv hl2
  obtain ⟨k, t3, rfl, hl4⟩ := len_inv hl3
  have hl := List.eq_nil_of_length_eq_zero hl4
  subst hl
  have p1 := i_get (fOk_hd hp)
  have p2 := gg_get (fOk_hd (fOk_tl hp))
  have p3 := gg_get (fOk_hd (fOk_tl (fOk_tl hp)))
  simp only [List.map, xv, fev, fvl, gtI, Int.one_mul, Int.add_zero, Int.zero_add, PR] at p1 p2 p3
  refine ⟨[], rfl, fOk_cons (p_put rfl ?_) fOk_nil⟩ <;> simp only [List.map, xv, fev, fvl, gtI, Int.one_mul, Int.add_zero, Int.zero_add, PR, List.append_nil]
  refine ⟨?_, ?_, ?_⟩ <;> intro e <;> omega
def r_ind_2 : eRul := (4, [(.inl [[(2, 3)]], [xv 0]), xG (([(1, -1)], 0)), xG (([(1, 1), (3, -1)], 1)), xG (([(2, -1)], 0)), xG (([(2, 1), (3, -1)], 1))], 0, [xP 21 [xv 0, xv 1, xv 2, xv 3]])
theorem r_ind_2_ok : ruOk r_ind_2 := by
  intro ρ hl0 hp
  obtain ⟨w, t0, rfl, hl1⟩ := len_inv hl0
  obtain ⟨a, t1, rfl, hl2⟩ := len_inv hl1
  obtain ⟨c, t2, rfl, hl3⟩ := len_inv hl2
  obtain ⟨k, t3, rfl, hl4⟩ := len_inv hl3
  have hl := List.eq_nil_of_length_eq_zero hl4
  subst hl
  have p1 := i_get (fOk_hd hp)
  have p2 := gg_get (fOk_hd (fOk_tl hp))
  have p3 := gg_get (fOk_hd (fOk_tl (fOk_tl hp)))
  have p4 := gg_get (fOk_hd (fOk_tl (fOk_tl (fOk_tl hp))))
  have p5 := gg_get (fOk_hd (fOk_tl (fOk_tl (fOk_tl (fOk_tl hp)))))
  simp only [List.map, xv, fev, fvl, gtI, Int.one_mul, Int.add_zero, Int.zero_add, PR] at p1 p2 p3 p4 p5
  refine ⟨[], rfl, fOk_cons (p_put rfl ?_) fOk_nil⟩ <;> simp only [List.map, xv, fev, fvl, gtI, Int.one_mul, Int.add_zero, Int.zero_add, PR, List.append_nil]
  refine ⟨?_, ?_, ?_⟩ <;> intro e <;> omega
def r_ind_u1 : eRul := (4, [xP 21 [xv 0, xv 1, xv 2, xv 3], (.inl [[(1, 1)]], [xv 0]), xG (([(3, 1)], -4095))], 0, [xG (([(1, -1)], 0)), xG (([(1, 1), (3, -1)], 1))])
theorem r_ind_u1_ok : ruOk r_ind_u1 := by
  intro ρ hl0 hp
  obtain ⟨w, t0, rfl, hl1⟩ := len_inv hl0
  obtain ⟨a, t1, rfl, hl2⟩ := len_inv hl1
  obtain ⟨c, t2, rfl, hl3⟩ := len_inv hl2
  obtain ⟨k, t3, rfl, hl4⟩ := len_inv hl3
  have hl := List.eq_nil_of_length_eq_zero hl4
  subst hl
  have p1 := p_get (fOk_hd hp)
  have p2 := i_get (fOk_hd (fOk_tl hp))
  have p3 := gg_get (fOk_hd (fOk_tl (fOk_tl hp)))
  simp only [List.map, xv, fev, fvl, gtI, Int.one_mul, Int.add_zero, Int.zero_add, PR] at p1 p2 p3
  refine ⟨[], rfl, fOk_cons (gg_put rfl ?_ ?_) (fOk_cons (gg_put rfl ?_ ?_) fOk_nil)⟩ <;> simp only [List.map, xv, fev, fvl, gtI, Int.one_mul, Int.add_zero, Int.zero_add, PR, List.append_nil]
  · obtain ⟨q1, q2, q3⟩ := p1
    have q := q1 (by omega)
    omega
  · obtain ⟨q1, q2, q3⟩ := p1
    have q := q1 (by omega)
    omega
  · obtain ⟨q1, q2, q3⟩ := p1
    have q := q1 (by omega)
    omega
  · obtain ⟨q1, q2, q3⟩ := p1
    have q := q1 (by omega)
    omega
def r_ind_u2 : eRul := (4, [xP 21 [xv 0, xv 1, xv 2, xv 3], (.inl [[(2, 3)]], [xv 0]), xG (([(3, 1)], -4095))], 0, [xG (([(1, -1)], 0)), xG (([(1, 1), (3, -1)], 1)), xG (([(2, -1)], 0)), xG (([(2, 1), (3, -1)], 1))])
theorem r_ind_u2_ok : ruOk r_ind_u2 := by
  intro ρ hl0 hp
  obtain ⟨w, t0, rfl, hl1⟩ := len_inv hl0
  obtain ⟨a, t1, rfl, hl2⟩ := len_inv hl1
  obtain ⟨c, t2, rfl, hl3⟩ := len_inv hl2
  obtain ⟨k, t3, rfl, hl4⟩ := len_inv hl3
  have hl := List.eq_nil_of_length_eq_zero hl4
  subst hl
  have p1 := p_get (fOk_hd hp)
  have p2 := i_get (fOk_hd (fOk_tl hp))
  have p3 := gg_get (fOk_hd (fOk_tl (fOk_tl hp)))
  simp only [List.map, xv, fev, fvl, gtI, Int.one_mul, Int.add_zero, Int.zero_add, PR] at p1 p2 p3
  refine ⟨[], rfl, fOk_cons (gg_put rfl ?_ ?_) (fOk_cons (gg_put rfl ?_ ?_) (fOk_cons (gg_put rfl ?_ ?_) (fOk_cons (gg_put rfl ?_ ?_) fOk_nil)))⟩ <;> simp only [List.map, xv, fev, fvl, gtI, Int.one_mul, Int.add_zero, Int.zero_add, PR, List.append_nil]
  · obtain ⟨q1, q2, q3⟩ := p1
    have q := q2 (by omega)
    omega
  · obtain ⟨q1, q2, q3⟩ := p1
    have q := q2 (by omega)
    omega
  · obtain ⟨q1, q2, q3⟩ := p1
    have q := q2 (by omega)
    omega
  · obtain ⟨q1, q2, q3⟩ := p1
    have q := q2 (by omega)
    omega
  · obtain ⟨q1, q2, q3⟩ := p1
    have q := q2 (by omega)
    omega
  · obtain ⟨q1, q2, q3⟩ := p1
    have q := q2 (by omega)
    omega
  · obtain ⟨q1, q2, q3⟩ := p1
    have q := q2 (by omega)
    omega
  · obtain ⟨q1, q2, q3⟩ := p1
    have q := q2 (by omega)
    omega
def r_ind_u69 : eRul := (4, [xP 21 [xv 0, xv 1, xv 2, xv 3], (.inl [[(69, 69)]], [xv 0])], 0, [(.inl [[(0, 5)]], [xv 1])])
theorem r_ind_u69_ok : ruOk r_ind_u69 := by
  intro ρ hl0 hp
  obtain ⟨w, t0, rfl, hl1⟩ := len_inv hl0
  obtain ⟨a, t1, rfl, hl2⟩ := len_inv hl1
  obtain ⟨c, t2, rfl, hl3⟩ := len_inv hl2
  obtain ⟨k, t3, rfl, hl4⟩ := len_inv hl3
  have hl := List.eq_nil_of_length_eq_zero hl4
  subst hl
  have p1 := p_get (fOk_hd hp)
  have p2 := i_get (fOk_hd (fOk_tl hp))
  simp only [List.map, xv, fev, fvl, gtI, Int.one_mul, Int.add_zero, Int.zero_add, PR] at p1 p2
  refine ⟨[], rfl, fOk_cons (i_put rfl ?_ ?_) fOk_nil⟩ <;> simp only [List.map, xv, fev, fvl, gtI, Int.one_mul, Int.add_zero, Int.zero_add, PR, List.append_nil]
  · obtain ⟨q1, q2, q3⟩ := p1
    have q := q3 (by omega)
    omega
  · obtain ⟨q1, q2, q3⟩ := p1
    have q := q3 (by omega)
    omega
def r_tree_use : eRul := (6, [xP 7 [xv 0, xv 1], xP 1 [xv 3, xv 0, ([(1, 1), (2, 4)], 0)], xP 1 [xv 4, xv 0, ([(1, 1), (2, 4)], 1)], xP 1 [xv 5, xv 0, ([(1, 1), (2, 4)], 2)], xG (([(2, -1)], 0)), xG (([(2, 1)], -39))], 0, [xP 21 [xv 3, xv 4, xv 5, xv 2]])
theorem r_tree_use_ok : ruOk r_tree_use := by
  intro ρ hl0 hp
  obtain ⟨z, t0, rfl, hl1⟩ := len_inv hl0
  obtain ⟨b, t1, rfl, hl2⟩ := len_inv hl1
  obtain ⟨k, t2, rfl, hl3⟩ := len_inv hl2
  obtain ⟨x0, t3, rfl, hl4⟩ := len_inv hl3
  obtain ⟨x1, t4, rfl, hl5⟩ := len_inv hl4
  obtain ⟨x2, t5, rfl, hl6⟩ := len_inv hl5
  have hl := List.eq_nil_of_length_eq_zero hl6
  subst hl
  have p1 := p_get (fOk_hd hp)
  have p2 := p_get (fOk_hd (fOk_tl hp))
  have p3 := p_get (fOk_hd (fOk_tl (fOk_tl hp)))
  have p4 := p_get (fOk_hd (fOk_tl (fOk_tl (fOk_tl hp))))
  have p5 := gg_get (fOk_hd (fOk_tl (fOk_tl (fOk_tl (fOk_tl hp)))))
  have p6 := gg_get (fOk_hd (fOk_tl (fOk_tl (fOk_tl (fOk_tl (fOk_tl hp))))))
  simp only [List.map, xv, fev, fvl, gtI, Int.one_mul, Int.add_zero, Int.zero_add, PR] at p1 p2 p3 p4 p5 p6
  refine ⟨[], rfl, fOk_cons (p_put rfl ?_) fOk_nil⟩ <;> simp only [List.map, xv, fev, fvl, gtI, Int.one_mul, Int.add_zero, Int.zero_add, PR, List.append_nil]
  have q := p1 k (by omega) (by omega)
  unfold pNode at q
  obtain ⟨u1, u2⟩ := p2
  obtain ⟨u3, u4⟩ := p3
  obtain ⟨u5, u6⟩ := p4
  rw [u2, u4, u6] at q
  exact q
def r_tree_put : eRul := (10, [xP 7 [xv 4, ([], 0)], xP 2 [xv 3, xv 4, ([(5, 4)], 0), xv 6], xP 2 [xv 2, xv 3, ([(5, 4)], 1), xv 7], xP 2 [xv 1, xv 2, ([(5, 4)], 2), xv 8], xP 2 [xv 0, xv 1, ([(5, 4)], 3), xv 9], xP 21 [xv 6, xv 7, xv 8, xv 5], xG (([(5, -1)], 0)), xG (([(5, 1)], -39))], 0, [xP 7 [xv 0, ([], 0)]])
theorem r_tree_put_ok : ruOk r_tree_put := by
  intro ρ hl0 hp
  obtain ⟨z4, t0, rfl, hl1⟩ := len_inv hl0
  obtain ⟨z3, t1, rfl, hl2⟩ := len_inv hl1
  obtain ⟨z2, t2, rfl, hl3⟩ := len_inv hl2
  obtain ⟨z1, t3, rfl, hl4⟩ := len_inv hl3
  obtain ⟨z, t4, rfl, hl5⟩ := len_inv hl4
  obtain ⟨n, t5, rfl, hl6⟩ := len_inv hl5
  obtain ⟨w, t6, rfl, hl7⟩ := len_inv hl6
  obtain ⟨a, t7, rfl, hl8⟩ := len_inv hl7
  obtain ⟨c, t8, rfl, hl9⟩ := len_inv hl8
  obtain ⟨r, t9, rfl, hl10⟩ := len_inv hl9
  have hl := List.eq_nil_of_length_eq_zero hl10
  subst hl
  have p1 := p_get (fOk_hd hp)
  have p2 := p_get (fOk_hd (fOk_tl hp))
  have p3 := p_get (fOk_hd (fOk_tl (fOk_tl hp)))
  have p4 := p_get (fOk_hd (fOk_tl (fOk_tl (fOk_tl hp))))
  have p5 := p_get (fOk_hd (fOk_tl (fOk_tl (fOk_tl (fOk_tl hp)))))
  have p6 := p_get (fOk_hd (fOk_tl (fOk_tl (fOk_tl (fOk_tl (fOk_tl hp))))))
  have p7 := gg_get (fOk_hd (fOk_tl (fOk_tl (fOk_tl (fOk_tl (fOk_tl (fOk_tl hp)))))))
  have p8 := gg_get (fOk_hd (fOk_tl (fOk_tl (fOk_tl (fOk_tl (fOk_tl (fOk_tl (fOk_tl hp))))))))
  simp only [List.map, xv, fev, fvl, gtI, Int.one_mul, Int.add_zero, Int.zero_add, PR] at p1 p2 p3 p4 p5 p6 p7 p8
  refine ⟨[], rfl, fOk_cons (p_put rfl ?_) fOk_nil⟩ <;> simp only [List.map, xv, fev, fvl, gtI, Int.one_mul, Int.add_zero, Int.zero_add, PR, List.append_nil]
  obtain ⟨_, _, b1, rfl⟩ := p2
  obtain ⟨_, _, b2, rfl⟩ := p3
  obtain ⟨_, _, b3, rfl⟩ := p4
  obtain ⟨_, _, b4, rfl⟩ := p5
  intro k k0 k1
  have q := p1 k k0 k1
  unfold pNode at q ⊢
  rw [Int.zero_add] at q ⊢
  by_cases e : k = n
  · subst e
    rw [dcd_un b4 (by omega) (by omega), dcd_un b3 (by omega) (by omega), dcd_un b2 (by omega) (by omega), dcd_us b1 (by omega)]
    rw [dcd_un b4 (by omega) (by omega), dcd_un b3 (by omega) (by omega), dcd_us b2 (by omega)]
    rw [dcd_un b4 (by omega) (by omega), dcd_us b3 (by omega)]
    exact p6
  · have g : ∀ d : Int, 0 ≤ d → d < 4 → dcd (4 * k + d).toNat (ucd (ucd (ucd (ucd z (4 * n).toNat w) (4 * n + 1).toNat a) (4 * n + 2).toNat c) (4 * n + 3).toNat r) = dcd (4 * k + d).toNat z := fun d d0 d1 => by
      rw [dcd_un b4 (by omega) (by omega), dcd_un b3 (by omega) (by omega), dcd_un b2 (by omega) (by omega), dcd_un b1 (by omega) (by omega)]
    have g0 := g 0 (by omega) (by omega)
    rw [Int.add_zero] at g0
    rw [g0, g 1 (by omega) (by omega), g 2 (by omega) (by omega)]
    exact q
def r_tree_rg : eRul := (4, [xP 3 [xv 0, xv 2, xv 3, ([], 0), ([], 0)], xG (([(1, -1), (2, 1)], 0)), xG (([(1, 1), (3, -1)], 160)), xG (([(1, -1)], 0)), xG (([(1, 1)], -3900))], 0, [xP 7 [xv 0, xv 1]])
theorem r_tree_rg_ok : ruOk r_tree_rg := by
  intro ρ hl0 hp
  obtain ⟨z, t0, rfl, hl1⟩ := len_inv hl0
  obtain ⟨b, t1, rfl, hl2⟩ := len_inv hl1
  obtain ⟨a, t2, rfl, hl3⟩ := len_inv hl2
  obtain ⟨e, t3, rfl, hl4⟩ := len_inv hl3
  have hl := List.eq_nil_of_length_eq_zero hl4
  subst hl
  have p1 := p_get (fOk_hd hp)
  have p2 := gg_get (fOk_hd (fOk_tl hp))
  have p3 := gg_get (fOk_hd (fOk_tl (fOk_tl hp)))
  have p4 := gg_get (fOk_hd (fOk_tl (fOk_tl (fOk_tl hp))))
  have p5 := gg_get (fOk_hd (fOk_tl (fOk_tl (fOk_tl (fOk_tl hp)))))
  simp only [List.map, xv, fev, fvl, gtI, Int.one_mul, Int.add_zero, Int.zero_add, PR] at p1 p2 p3 p4 p5
  refine ⟨[], rfl, fOk_cons (p_put rfl ?_) fOk_nil⟩ <;> simp only [List.map, xv, fev, fvl, gtI, Int.one_mul, Int.add_zero, Int.zero_add, PR, List.append_nil]
  intro k k0 k1
  unfold pNode
  have q0 := p1 (b + 4 * k) (by omega) (by omega) (by omega) (by omega)
  refine ⟨?_, ?_, ?_⟩ <;> intro e <;> omega
def r_i1_a : eRul := (2, [xG (([(0, -1)], 2))], 0, [xP 22 [xv 0, xv 1]])
theorem r_i1_a_ok : ruOk r_i1_a := by
  intro ρ hl0 hp
  obtain ⟨k, t0, rfl, hl1⟩ := len_inv hl0
  obtain ⟨x, t1, rfl, hl2⟩ := len_inv hl1
  have hl := List.eq_nil_of_length_eq_zero hl2
  subst hl
  have p1 := gg_get (fOk_hd hp)
  simp only [List.map, xv, fev, fvl, gtI, Int.one_mul, Int.add_zero, Int.zero_add, PR] at p1
  refine ⟨[], rfl, fOk_cons (p_put rfl ?_) fOk_nil⟩ <;> simp only [List.map, xv, fev, fvl, gtI, Int.one_mul, Int.add_zero, Int.zero_add, PR, List.append_nil]
  intro e
  omega
def r_i1_b : eRul := (2, [xG (([(1, 1)], -5))], 0, [xP 22 [xv 0, xv 1]])
theorem r_i1_b_ok : ruOk r_i1_b := by
  intro ρ hl0 hp
  obtain ⟨k, t0, rfl, hl1⟩ := len_inv hl0
  obtain ⟨x, t1, rfl, hl2⟩ := len_inv hl1
  have hl := List.eq_nil_of_length_eq_zero hl2
  subst hl
  have p1 := gg_get (fOk_hd hp)
  simp only [List.map, xv, fev, fvl, gtI, Int.one_mul, Int.add_zero, Int.zero_add, PR] at p1
  refine ⟨[], rfl, fOk_cons (p_put rfl ?_) fOk_nil⟩ <;> simp only [List.map, xv, fev, fvl, gtI, Int.one_mul, Int.add_zero, Int.zero_add, PR, List.append_nil]
  intro e
  omega
def r_i1_u : eRul := (2, [xP 22 [xv 0, xv 1], xG (([(0, 1)], -1)), xG (([(1, -1)], -500000000000))], 0, [xG (([(1, 1)], -5))])
theorem r_i1_u_ok : ruOk r_i1_u := by
  intro ρ hl0 hp
  obtain ⟨k, t0, rfl, hl1⟩ := len_inv hl0
  obtain ⟨x, t1, rfl, hl2⟩ := len_inv hl1
  have hl := List.eq_nil_of_length_eq_zero hl2
  subst hl
  have p1 := p_get (fOk_hd hp)
  have p2 := gg_get (fOk_hd (fOk_tl hp))
  have p3 := gg_get (fOk_hd (fOk_tl (fOk_tl hp)))
  simp only [List.map, xv, fev, fvl, gtI, Int.one_mul, Int.add_zero, Int.zero_add, PR] at p1 p2 p3
  refine ⟨[], rfl, fOk_cons (gg_put rfl ?_ ?_) fOk_nil⟩ <;> simp only [List.map, xv, fev, fvl, gtI, Int.one_mul, Int.add_zero, Int.zero_add, PR, List.append_nil]
  · have q := p1 (by omega)
    omega
  · have q := p1 (by omega)
    omega
def r_m4 : eRul := (1, [], 0, [xP 23 [([(0, 4)], 0)]])
theorem r_m4_ok : ruOk r_m4 := by
  intro ρ hl0 hp
  obtain ⟨k, t0, rfl, hl1⟩ := len_inv hl0
  have hl := List.eq_nil_of_length_eq_zero hl1
  subst hl
  refine ⟨[], rfl, fOk_cons (p_put rfl ?_) fOk_nil⟩ <;> simp only [List.map, xv, fev, fvl, gtI, Int.one_mul, Int.add_zero, Int.zero_add, PR, List.append_nil]
  show (4 * k) % 4 = 0
  omega
def r_line_no : eRul := (2, [xG (xv 1)], 0, [xP 8 [xv 0, xv 1]])
theorem r_line_no_ok : ruOk r_line_no := by
  intro ρ hl0 hp
  obtain ⟨z, t0, rfl, hl1⟩ := len_inv hl0
  obtain ⟨e, t1, rfl, hl2⟩ := len_inv hl1
  have hl := List.eq_nil_of_length_eq_zero hl2
  subst hl
  have p1 := gg_get (fOk_hd hp)
  simp only [List.map, xv, fev, fvl, gtI, Int.one_mul, Int.add_zero, Int.zero_add, PR] at p1
  refine ⟨[], rfl, fOk_cons (p_put rfl ?_) fOk_nil⟩ <;> simp only [List.map, xv, fev, fvl, gtI, Int.one_mul, Int.add_zero, Int.zero_add, PR, List.append_nil]
  intro t t0 t1 t2 t3
  omega
def r_line_out : eRul := (5, [xP 8 [xv 1, xv 4], xP 2 [xv 0, xv 1, xv 2, xv 3], xG (([(2, -1), (4, 1)], 0)), xP 23 [xv 4]], 0, [xP 8 [xv 0, xv 4]])
theorem r_line_out_ok : ruOk r_line_out := by
  intro ρ hl0 hp
  obtain ⟨z', t0, rfl, hl1⟩ := len_inv hl0
  obtain ⟨z, t1, rfl, hl2⟩ := len_inv hl1
  obtain ⟨i, t2, rfl, hl3⟩ := len_inv hl2
  obtain ⟨v, t3, rfl, hl4⟩ := len_inv hl3
  obtain ⟨e, t4, rfl, hl5⟩ := len_inv hl4
  have hl := List.eq_nil_of_length_eq_zero hl5
  subst hl
  have p1 := p_get (fOk_hd hp)
  have p2 := p_get (fOk_hd (fOk_tl hp))
  have p3 := gg_get (fOk_hd (fOk_tl (fOk_tl hp)))
  have p4 := p_get (fOk_hd (fOk_tl (fOk_tl (fOk_tl hp))))
  simp only [List.map, xv, fev, fvl, gtI, Int.one_mul, Int.add_zero, Int.zero_add, PR] at p1 p2 p3 p4
  refine ⟨[], rfl, fOk_cons (p_put rfl ?_) fOk_nil⟩ <;> simp only [List.map, xv, fev, fvl, gtI, Int.one_mul, Int.add_zero, Int.zero_add, PR, List.append_nil]
  obtain ⟨u1, u2, u3, rfl⟩ := p2
  intro t t0 t1 t2 t3
  have w : e % 4 = 0 := p4
  rw [dcd_un u3 (by omega) (by omega), dcd_un u3 (by omega) (by omega), dcd_un u3 (by omega) (by omega)]
  exact p1 t t0 t1 t2 t3
def r_line_exa : eRul := (8, [xP 8 [xv 0, xv 1], xP 3 [xv 0, xv 1, ([(1, 1)], 1), xv 2, xv 3], xP 3 [xv 0, ([(1, 1)], 1), ([(1, 1)], 2), xv 4, xv 5], xP 3 [xv 0, ([(1, 1)], 2), ([(1, 1)], 3), xv 6, xv 7], xG (([(2, -1)], 0)), xG (([(3, 1)], -3)), xG (([(4, -1)], 0)), xG (([(5, 1)], -5)), xG (([(6, -1)], -1)), xG (([(7, 1)], -7)), xG (([(1, 1)], -156)), xP 23 [xv 1]], 0, [xP 8 [xv 0, ([(1, 1)], 4)]])
theorem r_line_exa_ok : ruOk r_line_exa := by
  intro ρ hl0 hp
  obtain ⟨z, t0, rfl, hl1⟩ := len_inv hl0
  obtain ⟨e, t1, rfl, hl2⟩ := len_inv hl1
  obtain ⟨a, t2, rfl, hl3⟩ := len_inv hl2
  obtain ⟨b, t3, rfl, hl4⟩ := len_inv hl3
  obtain ⟨c, t4, rfl, hl5⟩ := len_inv hl4
  obtain ⟨d, t5, rfl, hl6⟩ := len_inv hl5
  obtain ⟨g, t6, rfl, hl7⟩ := len_inv hl6
  obtain ⟨h, t7, rfl, hl8⟩ := len_inv hl7
  have hl := List.eq_nil_of_length_eq_zero hl8
  subst hl
  have p1 := p_get (fOk_hd hp)
  have p2 := p_get (fOk_hd (fOk_tl hp))
  have p3 := p_get (fOk_hd (fOk_tl (fOk_tl hp)))
  have p4 := p_get (fOk_hd (fOk_tl (fOk_tl (fOk_tl hp))))
  have p5 := gg_get (fOk_hd (fOk_tl (fOk_tl (fOk_tl (fOk_tl hp)))))
  have p6 := gg_get (fOk_hd (fOk_tl (fOk_tl (fOk_tl (fOk_tl (fOk_tl hp))))))
  have p7 := gg_get (fOk_hd (fOk_tl (fOk_tl (fOk_tl (fOk_tl (fOk_tl (fOk_tl hp)))))))
  have p8 := gg_get (fOk_hd (fOk_tl (fOk_tl (fOk_tl (fOk_tl (fOk_tl (fOk_tl (fOk_tl hp))))))))
  have p9 := gg_get (fOk_hd (fOk_tl (fOk_tl (fOk_tl (fOk_tl (fOk_tl (fOk_tl (fOk_tl (fOk_tl hp)))))))))
  have p10 := gg_get (fOk_hd (fOk_tl (fOk_tl (fOk_tl (fOk_tl (fOk_tl (fOk_tl (fOk_tl (fOk_tl (fOk_tl hp))))))))))
  have p11 := gg_get (fOk_hd (fOk_tl (fOk_tl (fOk_tl (fOk_tl (fOk_tl (fOk_tl (fOk_tl (fOk_tl (fOk_tl (fOk_tl hp)))))))))))
  have p12 := p_get (fOk_hd (fOk_tl (fOk_tl (fOk_tl (fOk_tl (fOk_tl (fOk_tl (fOk_tl (fOk_tl (fOk_tl (fOk_tl (fOk_tl hp))))))))))))
  simp only [List.map, xv, fev, fvl, gtI, Int.one_mul, Int.add_zero, Int.zero_add, PR] at p1 p2 p3 p4 p5 p6 p7 p8 p9 p10 p11 p12
  refine ⟨[], rfl, fOk_cons (p_put rfl ?_) fOk_nil⟩ <;> simp only [List.map, xv, fev, fvl, gtI, Int.one_mul, Int.add_zero, Int.zero_add, PR, List.append_nil]
  intro t t0 t1 t2 t3
  have w : e % 4 = 0 := p12
  by_cases q : t = e
  · subst q
    have q1 := p2 t (by omega) (by omega) (by omega) (by omega)
    have q2 := p3 (t + 1) (by omega) (by omega) (by omega) (by omega)
    have q3 := p4 (t + 2) (by omega) (by omega) (by omega) (by omega)
    omega
  · exact p1 t t0 t1 (by omega) t3
def r_line_exb : eRul := (8, [xP 8 [xv 0, xv 1], xP 3 [xv 0, xv 1, ([(1, 1)], 1), xv 2, xv 3], xP 3 [xv 0, ([(1, 1)], 1), ([(1, 1)], 2), xv 4, xv 5], xP 3 [xv 0, ([(1, 1)], 2), ([(1, 1)], 3), xv 6, xv 7], xG (([(2, -1)], 2)), xG (([(3, 1)], -3)), xG (([(4, -1)], 0)), xG (([(5, 1)], -60)), xG (([(6, -1)], -1)), xG (([(7, 1)], -7)), xG (([(1, 1)], -156)), xP 23 [xv 1]], 0, [xP 8 [xv 0, ([(1, 1)], 4)]])
theorem r_line_exb_ok : ruOk r_line_exb := by
  intro ρ hl0 hp
  obtain ⟨z, t0, rfl, hl1⟩ := len_inv hl0
  obtain ⟨e, t1, rfl, hl2⟩ := len_inv hl1
  obtain ⟨a, t2, rfl, hl3⟩ := len_inv hl2
  obtain ⟨b, t3, rfl, hl4⟩ := len_inv hl3
  obtain ⟨c, t4, rfl, hl5⟩ := len_inv hl4
  obtain ⟨d, t5, rfl, hl6⟩ := len_inv hl5
  obtain ⟨g, t6, rfl, hl7⟩ := len_inv hl6
  obtain ⟨h, t7, rfl, hl8⟩ := len_inv hl7
  have hl := List.eq_nil_of_length_eq_zero hl8
  subst hl
  have p1 := p_get (fOk_hd hp)
  have p2 := p_get (fOk_hd (fOk_tl hp))
  have p3 := p_get (fOk_hd (fOk_tl (fOk_tl hp)))
  have p4 := p_get (fOk_hd (fOk_tl (fOk_tl (fOk_tl hp))))
  have p5 := gg_get (fOk_hd (fOk_tl (fOk_tl (fOk_tl (fOk_tl hp)))))
  have p6 := gg_get (fOk_hd (fOk_tl (fOk_tl (fOk_tl (fOk_tl (fOk_tl hp))))))
  have p7 := gg_get (fOk_hd (fOk_tl (fOk_tl (fOk_tl (fOk_tl (fOk_tl (fOk_tl hp)))))))
  have p8 := gg_get (fOk_hd (fOk_tl (fOk_tl (fOk_tl (fOk_tl (fOk_tl (fOk_tl (fOk_tl hp))))))))
  have p9 := gg_get (fOk_hd (fOk_tl (fOk_tl (fOk_tl (fOk_tl (fOk_tl (fOk_tl (fOk_tl (fOk_tl hp)))))))))
  have p10 := gg_get (fOk_hd (fOk_tl (fOk_tl (fOk_tl (fOk_tl (fOk_tl (fOk_tl (fOk_tl (fOk_tl (fOk_tl hp))))))))))
  have p11 := gg_get (fOk_hd (fOk_tl (fOk_tl (fOk_tl (fOk_tl (fOk_tl (fOk_tl (fOk_tl (fOk_tl (fOk_tl (fOk_tl hp)))))))))))
  have p12 := p_get (fOk_hd (fOk_tl (fOk_tl (fOk_tl (fOk_tl (fOk_tl (fOk_tl (fOk_tl (fOk_tl (fOk_tl (fOk_tl (fOk_tl hp))))))))))))
  simp only [List.map, xv, fev, fvl, gtI, Int.one_mul, Int.add_zero, Int.zero_add, PR] at p1 p2 p3 p4 p5 p6 p7 p8 p9 p10 p11 p12
  refine ⟨[], rfl, fOk_cons (p_put rfl ?_) fOk_nil⟩ <;> simp only [List.map, xv, fev, fvl, gtI, Int.one_mul, Int.add_zero, Int.zero_add, PR, List.append_nil]
  intro t t0 t1 t2 t3
  have w : e % 4 = 0 := p12
  by_cases q : t = e
  · subst q
    have q1 := p2 t (by omega) (by omega) (by omega) (by omega)
    have q2 := p3 (t + 1) (by omega) (by omega) (by omega) (by omega)
    have q3 := p4 (t + 2) (by omega) (by omega) (by omega) (by omega)
    omega
  · exact p1 t t0 t1 (by omega) t3
def r_line_le : eRul := (3, [xP 8 [xv 0, xv 1], xG (([(1, -1), (2, 1)], 0))], 0, [xP 8 [xv 0, xv 2]])
theorem r_line_le_ok : ruOk r_line_le := by
  intro ρ hl0 hp
  obtain ⟨z, t0, rfl, hl1⟩ := len_inv hl0
  obtain ⟨m, t1, rfl, hl2⟩ := len_inv hl1
  obtain ⟨k, t2, rfl, hl3⟩ := len_inv hl2
  have hl := List.eq_nil_of_length_eq_zero hl3
  subst hl
  have p1 := p_get (fOk_hd hp)
  have p2 := gg_get (fOk_hd (fOk_tl hp))
  simp only [List.map, xv, fev, fvl, gtI, Int.one_mul, Int.add_zero, Int.zero_add, PR] at p1 p2
  refine ⟨[], rfl, fOk_cons (p_put rfl ?_) fOk_nil⟩ <;> simp only [List.map, xv, fev, fvl, gtI, Int.one_mul, Int.add_zero, Int.zero_add, PR, List.append_nil]
  intro t t0 t1 t2 t3
  exact p1 t t0 t1 (by omega) t3
def r_line_use : eRul := (5, [xP 8 [xv 0, xv 1], xP 1 [xv 3, xv 0, xv 2], xP 1 [xv 4, xv 0, ([(2, 1)], 1)], xP 23 [xv 2], xG (([(2, -1)], 0)), xG (([(1, -1), (2, 1)], 1)), xG (([(2, 1)], -159))], 0, [(.inl [[(0, 3)]], [xv 3]), (.inl [[(0, 60)]], [xv 4]), xP 22 [xv 3, xv 4]])
theorem r_line_use_ok : ruOk r_line_use := by
  intro ρ hl0 hp
  obtain ⟨z, t0, rfl, hl1⟩ := len_inv hl0
  obtain ⟨e, t1, rfl, hl2⟩ := len_inv hl1
  obtain ⟨t, t2, rfl, hl3⟩ := len_inv hl2
  obtain ⟨k, t3, rfl, hl4⟩ := len_inv hl3
  obtain ⟨x, t4, rfl, hl5⟩ := len_inv hl4
  have hl := List.eq_nil_of_length_eq_zero hl5
  subst hl
  have p1 := p_get (fOk_hd hp)
  have p2 := p_get (fOk_hd (fOk_tl hp))
  have p3 := p_get (fOk_hd (fOk_tl (fOk_tl hp)))
  have p4 := p_get (fOk_hd (fOk_tl (fOk_tl (fOk_tl hp))))
  have p5 := gg_get (fOk_hd (fOk_tl (fOk_tl (fOk_tl (fOk_tl hp)))))
  have p6 := gg_get (fOk_hd (fOk_tl (fOk_tl (fOk_tl (fOk_tl (fOk_tl hp))))))
  have p7 := gg_get (fOk_hd (fOk_tl (fOk_tl (fOk_tl (fOk_tl (fOk_tl (fOk_tl hp)))))))
  simp only [List.map, xv, fev, fvl, gtI, Int.one_mul, Int.add_zero, Int.zero_add, PR] at p1 p2 p3 p4 p5 p6 p7
  refine ⟨[], rfl, fOk_cons (i_put rfl ?_ ?_) (fOk_cons (i_put rfl ?_ ?_) (fOk_cons (p_put rfl ?_) fOk_nil))⟩ <;> simp only [List.map, xv, fev, fvl, gtI, Int.one_mul, Int.add_zero, Int.zero_add, PR, List.append_nil]
  · obtain ⟨u1, u2⟩ := p2
    obtain ⟨u3, u4⟩ := p3
    have w : t % 4 = 0 := p4
    have q := p1 t (by omega) w (by omega) (by omega)
    omega
  · obtain ⟨u1, u2⟩ := p2
    obtain ⟨u3, u4⟩ := p3
    have w : t % 4 = 0 := p4
    have q := p1 t (by omega) w (by omega) (by omega)
    omega
  · obtain ⟨u1, u2⟩ := p2
    obtain ⟨u3, u4⟩ := p3
    have w : t % 4 = 0 := p4
    have q := p1 t (by omega) w (by omega) (by omega)
    omega
  · obtain ⟨u1, u2⟩ := p2
    obtain ⟨u3, u4⟩ := p3
    have w : t % 4 = 0 := p4
    have q := p1 t (by omega) w (by omega) (by omega)
    omega
  · obtain ⟨u1, u2⟩ := p2
    obtain ⟨u3, u4⟩ := p3
    have w : t % 4 = 0 := p4
    have q := p1 t (by omega) w (by omega) (by omega)
    intro e
    omega
def r_line_use2 : eRul := (4, [xP 8 [xv 0, xv 1], xP 1 [xv 3, xv 0, ([(2, 1)], 2)], xP 23 [xv 2], xG (([(2, -1)], 0)), xG (([(1, -1), (2, 1)], 1)), xG (([(2, 1)], -159))], 0, [(.inl [[(-1, 7)]], [xv 3])])
theorem r_line_use2_ok : ruOk r_line_use2 := by
  intro ρ hl0 hp
  obtain ⟨z, t0, rfl, hl1⟩ := len_inv hl0
  obtain ⟨e, t1, rfl, hl2⟩ := len_inv hl1
  obtain ⟨t, t2, rfl, hl3⟩ := len_inv hl2
  obtain ⟨y, t3, rfl, hl4⟩ := len_inv hl3
  have hl := List.eq_nil_of_length_eq_zero hl4
  subst hl
  have p1 := p_get (fOk_hd hp)
  have p2 := p_get (fOk_hd (fOk_tl hp))
  have p3 := p_get (fOk_hd (fOk_tl (fOk_tl hp)))
  have p4 := gg_get (fOk_hd (fOk_tl (fOk_tl (fOk_tl hp))))
  have p5 := gg_get (fOk_hd (fOk_tl (fOk_tl (fOk_tl (fOk_tl hp)))))
  have p6 := gg_get (fOk_hd (fOk_tl (fOk_tl (fOk_tl (fOk_tl (fOk_tl hp))))))
  simp only [List.map, xv, fev, fvl, gtI, Int.one_mul, Int.add_zero, Int.zero_add, PR] at p1 p2 p3 p4 p5 p6
  refine ⟨[], rfl, fOk_cons (i_put rfl ?_ ?_) fOk_nil⟩ <;> simp only [List.map, xv, fev, fvl, gtI, Int.one_mul, Int.add_zero, Int.zero_add, PR, List.append_nil]
  · obtain ⟨u1, u2⟩ := p2
    have w : t % 4 = 0 := p3
    have q := p1 t (by omega) w (by omega) (by omega)
    omega
  · obtain ⟨u1, u2⟩ := p2
    have w : t % 4 = 0 := p3
    have q := p1 t (by omega) w (by omega) (by omega)
    omega
def r_book_no : eRul := (5, [xG (xv 3)], 0, [xP 9 [xv 0, xv 1, xv 2, xv 3, xv 4]])
theorem r_book_no_ok : ruOk r_book_no := by
  intro ρ hl0 hp
  obtain ⟨A, t0, rfl, hl1⟩ := len_inv hl0
  obtain ⟨G, t1, rfl, hl2⟩ := len_inv hl1
  obtain ⟨Q, t2, rfl, hl3⟩ := len_inv hl2
  obtain ⟨m, t3, rfl, hl4⟩ := len_inv hl3
  obtain ⟨R, t4, rfl, hl5⟩ := len_inv hl4
  have hl := List.eq_nil_of_length_eq_zero hl5
  subst hl
  have p1 := gg_get (fOk_hd hp)
  simp only [List.map, xv, fev, fvl, gtI, Int.one_mul, Int.add_zero, Int.zero_add, PR] at p1
  refine ⟨[], rfl, fOk_cons (p_put rfl ?_) fOk_nil⟩ <;> simp only [List.map, xv, fev, fvl, gtI, Int.one_mul, Int.add_zero, Int.zero_add, PR, List.append_nil]
  intro k k0 k1 k2
  omega
def r_book_A : eRul := (8, [xP 9 [xv 1, xv 2, xv 3, xv 6, xv 7], xP 2 [xv 0, xv 1, xv 4, xv 5], xG (([(4, -1), (6, 1)], 0))], 0, [xP 9 [xv 0, xv 2, xv 3, xv 6, xv 7]])
theorem r_book_A_ok : ruOk r_book_A := by
  intro ρ hl0 hp
  obtain ⟨z', t0, rfl, hl1⟩ := len_inv hl0
  obtain ⟨z, t1, rfl, hl2⟩ := len_inv hl1
  obtain ⟨X, t2, rfl, hl3⟩ := len_inv hl2
  obtain ⟨Y, t3, rfl, hl4⟩ := len_inv hl3
  obtain ⟨i, t4, rfl, hl5⟩ := len_inv hl4
  obtain ⟨v, t5, rfl, hl6⟩ := len_inv hl5
  obtain ⟨m, t6, rfl, hl7⟩ := len_inv hl6
  obtain ⟨R, t7, rfl, hl8⟩ := len_inv hl7
  have hl := List.eq_nil_of_length_eq_zero hl8
  subst hl
  have p1 := p_get (fOk_hd hp)
  have p2 := p_get (fOk_hd (fOk_tl hp))
  have p3 := gg_get (fOk_hd (fOk_tl (fOk_tl hp)))
  simp only [List.map, xv, fev, fvl, gtI, Int.one_mul, Int.add_zero, Int.zero_add, PR] at p1 p2 p3
  refine ⟨[], rfl, fOk_cons (p_put rfl ?_) fOk_nil⟩ <;> simp only [List.map, xv, fev, fvl, gtI, Int.one_mul, Int.add_zero, Int.zero_add, PR, List.append_nil]
  obtain ⟨u1, u2, u3, rfl⟩ := p2
  intro k k0 k1 k2
  rw [dcd_un u3 (by omega) (by omega)]
  exact p1 k k0 k1 k2
def r_book_G : eRul := (8, [xP 9 [xv 2, xv 1, xv 3, xv 6, xv 7], xP 2 [xv 0, xv 1, xv 4, xv 5], xG (([(4, -1), (6, 1)], 0))], 0, [xP 9 [xv 2, xv 0, xv 3, xv 6, xv 7]])
theorem r_book_G_ok : ruOk r_book_G := by
  intro ρ hl0 hp
  obtain ⟨z', t0, rfl, hl1⟩ := len_inv hl0
  obtain ⟨z, t1, rfl, hl2⟩ := len_inv hl1
  obtain ⟨X, t2, rfl, hl3⟩ := len_inv hl2
  obtain ⟨Y, t3, rfl, hl4⟩ := len_inv hl3
  obtain ⟨i, t4, rfl, hl5⟩ := len_inv hl4
  obtain ⟨v, t5, rfl, hl6⟩ := len_inv hl5
  obtain ⟨m, t6, rfl, hl7⟩ := len_inv hl6
  obtain ⟨R, t7, rfl, hl8⟩ := len_inv hl7
  have hl := List.eq_nil_of_length_eq_zero hl8
  subst hl
  have p1 := p_get (fOk_hd hp)
  have p2 := p_get (fOk_hd (fOk_tl hp))
  have p3 := gg_get (fOk_hd (fOk_tl (fOk_tl hp)))
  simp only [List.map, xv, fev, fvl, gtI, Int.one_mul, Int.add_zero, Int.zero_add, PR] at p1 p2 p3
  refine ⟨[], rfl, fOk_cons (p_put rfl ?_) fOk_nil⟩ <;> simp only [List.map, xv, fev, fvl, gtI, Int.one_mul, Int.add_zero, Int.zero_add, PR, List.append_nil]
  obtain ⟨u1, u2, u3, rfl⟩ := p2
  intro k k0 k1 k2
  rw [dcd_un u3 (by omega) (by omega)]
  exact p1 k k0 k1 k2
def r_book_Q : eRul := (8, [xP 9 [xv 2, xv 3, xv 1, xv 6, xv 7], xP 2 [xv 0, xv 1, xv 4, xv 5], xG (([(4, -1), (6, 1)], 0))], 0, [xP 9 [xv 2, xv 3, xv 0, xv 6, xv 7]])
theorem r_book_Q_ok : ruOk r_book_Q := by
  intro ρ hl0 hp
  obtain ⟨z', t0, rfl, hl1⟩ := len_inv hl0
  obtain ⟨z, t1, rfl, hl2⟩ := len_inv hl1
  obtain ⟨X, t2, rfl, hl3⟩ := len_inv hl2
  obtain ⟨Y, t3, rfl, hl4⟩ := len_inv hl3
  obtain ⟨i, t4, rfl, hl5⟩ := len_inv hl4
  obtain ⟨v, t5, rfl, hl6⟩ := len_inv hl5
  obtain ⟨m, t6, rfl, hl7⟩ := len_inv hl6
  obtain ⟨R, t7, rfl, hl8⟩ := len_inv hl7
  have hl := List.eq_nil_of_length_eq_zero hl8
  subst hl
  have p1 := p_get (fOk_hd hp)
  have p2 := p_get (fOk_hd (fOk_tl hp))
  have p3 := gg_get (fOk_hd (fOk_tl (fOk_tl hp)))
  simp only [List.map, xv, fev, fvl, gtI, Int.one_mul, Int.add_zero, Int.zero_add, PR] at p1 p2 p3
  refine ⟨[], rfl, fOk_cons (p_put rfl ?_) fOk_nil⟩ <;> simp only [List.map, xv, fev, fvl, gtI, Int.one_mul, Int.add_zero, Int.zero_add, PR, List.append_nil]
  obtain ⟨u1, u2, u3, rfl⟩ := p2
  intro k k0 k1 k2
  rw [dcd_un u3 (by omega) (by omega)]
  exact p1 k k0 k1 k2
def r_book_ex0 : eRul := (7, [xP 9 [xv 0, xv 1, xv 2, xv 3, xv 4], xP 3 [xv 0, xv 3, ([(3, 1)], 1), xv 5, xv 6], xG (([(5, -1)], 11)), xG (([(3, 1)], -39))], 0, [xP 9 [xv 0, xv 1, xv 2, ([(3, 1)], 1), xv 4]])
theorem r_book_ex0_ok : ruOk r_book_ex0 := by
  intro ρ hl0 hp
  obtain ⟨A, t0, rfl, hl1⟩ := len_inv hl0
  obtain ⟨G, t1, rfl, hl2⟩ := len_inv hl1
  obtain ⟨Q, t2, rfl, hl3⟩ := len_inv hl2
  obtain ⟨m, t3, rfl, hl4⟩ := len_inv hl3
  obtain ⟨R, t4, rfl, hl5⟩ := len_inv hl4
  obtain ⟨a, t5, rfl, hl6⟩ := len_inv hl5
  obtain ⟨b, t6, rfl, hl7⟩ := len_inv hl6
  have hl := List.eq_nil_of_length_eq_zero hl7
  subst hl
  have p1 := p_get (fOk_hd hp)
  have p2 := p_get (fOk_hd (fOk_tl hp))
  have p3 := gg_get (fOk_hd (fOk_tl (fOk_tl hp)))
  have p4 := gg_get (fOk_hd (fOk_tl (fOk_tl (fOk_tl hp))))
  simp only [List.map, xv, fev, fvl, gtI, Int.one_mul, Int.add_zero, Int.zero_add, PR] at p1 p2 p3 p4
  refine ⟨[], rfl, fOk_cons (p_put rfl ?_) fOk_nil⟩ <;> simp only [List.map, xv, fev, fvl, gtI, Int.one_mul, Int.add_zero, Int.zero_add, PR, List.append_nil]
  intro k k0 k1 k2
  by_cases e : k = m
  · subst e
    have q1 := p2 k (by omega) (by omega) (by omega) (by omega)
    refine ⟨fun w => ?_, fun w => ?_⟩ <;> omega
  · exact p1 k k0 (by omega) k2
def r_book_ex1 : eRul := (9, [xP 9 [xv 0, xv 1, xv 2, xv 3, xv 4], xP 3 [xv 0, xv 3, ([(3, 1)], 1), xv 5, xv 6], xP 3 [xv 1, xv 3, ([(3, 1)], 1), xv 7, xv 8], xG (([(5, -1)], 10)), xG (([(7, -1)], 0)), xG (([(8, 1)], -5)), xG (([(3, 1)], -39))], 0, [xP 9 [xv 0, xv 1, xv 2, ([(3, 1)], 1), xv 4]])
theorem r_book_ex1_ok : ruOk r_book_ex1 := by
  intro ρ hl0 hp
  obtain ⟨A, t0, rfl, hl1⟩ := len_inv hl0
  obtain ⟨G, t1, rfl, hl2⟩ := len_inv hl1
  obtain ⟨Q, t2, rfl, hl3⟩ := len_inv hl2
  obtain ⟨m, t3, rfl, hl4⟩ := len_inv hl3
  obtain ⟨R, t4, rfl, hl5⟩ := len_inv hl4
  obtain ⟨a, t5, rfl, hl6⟩ := len_inv hl5
  obtain ⟨b, t6, rfl, hl7⟩ := len_inv hl6
  obtain ⟨c, t7, rfl, hl8⟩ := len_inv hl7
  obtain ⟨d, t8, rfl, hl9⟩ := len_inv hl8
  have hl := List.eq_nil_of_length_eq_zero hl9
  subst hl
  have p1 := p_get (fOk_hd hp)
  have p2 := p_get (fOk_hd (fOk_tl hp))
  have p3 := p_get (fOk_hd (fOk_tl (fOk_tl hp)))
  have p4 := gg_get (fOk_hd (fOk_tl (fOk_tl (fOk_tl hp))))
  have p5 := gg_get (fOk_hd (fOk_tl (fOk_tl (fOk_tl (fOk_tl hp)))))
  have p6 := gg_get (fOk_hd (fOk_tl (fOk_tl (fOk_tl (fOk_tl (fOk_tl hp))))))
  have p7 := gg_get (fOk_hd (fOk_tl (fOk_tl (fOk_tl (fOk_tl (fOk_tl (fOk_tl hp)))))))
  simp only [List.map, xv, fev, fvl, gtI, Int.one_mul, Int.add_zero, Int.zero_add, PR] at p1 p2 p3 p4 p5 p6 p7
  refine ⟨[], rfl, fOk_cons (p_put rfl ?_) fOk_nil⟩ <;> simp only [List.map, xv, fev, fvl, gtI, Int.one_mul, Int.add_zero, Int.zero_add, PR, List.append_nil]
  intro k k0 k1 k2
  by_cases e : k = m
  · subst e
    have q1 := p2 k (by omega) (by omega) (by omega) (by omega)
    have q2 := p3 k (by omega) (by omega) (by omega) (by omega)
    refine ⟨fun w => ?_, fun w => ?_⟩ <;> omega
  · exact p1 k k0 (by omega) k2
def r_book_ex2 : eRul := (11, [xP 9 [xv 0, xv 1, xv 2, xv 3, xv 4], xP 3 [xv 0, xv 3, ([(3, 1)], 1), xv 5, xv 6], xP 3 [xv 1, xv 3, ([(3, 1)], 1), xv 7, xv 8], xP 3 [xv 2, xv 3, ([(3, 1)], 1), xv 9, xv 10], xG (([(7, -1)], 0)), xG (([(8, 1)], -5)), xG (([(9, -1)], 0)), xG (([(4, -1), (10, 1)], 1)), xG (([(3, 1)], -39))], 0, [xP 9 [xv 0, xv 1, xv 2, ([(3, 1)], 1), xv 4]])
theorem r_book_ex2_ok : ruOk r_book_ex2 := by
  intro ρ hl0 hp
  obtain ⟨A, t0, rfl, hl1⟩ := len_inv hl0
  obtain ⟨G, t1, rfl, hl2⟩ := len_inv hl1
  obtain ⟨Q, t2, rfl, hl3⟩ := len_inv hl2
  obtain ⟨m, t3, rfl, hl4⟩ := len_inv hl3
  obtain ⟨R, t4, rfl, hl5⟩ := len_inv hl4
  obtain ⟨a, t5, rfl, hl6⟩ := len_inv hl5
  obtain ⟨b, t6, rfl, hl7⟩ := len_inv hl6
  obtain ⟨c, t7, rfl, hl8⟩ := len_inv hl7
  obtain ⟨d, t8, rfl, hl9⟩ := len_inv hl8
  obtain ⟨e, t9, rfl, hl10⟩ := len_inv hl9
  obtain ⟨f, t10, rfl, hl11⟩ := len_inv hl10
  have hl := List.eq_nil_of_length_eq_zero hl11
  subst hl
  have p1 := p_get (fOk_hd hp)
  have p2 := p_get (fOk_hd (fOk_tl hp))
  have p3 := p_get (fOk_hd (fOk_tl (fOk_tl hp)))
  have p4 := p_get (fOk_hd (fOk_tl (fOk_tl (fOk_tl hp))))
  have p5 := gg_get (fOk_hd (fOk_tl (fOk_tl (fOk_tl (fOk_tl hp)))))
  have p6 := gg_get (fOk_hd (fOk_tl (fOk_tl (fOk_tl (fOk_tl (fOk_tl hp))))))
  have p7 := gg_get (fOk_hd (fOk_tl (fOk_tl (fOk_tl (fOk_tl (fOk_tl (fOk_tl hp)))))))
  have p8 := gg_get (fOk_hd (fOk_tl (fOk_tl (fOk_tl (fOk_tl (fOk_tl (fOk_tl (fOk_tl hp))))))))
  have p9 := gg_get (fOk_hd (fOk_tl (fOk_tl (fOk_tl (fOk_tl (fOk_tl (fOk_tl (fOk_tl (fOk_tl hp)))))))))
  simp only [List.map, xv, fev, fvl, gtI, Int.one_mul, Int.add_zero, Int.zero_add, PR] at p1 p2 p3 p4 p5 p6 p7 p8 p9
  refine ⟨[], rfl, fOk_cons (p_put rfl ?_) fOk_nil⟩ <;> simp only [List.map, xv, fev, fvl, gtI, Int.one_mul, Int.add_zero, Int.zero_add, PR, List.append_nil]
  intro k k0 k1 k2
  by_cases ee : k = m
  · subst ee
    have q1 := p2 k (by omega) (by omega) (by omega) (by omega)
    have q2 := p3 k (by omega) (by omega) (by omega) (by omega)
    have q3 := p4 k (by omega) (by omega) (by omega) (by omega)
    refine ⟨fun w => ?_, fun w => ?_⟩ <;> omega
  · exact p1 k k0 (by omega) k2
def r_book_le : eRul := (6, [xP 9 [xv 0, xv 1, xv 2, xv 3, xv 4], xG (([(3, -1), (5, 1)], 0))], 0, [xP 9 [xv 0, xv 1, xv 2, xv 5, xv 4]])
theorem r_book_le_ok : ruOk r_book_le := by
  intro ρ hl0 hp
  obtain ⟨A, t0, rfl, hl1⟩ := len_inv hl0
  obtain ⟨G, t1, rfl, hl2⟩ := len_inv hl1
  obtain ⟨Q, t2, rfl, hl3⟩ := len_inv hl2
  obtain ⟨m, t3, rfl, hl4⟩ := len_inv hl3
  obtain ⟨R, t4, rfl, hl5⟩ := len_inv hl4
  obtain ⟨k, t5, rfl, hl6⟩ := len_inv hl5
  have hl := List.eq_nil_of_length_eq_zero hl6
  subst hl
  have p1 := p_get (fOk_hd hp)
  have p2 := gg_get (fOk_hd (fOk_tl hp))
  simp only [List.map, xv, fev, fvl, gtI, Int.one_mul, Int.add_zero, Int.zero_add, PR] at p1 p2
  refine ⟨[], rfl, fOk_cons (p_put rfl ?_) fOk_nil⟩ <;> simp only [List.map, xv, fev, fvl, gtI, Int.one_mul, Int.add_zero, Int.zero_add, PR, List.append_nil]
  intro j j0 j1 j2
  exact p1 j j0 (by omega) j2
def r_book_g : eRul := (7, [xP 9 [xv 0, xv 1, xv 2, xv 3, xv 4], xP 1 [xv 6, xv 0, xv 5], xG (([(3, -1), (5, 1)], 1)), xG (([(5, 1)], -39)), (.inl [[(9, 10)]], [xv 6])], 0, [xP 3 [xv 1, xv 5, ([(5, 1)], 1), ([], 0), ([], 5)]])
theorem r_book_g_ok : ruOk r_book_g := by
  intro ρ hl0 hp
  obtain ⟨A, t0, rfl, hl1⟩ := len_inv hl0
  obtain ⟨G, t1, rfl, hl2⟩ := len_inv hl1
  obtain ⟨Q, t2, rfl, hl3⟩ := len_inv hl2
  obtain ⟨m, t3, rfl, hl4⟩ := len_inv hl3
  obtain ⟨R, t4, rfl, hl5⟩ := len_inv hl4
  obtain ⟨i, t5, rfl, hl6⟩ := len_inv hl5
  obtain ⟨a, t6, rfl, hl7⟩ := len_inv hl6
  have hl := List.eq_nil_of_length_eq_zero hl7
  subst hl
  have p1 := p_get (fOk_hd hp)
  have p2 := p_get (fOk_hd (fOk_tl hp))
  have p3 := gg_get (fOk_hd (fOk_tl (fOk_tl hp)))
  have p4 := gg_get (fOk_hd (fOk_tl (fOk_tl (fOk_tl hp))))
  have p5 := i_get (fOk_hd (fOk_tl (fOk_tl (fOk_tl (fOk_tl hp)))))
  simp only [List.map, xv, fev, fvl, gtI, Int.one_mul, Int.add_zero, Int.zero_add, PR] at p1 p2 p3 p4 p5
  refine ⟨[], rfl, fOk_cons (p_put rfl ?_) fOk_nil⟩ <;> simp only [List.map, xv, fev, fvl, gtI, Int.one_mul, Int.add_zero, Int.zero_add, PR, List.append_nil]
  obtain ⟨u1, u2⟩ := p2
  intro j j0 j1 j2 j3
  have e : j = i := by omega
  subst e
  have q := p1 j j0 (by omega) (by omega)
  omega
def r_book_q : eRul := (7, [xP 9 [xv 0, xv 1, xv 2, xv 3, xv 4], xP 1 [xv 6, xv 0, xv 5], xG (([(3, -1), (5, 1)], 1)), xG (([(5, 1)], -39)), (.inl [[(9, 9)]], [xv 6])], 0, [xP 3 [xv 2, xv 5, ([(5, 1)], 1), ([], 0), ([(4, 1)], -1)]])
theorem r_book_q_ok : ruOk r_book_q := by
  intro ρ hl0 hp
  obtain ⟨A, t0, rfl, hl1⟩ := len_inv hl0
  obtain ⟨G, t1, rfl, hl2⟩ := len_inv hl1
  obtain ⟨Q, t2, rfl, hl3⟩ := len_inv hl2
  obtain ⟨m, t3, rfl, hl4⟩ := len_inv hl3
  obtain ⟨R, t4, rfl, hl5⟩ := len_inv hl4
  obtain ⟨i, t5, rfl, hl6⟩ := len_inv hl5
  obtain ⟨a, t6, rfl, hl7⟩ := len_inv hl6
  have hl := List.eq_nil_of_length_eq_zero hl7
  subst hl
  have p1 := p_get (fOk_hd hp)
  have p2 := p_get (fOk_hd (fOk_tl hp))
  have p3 := gg_get (fOk_hd (fOk_tl (fOk_tl hp)))
  have p4 := gg_get (fOk_hd (fOk_tl (fOk_tl (fOk_tl hp))))
  have p5 := i_get (fOk_hd (fOk_tl (fOk_tl (fOk_tl (fOk_tl hp)))))
  simp only [List.map, xv, fev, fvl, gtI, Int.one_mul, Int.add_zero, Int.zero_add, PR] at p1 p2 p3 p4 p5
  refine ⟨[], rfl, fOk_cons (p_put rfl ?_) fOk_nil⟩ <;> simp only [List.map, xv, fev, fvl, gtI, Int.one_mul, Int.add_zero, Int.zero_add, PR, List.append_nil]
  obtain ⟨u1, u2⟩ := p2
  intro j j0 j1 j2 j3
  have e : j = i := by omega
  subst e
  have q := p1 j j0 (by omega) (by omega)
  omega
def r_snap_a : eRul := (5, [xP 10 [xv 1], xP 2 [xv 0, xv 1, ([(2, 36), (3, 1)], 0), xv 4], xG (([(3, -1)], 0)), xG (([(3, 1)], -9)), xG (([(2, -1)], 0)), xG (([(2, 1)], -7))], 0, [xP 10 [xv 0]])
theorem r_snap_a_ok : ruOk r_snap_a := by
  intro ρ hl0 hp
  obtain ⟨z', t0, rfl, hl1⟩ := len_inv hl0
  obtain ⟨z, t1, rfl, hl2⟩ := len_inv hl1
  obtain ⟨m, t2, rfl, hl3⟩ := len_inv hl2
  obtain ⟨k, t3, rfl, hl4⟩ := len_inv hl3
  obtain ⟨v, t4, rfl, hl5⟩ := len_inv hl4
  have hl := List.eq_nil_of_length_eq_zero hl5
  subst hl
  have p1 := p_get (fOk_hd hp)
  have p2 := p_get (fOk_hd (fOk_tl hp))
  have p3 := gg_get (fOk_hd (fOk_tl (fOk_tl hp)))
  have p4 := gg_get (fOk_hd (fOk_tl (fOk_tl (fOk_tl hp))))
  have p5 := gg_get (fOk_hd (fOk_tl (fOk_tl (fOk_tl (fOk_tl hp)))))
  have p6 := gg_get (fOk_hd (fOk_tl (fOk_tl (fOk_tl (fOk_tl (fOk_tl hp))))))
  simp only [List.map, xv, fev, fvl, gtI, Int.one_mul, Int.add_zero, Int.zero_add, PR] at p1 p2 p3 p4 p5 p6
  refine ⟨[], rfl, fOk_cons (p_put rfl ?_) fOk_nil⟩ <;> simp only [List.map, xv, fev, fvl, gtI, Int.one_mul, Int.add_zero, Int.zero_add, PR, List.append_nil]
  obtain ⟨u1, u2, u3, rfl⟩ := p2
  intro b j b0 b1 j0 j1
  rw [dcd_un u3 (by omega) (by omega)]
  exact p1 b j b0 b1 j0 j1
def r_snap_b : eRul := (5, [xP 10 [xv 1], xP 2 [xv 0, xv 1, ([(2, 36), (3, 1)], 0), xv 4], xG (([(3, -1)], 16)), xG (([(3, 1)], -35)), xG (([(2, -1)], 0)), xG (([(2, 1)], -7))], 0, [xP 10 [xv 0]])
theorem r_snap_b_ok : ruOk r_snap_b := by
  intro ρ hl0 hp
  obtain ⟨z', t0, rfl, hl1⟩ := len_inv hl0
  obtain ⟨z, t1, rfl, hl2⟩ := len_inv hl1
  obtain ⟨m, t2, rfl, hl3⟩ := len_inv hl2
  obtain ⟨k, t3, rfl, hl4⟩ := len_inv hl3
  obtain ⟨v, t4, rfl, hl5⟩ := len_inv hl4
  have hl := List.eq_nil_of_length_eq_zero hl5
  subst hl
  have p1 := p_get (fOk_hd hp)
  have p2 := p_get (fOk_hd (fOk_tl hp))
  have p3 := gg_get (fOk_hd (fOk_tl (fOk_tl hp)))
  have p4 := gg_get (fOk_hd (fOk_tl (fOk_tl (fOk_tl hp))))
  have p5 := gg_get (fOk_hd (fOk_tl (fOk_tl (fOk_tl (fOk_tl hp)))))
  have p6 := gg_get (fOk_hd (fOk_tl (fOk_tl (fOk_tl (fOk_tl (fOk_tl hp))))))
  simp only [List.map, xv, fev, fvl, gtI, Int.one_mul, Int.add_zero, Int.zero_add, PR] at p1 p2 p3 p4 p5 p6
  refine ⟨[], rfl, fOk_cons (p_put rfl ?_) fOk_nil⟩ <;> simp only [List.map, xv, fev, fvl, gtI, Int.one_mul, Int.add_zero, Int.zero_add, PR, List.append_nil]
  obtain ⟨u1, u2, u3, rfl⟩ := p2
  intro b j b0 b1 j0 j1
  rw [dcd_un u3 (by omega) (by omega)]
  exact p1 b j b0 b1 j0 j1
def r_snap_c : eRul := (5, [xP 10 [xv 1], xP 2 [xv 0, xv 1, ([(2, 36), (3, 1)], 0), xv 4], xG (([(4, -1)], -1)), xG (([(4, 1)], -7)), xG (([(3, -1)], 0)), xG (([(3, 1)], -35)), xG (([(2, -1)], 0)), xG (([(2, 1)], -7))], 0, [xP 10 [xv 0]])
theorem r_snap_c_ok : ruOk r_snap_c := by
  intro ρ hl0 hp
  obtain ⟨z', t0, rfl, hl1⟩ := len_inv hl0
  obtain ⟨z, t1, rfl, hl2⟩ := len_inv hl1
  obtain ⟨m, t2, rfl, hl3⟩ := len_inv hl2
  obtain ⟨k, t3, rfl, hl4⟩ := len_inv hl3
  obtain ⟨v, t4, rfl, hl5⟩ := len_inv hl4
  have hl := List.eq_nil_of_length_eq_zero hl5
  subst hl
  have p1 := p_get (fOk_hd hp)
  have p2 := p_get (fOk_hd (fOk_tl hp))
  have p3 := gg_get (fOk_hd (fOk_tl (fOk_tl hp)))
  have p4 := gg_get (fOk_hd (fOk_tl (fOk_tl (fOk_tl hp))))
  have p5 := gg_get (fOk_hd (fOk_tl (fOk_tl (fOk_tl (fOk_tl hp)))))
  have p6 := gg_get (fOk_hd (fOk_tl (fOk_tl (fOk_tl (fOk_tl (fOk_tl hp))))))
  have p7 := gg_get (fOk_hd (fOk_tl (fOk_tl (fOk_tl (fOk_tl (fOk_tl (fOk_tl hp)))))))
  have p8 := gg_get (fOk_hd (fOk_tl (fOk_tl (fOk_tl (fOk_tl (fOk_tl (fOk_tl (fOk_tl hp))))))))
  simp only [List.map, xv, fev, fvl, gtI, Int.one_mul, Int.add_zero, Int.zero_add, PR] at p1 p2 p3 p4 p5 p6 p7 p8
  refine ⟨[], rfl, fOk_cons (p_put rfl ?_) fOk_nil⟩ <;> simp only [List.map, xv, fev, fvl, gtI, Int.one_mul, Int.add_zero, Int.zero_add, PR, List.append_nil]
  obtain ⟨u1, u2, u3, rfl⟩ := p2
  intro b j b0 b1 j0 j1
  by_cases e : 36 * b + j = 36 * m + k
  · rw [e, dcd_us u3 (by omega)]
    omega
  · rw [dcd_un u3 (by omega) (by omega)]
    exact p1 b j b0 b1 j0 j1
def r_snap_s : eRul := (4, [xP 10 [xv 1], xP 2 [xv 0, xv 1, xv 2, xv 3], xP 1 [xv 3, xv 1, ([(2, 1)], 36)], xG (([(2, -1)], 0)), xG (([(2, 1)], -251))], 0, [xP 10 [xv 0]])
theorem r_snap_s_ok : ruOk r_snap_s := by
  intro ρ hl0 hp
  obtain ⟨z', t0, rfl, hl1⟩ := len_inv hl0
  obtain ⟨z, t1, rfl, hl2⟩ := len_inv hl1
  obtain ⟨k, t2, rfl, hl3⟩ := len_inv hl2
  obtain ⟨v, t3, rfl, hl4⟩ := len_inv hl3
  have hl := List.eq_nil_of_length_eq_zero hl4
  subst hl
  have p1 := p_get (fOk_hd hp)
  have p2 := p_get (fOk_hd (fOk_tl hp))
  have p3 := p_get (fOk_hd (fOk_tl (fOk_tl hp)))
  have p4 := gg_get (fOk_hd (fOk_tl (fOk_tl (fOk_tl hp))))
  have p5 := gg_get (fOk_hd (fOk_tl (fOk_tl (fOk_tl (fOk_tl hp)))))
  simp only [List.map, xv, fev, fvl, gtI, Int.one_mul, Int.add_zero, Int.zero_add, PR] at p1 p2 p3 p4 p5
  refine ⟨[], rfl, fOk_cons (p_put rfl ?_) fOk_nil⟩ <;> simp only [List.map, xv, fev, fvl, gtI, Int.one_mul, Int.add_zero, Int.zero_add, PR, List.append_nil]
  obtain ⟨u1, u2, u3, rfl⟩ := p2
  intro b j b0 b1 j0 j1
  obtain ⟨w1, w2⟩ := p3
  by_cases e : 36 * b + j = k
  · rw [e, dcd_us u3 (by omega), ← w2]
    have q := p1 (b + 1) j (by omega) (by omega) j0 j1
    rw [show 36 * (b + 1) + j = k + 36 by omega] at q
    exact q
  · rw [dcd_un u3 (by omega) (by omega)]
    exact p1 b j b0 b1 j0 j1
def r_snap_u : eRul := (4, [xP 10 [xv 0], xP 1 [xv 3, xv 0, ([(1, 36), (2, 1)], 0)], xG (([(1, -1)], 0)), xG (([(1, 1)], -7)), xG (([(2, -1)], 10)), xG (([(2, 1)], -15))], 0, [(.inl [[(-1, 7)]], [xv 3])])
theorem r_snap_u_ok : ruOk r_snap_u := by
  intro ρ hl0 hp
  obtain ⟨z, t0, rfl, hl1⟩ := len_inv hl0
  obtain ⟨m, t1, rfl, hl2⟩ := len_inv hl1
  obtain ⟨k, t2, rfl, hl3⟩ := len_inv hl2
  obtain ⟨x, t3, rfl, hl4⟩ := len_inv hl3
  have hl := List.eq_nil_of_length_eq_zero hl4
  subst hl
  have p1 := p_get (fOk_hd hp)
  have p2 := p_get (fOk_hd (fOk_tl hp))
  have p3 := gg_get (fOk_hd (fOk_tl (fOk_tl hp)))
  have p4 := gg_get (fOk_hd (fOk_tl (fOk_tl (fOk_tl hp))))
  have p5 := gg_get (fOk_hd (fOk_tl (fOk_tl (fOk_tl (fOk_tl hp)))))
  have p6 := gg_get (fOk_hd (fOk_tl (fOk_tl (fOk_tl (fOk_tl (fOk_tl hp))))))
  simp only [List.map, xv, fev, fvl, gtI, Int.one_mul, Int.add_zero, Int.zero_add, PR] at p1 p2 p3 p4 p5 p6
  refine ⟨[], rfl, fOk_cons (i_put rfl ?_ ?_) fOk_nil⟩ <;> simp only [List.map, xv, fev, fvl, gtI, Int.one_mul, Int.add_zero, Int.zero_add, PR, List.append_nil]
  · obtain ⟨u1, u2⟩ := p2
    have q := p1 m k (by omega) (by omega) (by omega) (by omega)
    omega
  · obtain ⟨u1, u2⟩ := p2
    have q := p1 m k (by omega) (by omega) (by omega) (by omega)
    omega
def r_snap_rg : eRul := (5, [xP 3 [xv 0, xv 1, xv 2, xv 3, xv 4], xG (xv 1), xG (([(2, -1)], 288)), xG (([(3, -1)], -1)), xG (([(4, 1)], -7))], 0, [xP 10 [xv 0]])
theorem r_snap_rg_ok : ruOk r_snap_rg := by
  intro ρ hl0 hp
  obtain ⟨z, t0, rfl, hl1⟩ := len_inv hl0
  obtain ⟨a, t1, rfl, hl2⟩ := len_inv hl1
  obtain ⟨e, t2, rfl, hl3⟩ := len_inv hl2
  obtain ⟨l, t3, rfl, hl4⟩ := len_inv hl3
  obtain ⟨h, t4, rfl, hl5⟩ := len_inv hl4
  have hl := List.eq_nil_of_length_eq_zero hl5
  subst hl
  have p1 := p_get (fOk_hd hp)
  have p2 := gg_get (fOk_hd (fOk_tl hp))
  have p3 := gg_get (fOk_hd (fOk_tl (fOk_tl hp)))
  have p4 := gg_get (fOk_hd (fOk_tl (fOk_tl (fOk_tl hp))))
  have p5 := gg_get (fOk_hd (fOk_tl (fOk_tl (fOk_tl (fOk_tl hp)))))
  simp only [List.map, xv, fev, fvl, gtI, Int.one_mul, Int.add_zero, Int.zero_add, PR] at p1 p2 p3 p4 p5
  refine ⟨[], rfl, fOk_cons (p_put rfl ?_) fOk_nil⟩ <;> simp only [List.map, xv, fev, fvl, gtI, Int.one_mul, Int.add_zero, Int.zero_add, PR, List.append_nil]
  intro b j b0 b1 j0 j1
  have q := p1 (36 * b + j) (by omega) (by omega) (by omega) (by omega)
  omega
def r_cpy_no : eRul := (5, [xG (xv 4)], 0, [xP 11 [xv 0, xv 1, xv 2, xv 3, xv 4]])
theorem r_cpy_no_ok : ruOk r_cpy_no := by
  intro ρ hl0 hp
  obtain ⟨z, t0, rfl, hl1⟩ := len_inv hl0
  obtain ⟨n, t1, rfl, hl2⟩ := len_inv hl1
  obtain ⟨b, t2, rfl, hl3⟩ := len_inv hl2
  obtain ⟨a, t3, rfl, hl4⟩ := len_inv hl3
  obtain ⟨m, t4, rfl, hl5⟩ := len_inv hl4
  have hl := List.eq_nil_of_length_eq_zero hl5
  subst hl
  have p1 := gg_get (fOk_hd hp)
  simp only [List.map, xv, fev, fvl, gtI, Int.one_mul, Int.add_zero, Int.zero_add, PR] at p1
  refine ⟨[], rfl, fOk_cons (p_put rfl ?_) fOk_nil⟩ <;> simp only [List.map, xv, fev, fvl, gtI, Int.one_mul, Int.add_zero, Int.zero_add, PR, List.append_nil]
  intro j j0 j1 j2
  omega
def r_cpy_ext : eRul := (7, [xP 11 [xv 1, xv 2, xv 3, xv 4, xv 5], xP 2 [xv 0, xv 1, ([(3, 1), (5, 1)], 0), xv 6], xP 1 [xv 6, xv 2, ([(4, 1), (5, 1)], 0)], xG (([(3, -1)], 0)), xG (([(5, -1)], 0))], 0, [xP 11 [xv 0, xv 2, xv 3, xv 4, ([(5, 1)], 1)]])
theorem r_cpy_ext_ok : ruOk r_cpy_ext := by
  intro ρ hl0 hp
  obtain ⟨z', t0, rfl, hl1⟩ := len_inv hl0
  obtain ⟨z, t1, rfl, hl2⟩ := len_inv hl1
  obtain ⟨n, t2, rfl, hl3⟩ := len_inv hl2
  obtain ⟨b, t3, rfl, hl4⟩ := len_inv hl3
  obtain ⟨a, t4, rfl, hl5⟩ := len_inv hl4
  obtain ⟨m, t5, rfl, hl6⟩ := len_inv hl5
  obtain ⟨x, t6, rfl, hl7⟩ := len_inv hl6
  have hl := List.eq_nil_of_length_eq_zero hl7
  subst hl
  have p1 := p_get (fOk_hd hp)
  have p2 := p_get (fOk_hd (fOk_tl hp))
  have p3 := p_get (fOk_hd (fOk_tl (fOk_tl hp)))
  have p4 := gg_get (fOk_hd (fOk_tl (fOk_tl (fOk_tl hp))))
  have p5 := gg_get (fOk_hd (fOk_tl (fOk_tl (fOk_tl (fOk_tl hp)))))
  simp only [List.map, xv, fev, fvl, gtI, Int.one_mul, Int.add_zero, Int.zero_add, PR] at p1 p2 p3 p4 p5
  refine ⟨[], rfl, fOk_cons (p_put rfl ?_) fOk_nil⟩ <;> simp only [List.map, xv, fev, fvl, gtI, Int.one_mul, Int.add_zero, Int.zero_add, PR, List.append_nil]
  obtain ⟨u1, u2, u3, rfl⟩ := p2
  obtain ⟨w1, w2⟩ := p3
  intro j j0 j1 j2
  by_cases e : j = m
  · rw [e, dcd_us u3 (by omega), w2]
  · rw [dcd_un u3 (by omega) (by omega)]
    exact p1 j j0 (by omega) j2
def r_out_no : eRul := (3, [], 0, [xP 12 [xv 0, xv 0, xv 1, xv 2]])
theorem r_out_no_ok : ruOk r_out_no := by
  intro ρ hl0 hp
  obtain ⟨z, t0, rfl, hl1⟩ := len_inv hl0
  obtain ⟨a, t1, rfl, hl2⟩ := len_inv hl1
  obtain ⟨b, t2, rfl, hl3⟩ := len_inv hl2
  have hl := List.eq_nil_of_length_eq_zero hl3
  subst hl
  refine ⟨[], rfl, fOk_cons (p_put rfl ?_) fOk_nil⟩ <;> simp only [List.map, xv, fev, fvl, gtI, Int.one_mul, Int.add_zero, Int.zero_add, PR, List.append_nil]
  intro j j0 j1 j2
  rfl
def r_out_ext : eRul := (7, [xP 12 [xv 1, xv 2, xv 5, xv 6], xP 2 [xv 0, xv 1, xv 3, xv 4], xG (([(3, -1), (5, 1)], 0)), xG (([(3, 1), (6, -1)], 1))], 0, [xP 12 [xv 0, xv 2, xv 5, xv 6]])
theorem r_out_ext_ok : ruOk r_out_ext := by
  intro ρ hl0 hp
  obtain ⟨z', t0, rfl, hl1⟩ := len_inv hl0
  obtain ⟨z, t1, rfl, hl2⟩ := len_inv hl1
  obtain ⟨n, t2, rfl, hl3⟩ := len_inv hl2
  obtain ⟨i, t3, rfl, hl4⟩ := len_inv hl3
  obtain ⟨v, t4, rfl, hl5⟩ := len_inv hl4
  obtain ⟨a, t5, rfl, hl6⟩ := len_inv hl5
  obtain ⟨b, t6, rfl, hl7⟩ := len_inv hl6
  have hl := List.eq_nil_of_length_eq_zero hl7
  subst hl
  have p1 := p_get (fOk_hd hp)
  have p2 := p_get (fOk_hd (fOk_tl hp))
  have p3 := gg_get (fOk_hd (fOk_tl (fOk_tl hp)))
  have p4 := gg_get (fOk_hd (fOk_tl (fOk_tl (fOk_tl hp))))
  simp only [List.map, xv, fev, fvl, gtI, Int.one_mul, Int.add_zero, Int.zero_add, PR] at p1 p2 p3 p4
  refine ⟨[], rfl, fOk_cons (p_put rfl ?_) fOk_nil⟩ <;> simp only [List.map, xv, fev, fvl, gtI, Int.one_mul, Int.add_zero, Int.zero_add, PR, List.append_nil]
  obtain ⟨u1, u2, u3, rfl⟩ := p2
  intro j j0 j1 j2
  rw [dcd_un u3 (by omega) (by omega)]
  exact p1 j j0 j1 j2
def r_now_in : eRul := (2, [xP 3 [xv 0, xv 1, ([(1, 1)], 1), ([], 0), ([], 5)], xP 3 [xv 0, ([(1, 1)], 1), ([(1, 1)], 2), ([], 0), ([], 8)], xP 3 [xv 0, ([(1, 1)], 2), ([(1, 1)], 3), ([], 0), ([], 6)], xP 3 [xv 0, ([(1, 1)], 3), ([(1, 1)], 4), ([], 1), ([], 30)], xP 3 [xv 0, ([(1, 1)], 18), ([(1, 1)], 26), ([], 0), ([], 4)], xP 3 [xv 0, ([(1, 1)], 60), ([(1, 1)], 66), ([], -1), ([], 7)], xP 3 [xv 0, ([(1, 1)], 82), ([(1, 1)], 88), ([], -1), ([], 7)], xP 3 [xv 0, ([(1, 1)], 109), ([(1, 1)], 110), ([], 0), ([], 39)], xP 7 [xv 0, ([(1, 1)], 110)]], 0, [xP 13 [xv 0, xv 1]])
theorem r_now_in_ok : ruOk r_now_in := by
  intro ρ hl0 hp
  obtain ⟨z, t0, rfl, hl1⟩ := len_inv hl0
  obtain ⟨b, t1, rfl, hl2⟩ := len_inv hl1
  have hl := List.eq_nil_of_length_eq_zero hl2
  subst hl
  have p1 := p_get (fOk_hd hp)
  have p2 := p_get (fOk_hd (fOk_tl hp))
  have p3 := p_get (fOk_hd (fOk_tl (fOk_tl hp)))
  have p4 := p_get (fOk_hd (fOk_tl (fOk_tl (fOk_tl hp))))
  have p5 := p_get (fOk_hd (fOk_tl (fOk_tl (fOk_tl (fOk_tl hp)))))
  have p6 := p_get (fOk_hd (fOk_tl (fOk_tl (fOk_tl (fOk_tl (fOk_tl hp))))))
  have p7 := p_get (fOk_hd (fOk_tl (fOk_tl (fOk_tl (fOk_tl (fOk_tl (fOk_tl hp)))))))
  have p8 := p_get (fOk_hd (fOk_tl (fOk_tl (fOk_tl (fOk_tl (fOk_tl (fOk_tl (fOk_tl hp))))))))
  have p9 := p_get (fOk_hd (fOk_tl (fOk_tl (fOk_tl (fOk_tl (fOk_tl (fOk_tl (fOk_tl (fOk_tl hp)))))))))
  simp only [List.map, xv, fev, fvl, gtI, Int.one_mul, Int.add_zero, Int.zero_add, PR] at p1 p2 p3 p4 p5 p6 p7 p8 p9
  refine ⟨[], rfl, fOk_cons (p_put rfl ?_) fOk_nil⟩ <;> simp only [List.map, xv, fev, fvl, gtI, Int.one_mul, Int.add_zero, Int.zero_add, PR, List.append_nil]
  exact ⟨p1, p2, p3, p4, p5, p6, p7, p8, p9⟩
def r_now_el : eRul := (2, [xP 13 [xv 0, xv 1]], 0, [xP 3 [xv 0, xv 1, ([(1, 1)], 1), ([], 0), ([], 5)], xP 3 [xv 0, ([(1, 1)], 1), ([(1, 1)], 2), ([], 0), ([], 8)], xP 3 [xv 0, ([(1, 1)], 2), ([(1, 1)], 3), ([], 0), ([], 6)], xP 3 [xv 0, ([(1, 1)], 3), ([(1, 1)], 4), ([], 1), ([], 30)], xP 3 [xv 0, ([(1, 1)], 18), ([(1, 1)], 26), ([], 0), ([], 4)], xP 3 [xv 0, ([(1, 1)], 60), ([(1, 1)], 66), ([], -1), ([], 7)], xP 3 [xv 0, ([(1, 1)], 82), ([(1, 1)], 88), ([], -1), ([], 7)], xP 3 [xv 0, ([(1, 1)], 109), ([(1, 1)], 110), ([], 0), ([], 39)], xP 7 [xv 0, ([(1, 1)], 110)]])
theorem r_now_el_ok : ruOk r_now_el := by
  intro ρ hl0 hp
  obtain ⟨z, t0, rfl, hl1⟩ := len_inv hl0
  obtain ⟨b, t1, rfl, hl2⟩ := len_inv hl1
  have hl := List.eq_nil_of_length_eq_zero hl2
  subst hl
  have p1 := p_get (fOk_hd hp)
  simp only [List.map, xv, fev, fvl, gtI, Int.one_mul, Int.add_zero, Int.zero_add, PR] at p1
  refine ⟨[], rfl, fOk_cons (p_put rfl ?_) (fOk_cons (p_put rfl ?_) (fOk_cons (p_put rfl ?_) (fOk_cons (p_put rfl ?_) (fOk_cons (p_put rfl ?_) (fOk_cons (p_put rfl ?_) (fOk_cons (p_put rfl ?_) (fOk_cons (p_put rfl ?_) (fOk_cons (p_put rfl ?_) fOk_nil))))))))⟩ <;> simp only [List.map, xv, fev, fvl, gtI, Int.one_mul, Int.add_zero, Int.zero_add, PR, List.append_nil]
  · exact p1.1
  · exact p1.2.1
  · exact p1.2.2.1
  · exact p1.2.2.2.1
  · exact p1.2.2.2.2.1
  · exact p1.2.2.2.2.2.1
  · exact p1.2.2.2.2.2.2.1
  · exact p1.2.2.2.2.2.2.2.1
  · exact p1.2.2.2.2.2.2.2.2
def r_now_cpy : eRul := (5, [xP 13 [xv 1, xv 3], xP 11 [xv 0, xv 1, xv 2, xv 3, xv 4], xG (([(4, -1)], 350)), xG (([(2, -1)], 0)), xG (([(2, 1)], -3700)), xG (([(3, -1)], 0)), xG (([(3, 1)], -3700))], 0, [xP 13 [xv 0, xv 2]])
theorem r_now_cpy_ok : ruOk r_now_cpy := by
  intro ρ hl0 hp
  obtain ⟨z, t0, rfl, hl1⟩ := len_inv hl0
  obtain ⟨n, t1, rfl, hl2⟩ := len_inv hl1
  obtain ⟨b, t2, rfl, hl3⟩ := len_inv hl2
  obtain ⟨a, t3, rfl, hl4⟩ := len_inv hl3
  obtain ⟨m, t4, rfl, hl5⟩ := len_inv hl4
  have hl := List.eq_nil_of_length_eq_zero hl5
  subst hl
  have p1 := p_get (fOk_hd hp)
  have p2 := p_get (fOk_hd (fOk_tl hp))
  have p3 := gg_get (fOk_hd (fOk_tl (fOk_tl hp)))
  have p4 := gg_get (fOk_hd (fOk_tl (fOk_tl (fOk_tl hp))))
  have p5 := gg_get (fOk_hd (fOk_tl (fOk_tl (fOk_tl (fOk_tl hp)))))
  have p6 := gg_get (fOk_hd (fOk_tl (fOk_tl (fOk_tl (fOk_tl (fOk_tl hp))))))
  have p7 := gg_get (fOk_hd (fOk_tl (fOk_tl (fOk_tl (fOk_tl (fOk_tl (fOk_tl hp)))))))
  simp only [List.map, xv, fev, fvl, gtI, Int.one_mul, Int.add_zero, Int.zero_add, PR] at p1 p2 p3 p4 p5 p6 p7
  refine ⟨[], rfl, fOk_cons (p_put rfl ?_) fOk_nil⟩ <;> simp only [List.map, xv, fev, fvl, gtI, Int.one_mul, Int.add_zero, Int.zero_add, PR, List.append_nil]
  exact pNow_cpy p1 p2 (by omega) (by omega) (by omega) (by omega) (by omega)
def r_kept_0 : eRul := (3, [xG (xv 2)], 0, [xP 14 [xv 0, xv 1, xv 2]])
theorem r_kept_0_ok : ruOk r_kept_0 := by
  intro ρ hl0 hp
  obtain ⟨z, t0, rfl, hl1⟩ := len_inv hl0
  obtain ⟨b, t1, rfl, hl2⟩ := len_inv hl1
  obtain ⟨f, t2, rfl, hl3⟩ := len_inv hl2
  have hl := List.eq_nil_of_length_eq_zero hl3
  subst hl
  have p1 := gg_get (fOk_hd hp)
  simp only [List.map, xv, fev, fvl, gtI, Int.one_mul, Int.add_zero, Int.zero_add, PR] at p1
  refine ⟨[], rfl, fOk_cons (p_put rfl ?_) fOk_nil⟩ <;> simp only [List.map, xv, fev, fvl, gtI, Int.one_mul, Int.add_zero, Int.zero_add, PR, List.append_nil]
  intro e
  omega
def r_kept_mv : eRul := (4, [xP 14 [xv 0, xv 1, xv 2], (.inl [[(0, 0)]], [([(1, 1), (3, -1)], 0)])], 0, [xP 14 [xv 0, xv 3, xv 2]])
theorem r_kept_mv_ok : ruOk r_kept_mv := by
  intro ρ hl0 hp
  obtain ⟨z, t0, rfl, hl1⟩ := len_inv hl0
  obtain ⟨b, t1, rfl, hl2⟩ := len_inv hl1
  obtain ⟨f, t2, rfl, hl3⟩ := len_inv hl2
  obtain ⟨c, t3, rfl, hl4⟩ := len_inv hl3
  have hl := List.eq_nil_of_length_eq_zero hl4
  subst hl
  have p1 := p_get (fOk_hd hp)
  have p2 := i_get (fOk_hd (fOk_tl hp))
  simp only [List.map, xv, fev, fvl, gtI, Int.one_mul, Int.add_zero, Int.zero_add, PR] at p1 p2
  refine ⟨[], rfl, fOk_cons (p_put rfl ?_) fOk_nil⟩ <;> simp only [List.map, xv, fev, fvl, gtI, Int.one_mul, Int.add_zero, Int.zero_add, PR, List.append_nil]
  intro e
  have w : b = c := by omega
  rw [← w]
  exact p1 e
def r_kept_in : eRul := (4, [xP 13 [xv 0, xv 1], (.inl [[(0, 0)]], [([(1, 1), (3, -1)], 0)])], 0, [xP 14 [xv 0, xv 3, xv 2]])
theorem r_kept_in_ok : ruOk r_kept_in := by
  intro ρ hl0 hp
  obtain ⟨z, t0, rfl, hl1⟩ := len_inv hl0
  obtain ⟨b, t1, rfl, hl2⟩ := len_inv hl1
  obtain ⟨f, t2, rfl, hl3⟩ := len_inv hl2
  obtain ⟨c, t3, rfl, hl4⟩ := len_inv hl3
  have hl := List.eq_nil_of_length_eq_zero hl4
  subst hl
  have p1 := p_get (fOk_hd hp)
  have p2 := i_get (fOk_hd (fOk_tl hp))
  simp only [List.map, xv, fev, fvl, gtI, Int.one_mul, Int.add_zero, Int.zero_add, PR] at p1 p2
  refine ⟨[], rfl, fOk_cons (p_put rfl ?_) fOk_nil⟩ <;> simp only [List.map, xv, fev, fvl, gtI, Int.one_mul, Int.add_zero, Int.zero_add, PR, List.append_nil]
  intro e
  have w : b = c := by omega
  rw [← w]
  exact p1
def r_kept_u : eRul := (4, [xP 14 [xv 0, xv 1, xv 2], xG (([(2, -1)], 1)), (.inl [[(0, 0)]], [([(1, 1), (3, -1)], 0)])], 0, [xP 13 [xv 0, xv 3]])
theorem r_kept_u_ok : ruOk r_kept_u := by
  intro ρ hl0 hp
  obtain ⟨z, t0, rfl, hl1⟩ := len_inv hl0
  obtain ⟨b, t1, rfl, hl2⟩ := len_inv hl1
  obtain ⟨f, t2, rfl, hl3⟩ := len_inv hl2
  obtain ⟨c, t3, rfl, hl4⟩ := len_inv hl3
  have hl := List.eq_nil_of_length_eq_zero hl4
  subst hl
  have p1 := p_get (fOk_hd hp)
  have p2 := gg_get (fOk_hd (fOk_tl hp))
  have p3 := i_get (fOk_hd (fOk_tl (fOk_tl hp)))
  simp only [List.map, xv, fev, fvl, gtI, Int.one_mul, Int.add_zero, Int.zero_add, PR] at p1 p2 p3
  refine ⟨[], rfl, fOk_cons (p_put rfl ?_) fOk_nil⟩ <;> simp only [List.map, xv, fev, fvl, gtI, Int.one_mul, Int.add_zero, Int.zero_add, PR, List.append_nil]
  have w : b = c := by omega
  rw [← w]
  exact p1 (by omega)
def r_kept_o1 : eRul := (6, [xP 14 [xv 1, xv 2, xv 3], xP 12 [xv 0, xv 1, xv 4, xv 5], xG (([(2, 1), (4, -1)], 350)), xG (([(2, -1)], 0)), xG (([(2, 1)], -3700))], 0, [xP 14 [xv 0, xv 2, xv 3]])
theorem r_kept_o1_ok : ruOk r_kept_o1 := by
  intro ρ hl0 hp
  obtain ⟨z, t0, rfl, hl1⟩ := len_inv hl0
  obtain ⟨n, t1, rfl, hl2⟩ := len_inv hl1
  obtain ⟨b, t2, rfl, hl3⟩ := len_inv hl2
  obtain ⟨f, t3, rfl, hl4⟩ := len_inv hl3
  obtain ⟨a, t4, rfl, hl5⟩ := len_inv hl4
  obtain ⟨e, t5, rfl, hl6⟩ := len_inv hl5
  have hl := List.eq_nil_of_length_eq_zero hl6
  subst hl
  have p1 := p_get (fOk_hd hp)
  have p2 := p_get (fOk_hd (fOk_tl hp))
  have p3 := gg_get (fOk_hd (fOk_tl (fOk_tl hp)))
  have p4 := gg_get (fOk_hd (fOk_tl (fOk_tl (fOk_tl hp))))
  have p5 := gg_get (fOk_hd (fOk_tl (fOk_tl (fOk_tl (fOk_tl hp)))))
  simp only [List.map, xv, fev, fvl, gtI, Int.one_mul, Int.add_zero, Int.zero_add, PR] at p1 p2 p3 p4 p5
  refine ⟨[], rfl, fOk_cons (p_put rfl ?_) fOk_nil⟩ <;> simp only [List.map, xv, fev, fvl, gtI, Int.one_mul, Int.add_zero, Int.zero_add, PR, List.append_nil]
  intro w
  refine pNow_cpy (m := 350) (p1 w) (fun j j0 j1 j2 => p2 (b + j) (by omega) (by omega) (by omega)) (by omega) (by omega) (by omega) (by omega) (by omega)
def r_kept_o2 : eRul := (6, [xP 14 [xv 1, xv 2, xv 3], xP 12 [xv 0, xv 1, xv 4, xv 5], xG (([(2, -1), (5, 1)], 0)), xG (([(2, -1)], 0)), xG (([(2, 1)], -3700))], 0, [xP 14 [xv 0, xv 2, xv 3]])
theorem r_kept_o2_ok : ruOk r_kept_o2 := by
  intro ρ hl0 hp
  obtain ⟨z, t0, rfl, hl1⟩ := len_inv hl0
  obtain ⟨n, t1, rfl, hl2⟩ := len_inv hl1
  obtain ⟨b, t2, rfl, hl3⟩ := len_inv hl2
  obtain ⟨f, t3, rfl, hl4⟩ := len_inv hl3
  obtain ⟨a, t4, rfl, hl5⟩ := len_inv hl4
  obtain ⟨e, t5, rfl, hl6⟩ := len_inv hl5
  have hl := List.eq_nil_of_length_eq_zero hl6
  subst hl
  have p1 := p_get (fOk_hd hp)
  have p2 := p_get (fOk_hd (fOk_tl hp))
  have p3 := gg_get (fOk_hd (fOk_tl (fOk_tl hp)))
  have p4 := gg_get (fOk_hd (fOk_tl (fOk_tl (fOk_tl hp))))
  have p5 := gg_get (fOk_hd (fOk_tl (fOk_tl (fOk_tl (fOk_tl hp)))))
  simp only [List.map, xv, fev, fvl, gtI, Int.one_mul, Int.add_zero, Int.zero_add, PR] at p1 p2 p3 p4 p5
  refine ⟨[], rfl, fOk_cons (p_put rfl ?_) fOk_nil⟩ <;> simp only [List.map, xv, fev, fvl, gtI, Int.one_mul, Int.add_zero, Int.zero_add, PR, List.append_nil]
  intro w
  refine pNow_cpy (m := 350) (p1 w) (fun j j0 j1 j2 => p2 (b + j) (by omega) (by omega) (by omega)) (by omega) (by omega) (by omega) (by omega) (by omega)
end
