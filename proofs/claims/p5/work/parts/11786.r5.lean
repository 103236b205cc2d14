noncomputable section
/-! T3: rules (printed by wip/v5/gen/rules4.py) -/
def r_eq_rf : eRul := (1, [], 0, [xP 104 [xv 0, xv 0]])
theorem r_eq_rf_ok : ruOk r_eq_rf := by
  intro ρ hl0 hp
  obtain ⟨x, t0, rfl, hl1⟩ := len_inv hl0
  have hl := List.eq_nil_of_length_eq_zero hl1
  subst hl
  have q := k_eq_rf (x := x)
  refine ⟨[], rfl, fOk_cons (p_put3 rfl (by decide) ?_) fOk_nil⟩ <;> simp only [List.map, xv, fev, fvl, gtI, Int.one_mul, Int.add_zero, Int.zero_add, List.append_nil]
  exact q
def r_uns : eRul := (4, [xP 1 [xv 0, xv 1, xv 2], xP 45 [xv 3, xv 0, ([], 255)]], 0, [xP 108 [xv 1, xv 2, xv 3]])
theorem r_uns_ok : ruOk r_uns := by
  intro ρ hl0 hp
  obtain ⟨b, t0, rfl, hl1⟩ := len_inv hl0
  obtain ⟨z, t1, rfl, hl2⟩ := len_inv hl1
  obtain ⟨i, t2, rfl, hl3⟩ := len_inv hl2
  obtain ⟨x, t3, rfl, hl4⟩ := len_inv hl3
  have hl := List.eq_nil_of_length_eq_zero hl4
  subst hl
  have p1 := p_get (fOk_hd hp)
  have p2 := p_get3 (by decide) (fOk_hd (fOk_tl hp))
  simp only [List.map, xv, fev, fvl, gtI, Int.one_mul, Int.add_zero, Int.zero_add, PR] at p1 p2
  have q := k_uns (b := b) (z := z) (i := i) (x := x) p1 p2
  refine ⟨[], rfl, fOk_cons (p_put3 rfl (by decide) ?_) fOk_nil⟩ <;> simp only [List.map, xv, fev, fvl, gtI, Int.one_mul, Int.add_zero, Int.zero_add, List.append_nil]
  exact q
def r_mx_l : eRul := (3, [xP 98 [xv 0, xv 1, xv 2], xG (([(1, -1), (2, 1)], 0))], 0, [(.inl [[(0, 0)]], [([(0, 1), (1, -1)], 0)]), (.inl [[(0, 0)]], [([(0, -1), (1, 1)], 0)])])
theorem r_mx_l_ok : ruOk r_mx_l := by
  intro ρ hl0 hp
  obtain ⟨x, t0, rfl, hl1⟩ := len_inv hl0
  obtain ⟨a, t1, rfl, hl2⟩ := len_inv hl1
  obtain ⟨b, t2, rfl, hl3⟩ := len_inv hl2
  have hl := List.eq_nil_of_length_eq_zero hl3
  subst hl
  have p1 := p_get3 (by decide) (fOk_hd hp)
  have p2 := gg_get (fOk_hd (fOk_tl hp))
  simp only [List.map, xv, fev, fvl, gtI, Int.one_mul, Int.add_zero, Int.zero_add] at p1 p2
  have q := k_mx_l (x := x) (a := a) (b := b) p1 p2
  refine ⟨[], rfl, fOk_cons (i_put rfl ?_ ?_) (fOk_cons (i_put rfl ?_ ?_) fOk_nil)⟩ <;> simp only [List.map, xv, fev, fvl, gtI, Int.one_mul, Int.add_zero, Int.zero_add, List.append_nil]
  · exact q.1
  · exact q.2.1
  · exact q.2.2.1
  · exact q.2.2.2
def r_hlf : eRul := (2, [(.inl [[(0, 0)]], [([(0, 1), (1, -2)], 0)]), xG (([(1, -1)], 1)), xG (([(1, 1)], -8))], 0, [xP 119 [xv 0, xv 1]])
theorem r_hlf_ok : ruOk r_hlf := by
  intro ρ hl0 hp
  obtain ⟨n, t0, rfl, hl1⟩ := len_inv hl0
  obtain ⟨q, t1, rfl, hl2⟩ := len_inv hl1
  have hl := List.eq_nil_of_length_eq_zero hl2
  subst hl
  have p1 := i_get (fOk_hd hp)
  have p2 := gg_get (fOk_hd (fOk_tl hp))
  have p3 := gg_get (fOk_hd (fOk_tl (fOk_tl hp)))
  simp only [List.map, xv, fev, fvl, gtI, Int.one_mul, Int.add_zero, Int.zero_add] at p1 p2 p3
  have q := k_hlf (n := n) (q := q) p1 p2 p3
  refine ⟨[], rfl, fOk_cons (p_put3 rfl (by decide) ?_) fOk_nil⟩ <;> simp only [List.map, xv, fev, fvl, gtI, Int.one_mul, Int.add_zero, Int.zero_add, List.append_nil]
  exact q
def r_hlf_k : eRul := (3, [xP 119 [xv 0, xv 1], xG (([(1, -1), (2, 1)], 1)), xG (([(2, -1)], 0))], 0, [xG (([(0, -1), (2, 2)], 2))])
theorem r_hlf_k_ok : ruOk r_hlf_k := by
  intro ρ hl0 hp
  obtain ⟨n, t0, rfl, hl1⟩ := len_inv hl0
  obtain ⟨q, t1, rfl, hl2⟩ := len_inv hl1
  obtain ⟨k, t2, rfl, hl3⟩ := len_inv hl2
  have hl := List.eq_nil_of_length_eq_zero hl3
  subst hl
  have p1 := p_get3 (by decide) (fOk_hd hp)
  have p2 := gg_get (fOk_hd (fOk_tl hp))
  have p3 := gg_get (fOk_hd (fOk_tl (fOk_tl hp)))
  simp only [List.map, xv, fev, fvl, gtI, Int.one_mul, Int.add_zero, Int.zero_add] at p1 p2 p3
  have q := k_hlf_k (n := n) (q := q) (k := k) p1 p2 p3
  refine ⟨[], rfl, fOk_cons (gg_put rfl ?_ ?_) fOk_nil⟩ <;> simp only [List.map, xv, fev, fvl, gtI, Int.one_mul, Int.add_zero, Int.zero_add, List.append_nil]
  · exact q.1
  · exact q.2
def r_mkc_0 : eRul := (3, [], 0, [xP 107 [xv 0, xv 1, xv 2, ([], 0), ([], 0), ([], 99)]])
theorem r_mkc_0_ok : ruOk r_mkc_0 := by
  intro ρ hl0 hp
  obtain ⟨z, t0, rfl, hl1⟩ := len_inv hl0
  obtain ⟨zt, t1, rfl, hl2⟩ := len_inv hl1
  obtain ⟨R, t2, rfl, hl3⟩ := len_inv hl2
  have hl := List.eq_nil_of_length_eq_zero hl3
  subst hl
  have q := k_mkc_0 (z := z) (zt := zt) (R := R)
  refine ⟨[], rfl, fOk_cons (p_put3 rfl (by decide) ?_) fOk_nil⟩ <;> simp only [List.map, xv, fev, fvl, gtI, Int.one_mul, Int.add_zero, Int.zero_add, List.append_nil]
  exact q
def r_mkc_w : eRul := (10, [xP 107 [xv 0, xv 1, xv 2, xv 3, xv 4, xv 5], xP 108 [xv 0, ([(3, 2)], 0), xv 6], xP 108 [xv 0, ([(3, 2)], 1), xv 7], xP 58 [xv 6, ([], 0), ([(2, 1)], -1), ([], 1)], (.inl [[(1, 1)]], [xv 7]), xP 1 [xv 8, xv 1, xv 6], xP 98 [xv 9, xv 4, ([(8, 1)], 1)]], 0, [xP 107 [xv 0, xv 1, xv 2, ([(3, 1)], 1), xv 9, xv 5]])
theorem r_mkc_w_ok : ruOk r_mkc_w := by
  intro ρ hl0 hp
  obtain ⟨z, t0, rfl, hl1⟩ := len_inv hl0
  obtain ⟨zt, t1, rfl, hl2⟩ := len_inv hl1
  obtain ⟨R, t2, rfl, hl3⟩ := len_inv hl2
  obtain ⟨k, t3, rfl, hl4⟩ := len_inv hl3
  obtain ⟨l, t4, rfl, hl5⟩ := len_inv hl4
  obtain ⟨h, t5, rfl, hl6⟩ := len_inv hl5
  obtain ⟨m, t6, rfl, hl7⟩ := len_inv hl6
  obtain ⟨w, t7, rfl, hl8⟩ := len_inv hl7
  obtain ⟨f, t8, rfl, hl9⟩ := len_inv hl8
  obtain ⟨x, t9, rfl, hl10⟩ := len_inv hl9
  have hl := List.eq_nil_of_length_eq_zero hl10
  subst hl
  have p1 := p_get3 (by decide) (fOk_hd hp)
  have p2 := p_get3 (by decide) (fOk_hd (fOk_tl hp))
  have p3 := p_get3 (by decide) (fOk_hd (fOk_tl (fOk_tl hp)))
  have p4 := p_get3 (by decide) (fOk_hd (fOk_tl (fOk_tl (fOk_tl hp))))
  have p5 := i_get (fOk_hd (fOk_tl (fOk_tl (fOk_tl (fOk_tl hp)))))
  have p6 := p_get (fOk_hd (fOk_tl (fOk_tl (fOk_tl (fOk_tl (fOk_tl hp))))))
  have p7 := p_get3 (by decide) (fOk_hd (fOk_tl (fOk_tl (fOk_tl (fOk_tl (fOk_tl (fOk_tl hp)))))))
  simp only [List.map, xv, fev, fvl, gtI, Int.one_mul, Int.add_zero, Int.zero_add, PR] at p1 p2 p3 p4 p5 p6 p7
  have q := k_mkc_w (z := z) (zt := zt) (R := R) (k := k) (l := l) (h := h) (m := m) (w := w) (f := f) (x := x) p1 p2 p3 p4 p5 p6 p7
  refine ⟨[], rfl, fOk_cons (p_put3 rfl (by decide) ?_) fOk_nil⟩ <;> simp only [List.map, xv, fev, fvl, gtI, Int.one_mul, Int.add_zero, Int.zero_add, List.append_nil]
  exact q
def r_mkc_d : eRul := (10, [xP 107 [xv 0, xv 1, xv 2, xv 3, xv 4, xv 5], xP 108 [xv 0, ([(3, 2)], 0), xv 6], xP 108 [xv 0, ([(3, 2)], 1), xv 7], xP 58 [xv 6, ([], 0), ([(2, 1)], -1), ([], 1)], (.inl [[(0, 0)]], [xv 7]), xP 1 [xv 8, xv 1, xv 6], xP 99 [xv 9, xv 5, xv 8]], 0, [xP 107 [xv 0, xv 1, xv 2, ([(3, 1)], 1), xv 4, xv 9]])
theorem r_mkc_d_ok : ruOk r_mkc_d := by
  intro ρ hl0 hp
  obtain ⟨z, t0, rfl, hl1⟩ := len_inv hl0
  obtain ⟨zt, t1, rfl, hl2⟩ := len_inv hl1
  obtain ⟨R, t2, rfl, hl3⟩ := len_inv hl2
  obtain ⟨k, t3, rfl, hl4⟩ := len_inv hl3
  obtain ⟨l, t4, rfl, hl5⟩ := len_inv hl4
  obtain ⟨h, t5, rfl, hl6⟩ := len_inv hl5
  obtain ⟨m, t6, rfl, hl7⟩ := len_inv hl6
  obtain ⟨w, t7, rfl, hl8⟩ := len_inv hl7
  obtain ⟨f, t8, rfl, hl9⟩ := len_inv hl8
  obtain ⟨x, t9, rfl, hl10⟩ := len_inv hl9
  have hl := List.eq_nil_of_length_eq_zero hl10
  subst hl
  have p1 := p_get3 (by decide) (fOk_hd hp)
  have p2 := p_get3 (by decide) (fOk_hd (fOk_tl hp))
  have p3 := p_get3 (by decide) (fOk_hd (fOk_tl (fOk_tl hp)))
  have p4 := p_get3 (by decide) (fOk_hd (fOk_tl (fOk_tl (fOk_tl hp))))
  have p5 := i_get (fOk_hd (fOk_tl (fOk_tl (fOk_tl (fOk_tl hp)))))
  have p6 := p_get (fOk_hd (fOk_tl (fOk_tl (fOk_tl (fOk_tl (fOk_tl hp))))))
  have p7 := p_get3 (by decide) (fOk_hd (fOk_tl (fOk_tl (fOk_tl (fOk_tl (fOk_tl (fOk_tl hp)))))))
  simp only [List.map, xv, fev, fvl, gtI, Int.one_mul, Int.add_zero, Int.zero_add, PR] at p1 p2 p3 p4 p5 p6 p7
  have q := k_mkc_d (z := z) (zt := zt) (R := R) (k := k) (l := l) (h := h) (m := m) (w := w) (f := f) (x := x) p1 p2 p3 p4 p5 p6 p7
  refine ⟨[], rfl, fOk_cons (p_put3 rfl (by decide) ?_) fOk_nil⟩ <;> simp only [List.map, xv, fev, fvl, gtI, Int.one_mul, Int.add_zero, Int.zero_add, List.append_nil]
  exact q
def r_mks_o1 : eRul := (7, [(.inl [[(1, 1)]], [xv 0])], 0, [xP 105 [xv 1, xv 0, xv 2, xv 3, ([], -1), xv 4, xv 5, xv 6]])
theorem r_mks_o1_ok : ruOk r_mks_o1 := by
  intro ρ hl0 hp
  obtain ⟨n, t0, rfl, hl1⟩ := len_inv hl0
  obtain ⟨z, t1, rfl, hl2⟩ := len_inv hl1
  obtain ⟨zt, t2, rfl, hl3⟩ := len_inv hl2
  obtain ⟨R, t3, rfl, hl4⟩ := len_inv hl3
  obtain ⟨x, t4, rfl, hl5⟩ := len_inv hl4
  obtain ⟨y, t5, rfl, hl6⟩ := len_inv hl5
  obtain ⟨b, t6, rfl, hl7⟩ := len_inv hl6
  have hl := List.eq_nil_of_length_eq_zero hl7
  subst hl
  have p1 := i_get (fOk_hd hp)
  simp only [List.map, xv, fev, fvl, gtI, Int.one_mul, Int.add_zero, Int.zero_add] at p1
  have q := k_mks_o1 (n := n) (z := z) (zt := zt) (R := R) (x := x) (y := y) (b := b) p1
  refine ⟨[], rfl, fOk_cons (p_put3 rfl (by decide) ?_) fOk_nil⟩ <;> simp only [List.map, xv, fev, fvl, gtI, Int.one_mul, Int.add_zero, Int.zero_add, List.append_nil]
  exact q
def r_mkr_o1 : eRul := (6, [(.inl [[(1, 1)]], [xv 0])], 0, [xP 106 [xv 1, xv 0, xv 2, ([], -1), xv 3, xv 4, xv 5]])
theorem r_mkr_o1_ok : ruOk r_mkr_o1 := by
  intro ρ hl0 hp
  obtain ⟨n, t0, rfl, hl1⟩ := len_inv hl0
  obtain ⟨z, t1, rfl, hl2⟩ := len_inv hl1
  obtain ⟨zr, t2, rfl, hl3⟩ := len_inv hl2
  obtain ⟨x, t3, rfl, hl4⟩ := len_inv hl3
  obtain ⟨y, t4, rfl, hl5⟩ := len_inv hl4
  obtain ⟨b, t5, rfl, hl6⟩ := len_inv hl5
  have hl := List.eq_nil_of_length_eq_zero hl6
  subst hl
  have p1 := i_get (fOk_hd hp)
  simp only [List.map, xv, fev, fvl, gtI, Int.one_mul, Int.add_zero, Int.zero_add] at p1
  have q := k_mkr_o1 (n := n) (z := z) (zr := zr) (x := x) (y := y) (b := b) p1
  refine ⟨[], rfl, fOk_cons (p_put3 rfl (by decide) ?_) fOk_nil⟩ <;> simp only [List.map, xv, fev, fvl, gtI, Int.one_mul, Int.add_zero, Int.zero_add, List.append_nil]
  exact q
def r_mks_o3 : eRul := (7, [(.inl [[(3, 3)]], [xv 0])], 0, [xP 105 [xv 1, xv 0, xv 2, xv 3, ([], -1), xv 4, xv 5, xv 6]])
theorem r_mks_o3_ok : ruOk r_mks_o3 := by
  intro ρ hl0 hp
  obtain ⟨n, t0, rfl, hl1⟩ := len_inv hl0
  obtain ⟨z, t1, rfl, hl2⟩ := len_inv hl1
  obtain ⟨zt, t2, rfl, hl3⟩ := len_inv hl2
  obtain ⟨R, t3, rfl, hl4⟩ := len_inv hl3
  obtain ⟨x, t4, rfl, hl5⟩ := len_inv hl4
  obtain ⟨y, t5, rfl, hl6⟩ := len_inv hl5
  obtain ⟨b, t6, rfl, hl7⟩ := len_inv hl6
  have hl := List.eq_nil_of_length_eq_zero hl7
  subst hl
  have p1 := i_get (fOk_hd hp)
  simp only [List.map, xv, fev, fvl, gtI, Int.one_mul, Int.add_zero, Int.zero_add] at p1
  have q := k_mks_o3 (n := n) (z := z) (zt := zt) (R := R) (x := x) (y := y) (b := b) p1
  refine ⟨[], rfl, fOk_cons (p_put3 rfl (by decide) ?_) fOk_nil⟩ <;> simp only [List.map, xv, fev, fvl, gtI, Int.one_mul, Int.add_zero, Int.zero_add, List.append_nil]
  exact q
def r_mkr_o3 : eRul := (6, [(.inl [[(3, 3)]], [xv 0])], 0, [xP 106 [xv 1, xv 0, xv 2, ([], -1), xv 3, xv 4, xv 5]])
theorem r_mkr_o3_ok : ruOk r_mkr_o3 := by
  intro ρ hl0 hp
  obtain ⟨n, t0, rfl, hl1⟩ := len_inv hl0
  obtain ⟨z, t1, rfl, hl2⟩ := len_inv hl1
  obtain ⟨zr, t2, rfl, hl3⟩ := len_inv hl2
  obtain ⟨x, t3, rfl, hl4⟩ := len_inv hl3
  obtain ⟨y, t4, rfl, hl5⟩ := len_inv hl4
  obtain ⟨b, t5, rfl, hl6⟩ := len_inv hl5
  have hl := List.eq_nil_of_length_eq_zero hl6
  subst hl
  have p1 := i_get (fOk_hd hp)
  simp only [List.map, xv, fev, fvl, gtI, Int.one_mul, Int.add_zero, Int.zero_add] at p1
  have q := k_mkr_o3 (n := n) (z := z) (zr := zr) (x := x) (y := y) (b := b) p1
  refine ⟨[], rfl, fOk_cons (p_put3 rfl (by decide) ?_) fOk_nil⟩ <;> simp only [List.map, xv, fev, fvl, gtI, Int.one_mul, Int.add_zero, Int.zero_add, List.append_nil]
  exact q
def r_mks_o5 : eRul := (7, [(.inl [[(5, 5)]], [xv 0])], 0, [xP 105 [xv 1, xv 0, xv 2, xv 3, ([], -1), xv 4, xv 5, xv 6]])
theorem r_mks_o5_ok : ruOk r_mks_o5 := by
  intro ρ hl0 hp
  obtain ⟨n, t0, rfl, hl1⟩ := len_inv hl0
  obtain ⟨z, t1, rfl, hl2⟩ := len_inv hl1
  obtain ⟨zt, t2, rfl, hl3⟩ := len_inv hl2
  obtain ⟨R, t3, rfl, hl4⟩ := len_inv hl3
  obtain ⟨x, t4, rfl, hl5⟩ := len_inv hl4
  obtain ⟨y, t5, rfl, hl6⟩ := len_inv hl5
  obtain ⟨b, t6, rfl, hl7⟩ := len_inv hl6
  have hl := List.eq_nil_of_length_eq_zero hl7
  subst hl
  have p1 := i_get (fOk_hd hp)
  simp only [List.map, xv, fev, fvl, gtI, Int.one_mul, Int.add_zero, Int.zero_add] at p1
  have q := k_mks_o5 (n := n) (z := z) (zt := zt) (R := R) (x := x) (y := y) (b := b) p1
  refine ⟨[], rfl, fOk_cons (p_put3 rfl (by decide) ?_) fOk_nil⟩ <;> simp only [List.map, xv, fev, fvl, gtI, Int.one_mul, Int.add_zero, Int.zero_add, List.append_nil]
  exact q
def r_mkr_o5 : eRul := (6, [(.inl [[(5, 5)]], [xv 0])], 0, [xP 106 [xv 1, xv 0, xv 2, ([], -1), xv 3, xv 4, xv 5]])
theorem r_mkr_o5_ok : ruOk r_mkr_o5 := by
  intro ρ hl0 hp
  obtain ⟨n, t0, rfl, hl1⟩ := len_inv hl0
  obtain ⟨z, t1, rfl, hl2⟩ := len_inv hl1
  obtain ⟨zr, t2, rfl, hl3⟩ := len_inv hl2
  obtain ⟨x, t3, rfl, hl4⟩ := len_inv hl3
  obtain ⟨y, t4, rfl, hl5⟩ := len_inv hl4
  obtain ⟨b, t5, rfl, hl6⟩ := len_inv hl5
  have hl := List.eq_nil_of_length_eq_zero hl6
  subst hl
  have p1 := i_get (fOk_hd hp)
  simp only [List.map, xv, fev, fvl, gtI, Int.one_mul, Int.add_zero, Int.zero_add] at p1
  have q := k_mkr_o5 (n := n) (z := z) (zr := zr) (x := x) (y := y) (b := b) p1
  refine ⟨[], rfl, fOk_cons (p_put3 rfl (by decide) ?_) fOk_nil⟩ <;> simp only [List.map, xv, fev, fvl, gtI, Int.one_mul, Int.add_zero, Int.zero_add, List.append_nil]
  exact q
def r_mks_o7 : eRul := (7, [(.inl [[(7, 7)]], [xv 0])], 0, [xP 105 [xv 1, xv 0, xv 2, xv 3, ([], -1), xv 4, xv 5, xv 6]])
theorem r_mks_o7_ok : ruOk r_mks_o7 := by
  intro ρ hl0 hp
  obtain ⟨n, t0, rfl, hl1⟩ := len_inv hl0
  obtain ⟨z, t1, rfl, hl2⟩ := len_inv hl1
  obtain ⟨zt, t2, rfl, hl3⟩ := len_inv hl2
  obtain ⟨R, t3, rfl, hl4⟩ := len_inv hl3
  obtain ⟨x, t4, rfl, hl5⟩ := len_inv hl4
  obtain ⟨y, t5, rfl, hl6⟩ := len_inv hl5
  obtain ⟨b, t6, rfl, hl7⟩ := len_inv hl6
  have hl := List.eq_nil_of_length_eq_zero hl7
  subst hl
  have p1 := i_get (fOk_hd hp)
  simp only [List.map, xv, fev, fvl, gtI, Int.one_mul, Int.add_zero, Int.zero_add] at p1
  have q := k_mks_o7 (n := n) (z := z) (zt := zt) (R := R) (x := x) (y := y) (b := b) p1
  refine ⟨[], rfl, fOk_cons (p_put3 rfl (by decide) ?_) fOk_nil⟩ <;> simp only [List.map, xv, fev, fvl, gtI, Int.one_mul, Int.add_zero, Int.zero_add, List.append_nil]
  exact q
def r_mkr_o7 : eRul := (6, [(.inl [[(7, 7)]], [xv 0])], 0, [xP 106 [xv 1, xv 0, xv 2, ([], -1), xv 3, xv 4, xv 5]])
theorem r_mkr_o7_ok : ruOk r_mkr_o7 := by
  intro ρ hl0 hp
  obtain ⟨n, t0, rfl, hl1⟩ := len_inv hl0
  obtain ⟨z, t1, rfl, hl2⟩ := len_inv hl1
  obtain ⟨zr, t2, rfl, hl3⟩ := len_inv hl2
  obtain ⟨x, t3, rfl, hl4⟩ := len_inv hl3
  obtain ⟨y, t4, rfl, hl5⟩ := len_inv hl4
  obtain ⟨b, t5, rfl, hl6⟩ := len_inv hl5
  have hl := List.eq_nil_of_length_eq_zero hl6
  subst hl
  have p1 := i_get (fOk_hd hp)
  simp only [List.map, xv, fev, fvl, gtI, Int.one_mul, Int.add_zero, Int.zero_add] at p1
  have q := k_mkr_o7 (n := n) (z := z) (zr := zr) (x := x) (y := y) (b := b) p1
  refine ⟨[], rfl, fOk_cons (p_put3 rfl (by decide) ?_) fOk_nil⟩ <;> simp only [List.map, xv, fev, fvl, gtI, Int.one_mul, Int.add_zero, Int.zero_add, List.append_nil]
  exact q
def r_mks_o9 : eRul := (7, [(.inl [[(9, 9)]], [xv 0])], 0, [xP 105 [xv 1, xv 0, xv 2, xv 3, ([], -1), xv 4, xv 5, xv 6]])
theorem r_mks_o9_ok : ruOk r_mks_o9 := by
  intro ρ hl0 hp
  obtain ⟨n, t0, rfl, hl1⟩ := len_inv hl0
  obtain ⟨z, t1, rfl, hl2⟩ := len_inv hl1
  obtain ⟨zt, t2, rfl, hl3⟩ := len_inv hl2
  obtain ⟨R, t3, rfl, hl4⟩ := len_inv hl3
  obtain ⟨x, t4, rfl, hl5⟩ := len_inv hl4
  obtain ⟨y, t5, rfl, hl6⟩ := len_inv hl5
  obtain ⟨b, t6, rfl, hl7⟩ := len_inv hl6
  have hl := List.eq_nil_of_length_eq_zero hl7
  subst hl
  have p1 := i_get (fOk_hd hp)
  simp only [List.map, xv, fev, fvl, gtI, Int.one_mul, Int.add_zero, Int.zero_add] at p1
  have q := k_mks_o9 (n := n) (z := z) (zt := zt) (R := R) (x := x) (y := y) (b := b) p1
  refine ⟨[], rfl, fOk_cons (p_put3 rfl (by decide) ?_) fOk_nil⟩ <;> simp only [List.map, xv, fev, fvl, gtI, Int.one_mul, Int.add_zero, Int.zero_add, List.append_nil]
  exact q
def r_mkr_o9 : eRul := (6, [(.inl [[(9, 9)]], [xv 0])], 0, [xP 106 [xv 1, xv 0, xv 2, ([], -1), xv 3, xv 4, xv 5]])
theorem r_mkr_o9_ok : ruOk r_mkr_o9 := by
  intro ρ hl0 hp
  obtain ⟨n, t0, rfl, hl1⟩ := len_inv hl0
  obtain ⟨z, t1, rfl, hl2⟩ := len_inv hl1
  obtain ⟨zr, t2, rfl, hl3⟩ := len_inv hl2
  obtain ⟨x, t3, rfl, hl4⟩ := len_inv hl3
  obtain ⟨y, t4, rfl, hl5⟩ := len_inv hl4
  obtain ⟨b, t5, rfl, hl6⟩ := len_inv hl5
  have hl := List.eq_nil_of_length_eq_zero hl6
  subst hl
  have p1 := i_get (fOk_hd hp)
  simp only [List.map, xv, fev, fvl, gtI, Int.one_mul, Int.add_zero, Int.zero_add] at p1
  have q := k_mkr_o9 (n := n) (z := z) (zr := zr) (x := x) (y := y) (b := b) p1
  refine ⟨[], rfl, fOk_cons (p_put3 rfl (by decide) ?_) fOk_nil⟩ <;> simp only [List.map, xv, fev, fvl, gtI, Int.one_mul, Int.add_zero, Int.zero_add, List.append_nil]
  exact q
def r_mks_oB : eRul := (7, [(.inl [[(11, 11)]], [xv 0])], 0, [xP 105 [xv 1, xv 0, xv 2, xv 3, ([], -1), xv 4, xv 5, xv 6]])
theorem r_mks_oB_ok : ruOk r_mks_oB := by
  intro ρ hl0 hp
  obtain ⟨n, t0, rfl, hl1⟩ := len_inv hl0
  obtain ⟨z, t1, rfl, hl2⟩ := len_inv hl1
  obtain ⟨zt, t2, rfl, hl3⟩ := len_inv hl2
  obtain ⟨R, t3, rfl, hl4⟩ := len_inv hl3
  obtain ⟨x, t4, rfl, hl5⟩ := len_inv hl4
  obtain ⟨y, t5, rfl, hl6⟩ := len_inv hl5
  obtain ⟨b, t6, rfl, hl7⟩ := len_inv hl6
  have hl := List.eq_nil_of_length_eq_zero hl7
  subst hl
  have p1 := i_get (fOk_hd hp)
  simp only [List.map, xv, fev, fvl, gtI, Int.one_mul, Int.add_zero, Int.zero_add] at p1
  have q := k_mks_oB (n := n) (z := z) (zt := zt) (R := R) (x := x) (y := y) (b := b) p1
  refine ⟨[], rfl, fOk_cons (p_put3 rfl (by decide) ?_) fOk_nil⟩ <;> simp only [List.map, xv, fev, fvl, gtI, Int.one_mul, Int.add_zero, Int.zero_add, List.append_nil]
  exact q
def r_mkr_oB : eRul := (6, [(.inl [[(11, 11)]], [xv 0])], 0, [xP 106 [xv 1, xv 0, xv 2, ([], -1), xv 3, xv 4, xv 5]])
theorem r_mkr_oB_ok : ruOk r_mkr_oB := by
  intro ρ hl0 hp
  obtain ⟨n, t0, rfl, hl1⟩ := len_inv hl0
  obtain ⟨z, t1, rfl, hl2⟩ := len_inv hl1
  obtain ⟨zr, t2, rfl, hl3⟩ := len_inv hl2
  obtain ⟨x, t3, rfl, hl4⟩ := len_inv hl3
  obtain ⟨y, t4, rfl, hl5⟩ := len_inv hl4
  obtain ⟨b, t5, rfl, hl6⟩ := len_inv hl5
  have hl := List.eq_nil_of_length_eq_zero hl6
  subst hl
  have p1 := i_get (fOk_hd hp)
  simp only [List.map, xv, fev, fvl, gtI, Int.one_mul, Int.add_zero, Int.zero_add] at p1
  have q := k_mkr_oB (n := n) (z := z) (zr := zr) (x := x) (y := y) (b := b) p1
  refine ⟨[], rfl, fOk_cons (p_put3 rfl (by decide) ?_) fOk_nil⟩ <;> simp only [List.map, xv, fev, fvl, gtI, Int.one_mul, Int.add_zero, Int.zero_add, List.append_nil]
  exact q
def r_mks_oD : eRul := (7, [(.inl [[(13, 13)]], [xv 0])], 0, [xP 105 [xv 1, xv 0, xv 2, xv 3, ([], -1), xv 4, xv 5, xv 6]])
theorem r_mks_oD_ok : ruOk r_mks_oD := by
  intro ρ hl0 hp
  obtain ⟨n, t0, rfl, hl1⟩ := len_inv hl0
  obtain ⟨z, t1, rfl, hl2⟩ := len_inv hl1
  obtain ⟨zt, t2, rfl, hl3⟩ := len_inv hl2
  obtain ⟨R, t3, rfl, hl4⟩ := len_inv hl3
  obtain ⟨x, t4, rfl, hl5⟩ := len_inv hl4
  obtain ⟨y, t5, rfl, hl6⟩ := len_inv hl5
  obtain ⟨b, t6, rfl, hl7⟩ := len_inv hl6
  have hl := List.eq_nil_of_length_eq_zero hl7
  subst hl
  have p1 := i_get (fOk_hd hp)
  simp only [List.map, xv, fev, fvl, gtI, Int.one_mul, Int.add_zero, Int.zero_add] at p1
  have q := k_mks_oD (n := n) (z := z) (zt := zt) (R := R) (x := x) (y := y) (b := b) p1
  refine ⟨[], rfl, fOk_cons (p_put3 rfl (by decide) ?_) fOk_nil⟩ <;> simp only [List.map, xv, fev, fvl, gtI, Int.one_mul, Int.add_zero, Int.zero_add, List.append_nil]
  exact q
def r_mkr_oD : eRul := (6, [(.inl [[(13, 13)]], [xv 0])], 0, [xP 106 [xv 1, xv 0, xv 2, ([], -1), xv 3, xv 4, xv 5]])
theorem r_mkr_oD_ok : ruOk r_mkr_oD := by
  intro ρ hl0 hp
  obtain ⟨n, t0, rfl, hl1⟩ := len_inv hl0
  obtain ⟨z, t1, rfl, hl2⟩ := len_inv hl1
  obtain ⟨zr, t2, rfl, hl3⟩ := len_inv hl2
  obtain ⟨x, t3, rfl, hl4⟩ := len_inv hl3
  obtain ⟨y, t4, rfl, hl5⟩ := len_inv hl4
  obtain ⟨b, t5, rfl, hl6⟩ := len_inv hl5
  have hl := List.eq_nil_of_length_eq_zero hl6
  subst hl
  have p1 := i_get (fOk_hd hp)
  simp only [List.map, xv, fev, fvl, gtI, Int.one_mul, Int.add_zero, Int.zero_add] at p1
  have q := k_mkr_oD (n := n) (z := z) (zr := zr) (x := x) (y := y) (b := b) p1
  refine ⟨[], rfl, fOk_cons (p_put3 rfl (by decide) ?_) fOk_nil⟩ <;> simp only [List.map, xv, fev, fvl, gtI, Int.one_mul, Int.add_zero, Int.zero_add, List.append_nil]
  exact q
def r_mks_oF : eRul := (7, [(.inl [[(15, 15)]], [xv 0])], 0, [xP 105 [xv 1, xv 0, xv 2, xv 3, ([], -1), xv 4, xv 5, xv 6]])
theorem r_mks_oF_ok : ruOk r_mks_oF := by
  intro ρ hl0 hp
  obtain ⟨n, t0, rfl, hl1⟩ := len_inv hl0
  obtain ⟨z, t1, rfl, hl2⟩ := len_inv hl1
  obtain ⟨zt, t2, rfl, hl3⟩ := len_inv hl2
  obtain ⟨R, t3, rfl, hl4⟩ := len_inv hl3
  obtain ⟨x, t4, rfl, hl5⟩ := len_inv hl4
  obtain ⟨y, t5, rfl, hl6⟩ := len_inv hl5
  obtain ⟨b, t6, rfl, hl7⟩ := len_inv hl6
  have hl := List.eq_nil_of_length_eq_zero hl7
  subst hl
  have p1 := i_get (fOk_hd hp)
  simp only [List.map, xv, fev, fvl, gtI, Int.one_mul, Int.add_zero, Int.zero_add] at p1
  have q := k_mks_oF (n := n) (z := z) (zt := zt) (R := R) (x := x) (y := y) (b := b) p1
  refine ⟨[], rfl, fOk_cons (p_put3 rfl (by decide) ?_) fOk_nil⟩ <;> simp only [List.map, xv, fev, fvl, gtI, Int.one_mul, Int.add_zero, Int.zero_add, List.append_nil]
  exact q
def r_mkr_oF : eRul := (6, [(.inl [[(15, 15)]], [xv 0])], 0, [xP 106 [xv 1, xv 0, xv 2, ([], -1), xv 3, xv 4, xv 5]])
theorem r_mkr_oF_ok : ruOk r_mkr_oF := by
  intro ρ hl0 hp
  obtain ⟨n, t0, rfl, hl1⟩ := len_inv hl0
  obtain ⟨z, t1, rfl, hl2⟩ := len_inv hl1
  obtain ⟨zr, t2, rfl, hl3⟩ := len_inv hl2
  obtain ⟨x, t3, rfl, hl4⟩ := len_inv hl3
  obtain ⟨y, t4, rfl, hl5⟩ := len_inv hl4
  obtain ⟨b, t5, rfl, hl6⟩ := len_inv hl5
  have hl := List.eq_nil_of_length_eq_zero hl6
  subst hl
  have p1 := i_get (fOk_hd hp)
  simp only [List.map, xv, fev, fvl, gtI, Int.one_mul, Int.add_zero, Int.zero_add] at p1
  have q := k_mkr_oF (n := n) (z := z) (zr := zr) (x := x) (y := y) (b := b) p1
  refine ⟨[], rfl, fOk_cons (p_put3 rfl (by decide) ?_) fOk_nil⟩ <;> simp only [List.map, xv, fev, fvl, gtI, Int.one_mul, Int.add_zero, Int.zero_add, List.append_nil]
  exact q
def r_mks_oH : eRul := (7, [(.inl [[(17, 17)]], [xv 0])], 0, [xP 105 [xv 1, xv 0, xv 2, xv 3, ([], -1), xv 4, xv 5, xv 6]])
theorem r_mks_oH_ok : ruOk r_mks_oH := by
  intro ρ hl0 hp
  obtain ⟨n, t0, rfl, hl1⟩ := len_inv hl0
  obtain ⟨z, t1, rfl, hl2⟩ := len_inv hl1
  obtain ⟨zt, t2, rfl, hl3⟩ := len_inv hl2
  obtain ⟨R, t3, rfl, hl4⟩ := len_inv hl3
  obtain ⟨x, t4, rfl, hl5⟩ := len_inv hl4
  obtain ⟨y, t5, rfl, hl6⟩ := len_inv hl5
  obtain ⟨b, t6, rfl, hl7⟩ := len_inv hl6
  have hl := List.eq_nil_of_length_eq_zero hl7
  subst hl
  have p1 := i_get (fOk_hd hp)
  simp only [List.map, xv, fev, fvl, gtI, Int.one_mul, Int.add_zero, Int.zero_add] at p1
  have q := k_mks_oH (n := n) (z := z) (zt := zt) (R := R) (x := x) (y := y) (b := b) p1
  refine ⟨[], rfl, fOk_cons (p_put3 rfl (by decide) ?_) fOk_nil⟩ <;> simp only [List.map, xv, fev, fvl, gtI, Int.one_mul, Int.add_zero, Int.zero_add, List.append_nil]
  exact q
def r_mkr_oH : eRul := (6, [(.inl [[(17, 17)]], [xv 0])], 0, [xP 106 [xv 1, xv 0, xv 2, ([], -1), xv 3, xv 4, xv 5]])
theorem r_mkr_oH_ok : ruOk r_mkr_oH := by
  intro ρ hl0 hp
  obtain ⟨n, t0, rfl, hl1⟩ := len_inv hl0
  obtain ⟨z, t1, rfl, hl2⟩ := len_inv hl1
  obtain ⟨zr, t2, rfl, hl3⟩ := len_inv hl2
  obtain ⟨x, t3, rfl, hl4⟩ := len_inv hl3
  obtain ⟨y, t4, rfl, hl5⟩ := len_inv hl4
  obtain ⟨b, t5, rfl, hl6⟩ := len_inv hl5
  have hl := List.eq_nil_of_length_eq_zero hl6
  subst hl
  have p1 := i_get (fOk_hd hp)
  simp only [List.map, xv, fev, fvl, gtI, Int.one_mul, Int.add_zero, Int.zero_add] at p1
  have q := k_mkr_oH (n := n) (z := z) (zr := zr) (x := x) (y := y) (b := b) p1
  refine ⟨[], rfl, fOk_cons (p_put3 rfl (by decide) ?_) fOk_nil⟩ <;> simp only [List.map, xv, fev, fvl, gtI, Int.one_mul, Int.add_zero, Int.zero_add, List.append_nil]
  exact q
def r_mks_z : eRul := (7, [xG (xv 0)], 0, [xP 105 [xv 1, xv 0, xv 2, xv 3, ([], -1), xv 4, xv 5, xv 6]])
theorem r_mks_z_ok : ruOk r_mks_z := by
  intro ρ hl0 hp
  obtain ⟨n, t0, rfl, hl1⟩ := len_inv hl0
  obtain ⟨z, t1, rfl, hl2⟩ := len_inv hl1
  obtain ⟨zt, t2, rfl, hl3⟩ := len_inv hl2
  obtain ⟨R, t3, rfl, hl4⟩ := len_inv hl3
  obtain ⟨x, t4, rfl, hl5⟩ := len_inv hl4
  obtain ⟨y, t5, rfl, hl6⟩ := len_inv hl5
  obtain ⟨b, t6, rfl, hl7⟩ := len_inv hl6
  have hl := List.eq_nil_of_length_eq_zero hl7
  subst hl
  have p1 := gg_get (fOk_hd hp)
  simp only [List.map, xv, fev, fvl, gtI, Int.one_mul, Int.add_zero, Int.zero_add] at p1
  have q := k_mks_z (n := n) (z := z) (zt := zt) (R := R) (x := x) (y := y) (b := b) p1
  refine ⟨[], rfl, fOk_cons (p_put3 rfl (by decide) ?_) fOk_nil⟩ <;> simp only [List.map, xv, fev, fvl, gtI, Int.one_mul, Int.add_zero, Int.zero_add, List.append_nil]
  exact q
def r_mkr_z : eRul := (6, [xG (xv 0)], 0, [xP 106 [xv 1, xv 0, xv 2, ([], -1), xv 3, xv 4, xv 5]])
theorem r_mkr_z_ok : ruOk r_mkr_z := by
  intro ρ hl0 hp
  obtain ⟨n, t0, rfl, hl1⟩ := len_inv hl0
  obtain ⟨z, t1, rfl, hl2⟩ := len_inv hl1
  obtain ⟨zr, t2, rfl, hl3⟩ := len_inv hl2
  obtain ⟨x, t3, rfl, hl4⟩ := len_inv hl3
  obtain ⟨y, t4, rfl, hl5⟩ := len_inv hl4
  obtain ⟨b, t5, rfl, hl6⟩ := len_inv hl5
  have hl := List.eq_nil_of_length_eq_zero hl6
  subst hl
  have p1 := gg_get (fOk_hd hp)
  simp only [List.map, xv, fev, fvl, gtI, Int.one_mul, Int.add_zero, Int.zero_add] at p1
  have q := k_mkr_z (n := n) (z := z) (zr := zr) (x := x) (y := y) (b := b) p1
  refine ⟨[], rfl, fOk_cons (p_put3 rfl (by decide) ?_) fOk_nil⟩ <;> simp only [List.map, xv, fev, fvl, gtI, Int.one_mul, Int.add_zero, Int.zero_add, List.append_nil]
  exact q
def r_mks_m : eRul := (7, [xG (([(0, -1)], 18))], 0, [xP 105 [xv 1, xv 0, xv 2, xv 3, ([], -1), xv 4, xv 5, xv 6]])
theorem r_mks_m_ok : ruOk r_mks_m := by
  intro ρ hl0 hp
  obtain ⟨n, t0, rfl, hl1⟩ := len_inv hl0
  obtain ⟨z, t1, rfl, hl2⟩ := len_inv hl1
  obtain ⟨zt, t2, rfl, hl3⟩ := len_inv hl2
  obtain ⟨R, t3, rfl, hl4⟩ := len_inv hl3
  obtain ⟨x, t4, rfl, hl5⟩ := len_inv hl4
  obtain ⟨y, t5, rfl, hl6⟩ := len_inv hl5
  obtain ⟨b, t6, rfl, hl7⟩ := len_inv hl6
  have hl := List.eq_nil_of_length_eq_zero hl7
  subst hl
  have p1 := gg_get (fOk_hd hp)
  simp only [List.map, xv, fev, fvl, gtI, Int.one_mul, Int.add_zero, Int.zero_add] at p1
  have q := k_mks_m (n := n) (z := z) (zt := zt) (R := R) (x := x) (y := y) (b := b) p1
  refine ⟨[], rfl, fOk_cons (p_put3 rfl (by decide) ?_) fOk_nil⟩ <;> simp only [List.map, xv, fev, fvl, gtI, Int.one_mul, Int.add_zero, Int.zero_add, List.append_nil]
  exact q
def r_mkr_m : eRul := (6, [xG (([(0, -1)], 18))], 0, [xP 106 [xv 1, xv 0, xv 2, ([], -1), xv 3, xv 4, xv 5]])
theorem r_mkr_m_ok : ruOk r_mkr_m := by
  intro ρ hl0 hp
  obtain ⟨n, t0, rfl, hl1⟩ := len_inv hl0
  obtain ⟨z, t1, rfl, hl2⟩ := len_inv hl1
  obtain ⟨zr, t2, rfl, hl3⟩ := len_inv hl2
  obtain ⟨x, t3, rfl, hl4⟩ := len_inv hl3
  obtain ⟨y, t4, rfl, hl5⟩ := len_inv hl4
  obtain ⟨b, t5, rfl, hl6⟩ := len_inv hl5
  have hl := List.eq_nil_of_length_eq_zero hl6
  subst hl
  have p1 := gg_get (fOk_hd hp)
  simp only [List.map, xv, fev, fvl, gtI, Int.one_mul, Int.add_zero, Int.zero_add] at p1
  have q := k_mkr_m (n := n) (z := z) (zr := zr) (x := x) (y := y) (b := b) p1
  refine ⟨[], rfl, fOk_cons (p_put3 rfl (by decide) ?_) fOk_nil⟩ <;> simp only [List.map, xv, fev, fvl, gtI, Int.one_mul, Int.add_zero, Int.zero_add, List.append_nil]
  exact q
def r_mks_r : eRul := (12, [xP 107 [xv 0, xv 1, xv 2, xv 3, xv 4, xv 5], xP 108 [xv 0, ([(3, 2)], 0), xv 6], xP 58 [xv 6, ([], 0), ([(2, 1)], -1), ([], 0)], xP 119 [xv 7, xv 8], xG (([(3, -1)], 0)), xG (([(3, 1), (8, -1)], 1))], 0, [xP 105 [xv 0, xv 7, xv 1, xv 2, ([], -1), xv 9, xv 10, xv 11]])
theorem r_mks_r_ok : ruOk r_mks_r := by
  intro ρ hl0 hp
  obtain ⟨z, t0, rfl, hl1⟩ := len_inv hl0
  obtain ⟨zt, t1, rfl, hl2⟩ := len_inv hl1
  obtain ⟨R, t2, rfl, hl3⟩ := len_inv hl2
  obtain ⟨k, t3, rfl, hl4⟩ := len_inv hl3
  obtain ⟨l, t4, rfl, hl5⟩ := len_inv hl4
  obtain ⟨h, t5, rfl, hl6⟩ := len_inv hl5
  obtain ⟨m, t6, rfl, hl7⟩ := len_inv hl6
  obtain ⟨n, t7, rfl, hl8⟩ := len_inv hl7
  obtain ⟨q, t8, rfl, hl9⟩ := len_inv hl8
  obtain ⟨x, t9, rfl, hl10⟩ := len_inv hl9
  obtain ⟨y, t10, rfl, hl11⟩ := len_inv hl10
  obtain ⟨b, t11, rfl, hl12⟩ := len_inv hl11
  have hl := List.eq_nil_of_length_eq_zero hl12
  subst hl
  have p1 := p_get3 (by decide) (fOk_hd hp)
  have p2 := p_get3 (by decide) (fOk_hd (fOk_tl hp))
  have p3 := p_get3 (by decide) (fOk_hd (fOk_tl (fOk_tl hp)))
  have p4 := p_get3 (by decide) (fOk_hd (fOk_tl (fOk_tl (fOk_tl hp))))
  have p5 := gg_get (fOk_hd (fOk_tl (fOk_tl (fOk_tl (fOk_tl hp)))))
  have p6 := gg_get (fOk_hd (fOk_tl (fOk_tl (fOk_tl (fOk_tl (fOk_tl hp))))))
  simp only [List.map, xv, fev, fvl, gtI, Int.one_mul, Int.add_zero, Int.zero_add] at p1 p2 p3 p4 p5 p6
  have q := k_mks_r (z := z) (zt := zt) (R := R) (k := k) (l := l) (h := h) (m := m) (n := n) (q := q) (x := x) (y := y) (b := b) p1 p2 p3 p4 p5 p6
  refine ⟨[], rfl, fOk_cons (p_put3 rfl (by decide) ?_) fOk_nil⟩ <;> simp only [List.map, xv, fev, fvl, gtI, Int.one_mul, Int.add_zero, Int.zero_add, List.append_nil]
  exact q
def r_mks_w : eRul := (12, [xP 107 [xv 0, xv 1, xv 2, xv 3, xv 4, xv 5], xP 108 [xv 0, ([(3, 2)], 1), xv 6], xP 58 [xv 6, ([], 0), ([], 1), ([], 0)], xP 119 [xv 7, xv 8], xG (([(3, -1)], 0)), xG (([(3, 1), (8, -1)], 1))], 0, [xP 105 [xv 0, xv 7, xv 1, xv 2, ([], -1), xv 9, xv 10, xv 11]])
theorem r_mks_w_ok : ruOk r_mks_w := by
  intro ρ hl0 hp
  obtain ⟨z, t0, rfl, hl1⟩ := len_inv hl0
  obtain ⟨zt, t1, rfl, hl2⟩ := len_inv hl1
  obtain ⟨R, t2, rfl, hl3⟩ := len_inv hl2
  obtain ⟨k, t3, rfl, hl4⟩ := len_inv hl3
  obtain ⟨l, t4, rfl, hl5⟩ := len_inv hl4
  obtain ⟨h, t5, rfl, hl6⟩ := len_inv hl5
  obtain ⟨w, t6, rfl, hl7⟩ := len_inv hl6
  obtain ⟨n, t7, rfl, hl8⟩ := len_inv hl7
  obtain ⟨q, t8, rfl, hl9⟩ := len_inv hl8
  obtain ⟨x, t9, rfl, hl10⟩ := len_inv hl9
  obtain ⟨y, t10, rfl, hl11⟩ := len_inv hl10
  obtain ⟨b, t11, rfl, hl12⟩ := len_inv hl11
  have hl := List.eq_nil_of_length_eq_zero hl12
  subst hl
  have p1 := p_get3 (by decide) (fOk_hd hp)
  have p2 := p_get3 (by decide) (fOk_hd (fOk_tl hp))
  have p3 := p_get3 (by decide) (fOk_hd (fOk_tl (fOk_tl hp)))
  have p4 := p_get3 (by decide) (fOk_hd (fOk_tl (fOk_tl (fOk_tl hp))))
  have p5 := gg_get (fOk_hd (fOk_tl (fOk_tl (fOk_tl (fOk_tl hp)))))
  have p6 := gg_get (fOk_hd (fOk_tl (fOk_tl (fOk_tl (fOk_tl (fOk_tl hp))))))
  simp only [List.map, xv, fev, fvl, gtI, Int.one_mul, Int.add_zero, Int.zero_add] at p1 p2 p3 p4 p5 p6
  have q := k_mks_w (z := z) (zt := zt) (R := R) (k := k) (l := l) (h := h) (w := w) (n := n) (q := q) (x := x) (y := y) (b := b) p1 p2 p3 p4 p5 p6
  refine ⟨[], rfl, fOk_cons (p_put3 rfl (by decide) ?_) fOk_nil⟩ <;> simp only [List.map, xv, fev, fvl, gtI, Int.one_mul, Int.add_zero, Int.zero_add, List.append_nil]
  exact q
def r_mks_0 : eRul := (11, [xP 107 [xv 0, xv 1, xv 2, xv 3, xv 4, xv 5], xP 119 [xv 6, xv 7], xG (([(3, 1), (7, -1)], 0)), xG (([(3, -1), (7, 1)], 0)), xG (([(4, -1), (5, 1)], 1))], 0, [xP 105 [xv 0, xv 6, xv 1, xv 2, ([], 0), xv 8, xv 9, xv 10]])
theorem r_mks_0_ok : ruOk r_mks_0 := by
  intro ρ hl0 hp
  obtain ⟨z, t0, rfl, hl1⟩ := len_inv hl0
  obtain ⟨zt, t1, rfl, hl2⟩ := len_inv hl1
  obtain ⟨R, t2, rfl, hl3⟩ := len_inv hl2
  obtain ⟨k, t3, rfl, hl4⟩ := len_inv hl3
  obtain ⟨l, t4, rfl, hl5⟩ := len_inv hl4
  obtain ⟨h, t5, rfl, hl6⟩ := len_inv hl5
  obtain ⟨n, t6, rfl, hl7⟩ := len_inv hl6
  obtain ⟨q, t7, rfl, hl8⟩ := len_inv hl7
  obtain ⟨x, t8, rfl, hl9⟩ := len_inv hl8
  obtain ⟨y, t9, rfl, hl10⟩ := len_inv hl9
  obtain ⟨b, t10, rfl, hl11⟩ := len_inv hl10
  have hl := List.eq_nil_of_length_eq_zero hl11
  subst hl
  have p1 := p_get3 (by decide) (fOk_hd hp)
  have p2 := p_get3 (by decide) (fOk_hd (fOk_tl hp))
  have p3 := gg_get (fOk_hd (fOk_tl (fOk_tl hp)))
  have p4 := gg_get (fOk_hd (fOk_tl (fOk_tl (fOk_tl hp))))
  have p5 := gg_get (fOk_hd (fOk_tl (fOk_tl (fOk_tl (fOk_tl hp)))))
  simp only [List.map, xv, fev, fvl, gtI, Int.one_mul, Int.add_zero, Int.zero_add] at p1 p2 p3 p4 p5
  have q := k_mks_0 (z := z) (zt := zt) (R := R) (k := k) (l := l) (h := h) (n := n) (q := q) (x := x) (y := y) (b := b) p1 p2 p3 p4 p5
  refine ⟨[], rfl, fOk_cons (p_put3 rfl (by decide) ?_) fOk_nil⟩ <;> simp only [List.map, xv, fev, fvl, gtI, Int.one_mul, Int.add_zero, Int.zero_add, List.append_nil]
  exact q
def r_mks_1 : eRul := (9, [xP 107 [xv 0, xv 1, xv 2, xv 3, xv 4, xv 5], xP 119 [xv 6, xv 7], xG (([(3, 1), (7, -1)], 0)), xG (([(3, -1), (7, 1)], 0)), xG (([(4, 1), (5, -1)], 0)), xP 110 [xv 1, xv 2, xv 4, xv 5, xv 8]], 0, [xP 105 [xv 0, xv 6, xv 1, xv 2, ([(4, -1), (5, 1)], 1), xv 4, xv 5, xv 8]])
theorem r_mks_1_ok : ruOk r_mks_1 := by
  intro ρ hl0 hp
  obtain ⟨z, t0, rfl, hl1⟩ := len_inv hl0
  obtain ⟨zt, t1, rfl, hl2⟩ := len_inv hl1
  obtain ⟨R, t2, rfl, hl3⟩ := len_inv hl2
  obtain ⟨k, t3, rfl, hl4⟩ := len_inv hl3
  obtain ⟨l, t4, rfl, hl5⟩ := len_inv hl4
  obtain ⟨h, t5, rfl, hl6⟩ := len_inv hl5
  obtain ⟨n, t6, rfl, hl7⟩ := len_inv hl6
  obtain ⟨q, t7, rfl, hl8⟩ := len_inv hl7
  obtain ⟨b, t8, rfl, hl9⟩ := len_inv hl8
  have hl := List.eq_nil_of_length_eq_zero hl9
  subst hl
  have p1 := p_get3 (by decide) (fOk_hd hp)
  have p2 := p_get3 (by decide) (fOk_hd (fOk_tl hp))
  have p3 := gg_get (fOk_hd (fOk_tl (fOk_tl hp)))
  have p4 := gg_get (fOk_hd (fOk_tl (fOk_tl (fOk_tl hp))))
  have p5 := gg_get (fOk_hd (fOk_tl (fOk_tl (fOk_tl (fOk_tl hp)))))
  have p6 := p_get3 (by decide) (fOk_hd (fOk_tl (fOk_tl (fOk_tl (fOk_tl (fOk_tl hp))))))
  simp only [List.map, xv, fev, fvl, gtI, Int.one_mul, Int.add_zero, Int.zero_add] at p1 p2 p3 p4 p5 p6
  have q := k_mks_1 (z := z) (zt := zt) (R := R) (k := k) (l := l) (h := h) (n := n) (q := q) (b := b) p1 p2 p3 p4 p5 p6
  refine ⟨[], rfl, fOk_cons (p_put3 rfl (by decide) ?_) fOk_nil⟩ <;> simp only [List.map, xv, fev, fvl, gtI, Int.one_mul, Int.add_zero, Int.zero_add, List.append_nil]
  exact q
def r_blc_0 : eRul := (3, [], 0, [xP 109 [xv 0, xv 1, xv 2, ([], 0), ([], -1), ([], 101)]])
theorem r_blc_0_ok : ruOk r_blc_0 := by
  intro ρ hl0 hp
  obtain ⟨zt, t0, rfl, hl1⟩ := len_inv hl0
  obtain ⟨l, t1, rfl, hl2⟩ := len_inv hl1
  obtain ⟨h, t2, rfl, hl3⟩ := len_inv hl2
  have hl := List.eq_nil_of_length_eq_zero hl3
  subst hl
  have q := k_blc_0 (zt := zt) (l := l) (h := h)
  refine ⟨[], rfl, fOk_cons (p_put3 rfl (by decide) ?_) fOk_nil⟩ <;> simp only [List.map, xv, fev, fvl, gtI, Int.one_mul, Int.add_zero, Int.zero_add, List.append_nil]
  exact q
def r_blc_l : eRul := (11, [xP 109 [xv 0, xv 1, xv 2, xv 3, xv 4, xv 5], xP 1 [xv 6, xv 0, xv 3], xP 98 [xv 7, ([(1, 1)], -1), xv 6], xP 98 [xv 8, ([], 0), ([(2, 1), (7, -1)], 0)], xP 98 [xv 9, xv 8, ([(1, -1), (2, 1), (8, -1)], 1)], xG (([(1, -1)], 0)), xG (([(1, 1), (2, -1)], 0)), xG (([(2, 1)], -99)), xG (([(3, -1)], 0)), xG (([(5, -1), (9, 1)], 1)), xP 98 [xv 10, xv 8, ([(1, -1), (2, 1), (8, -1)], 1)]], 0, [xP 109 [xv 0, xv 1, xv 2, ([(3, 1)], 1), xv 3, xv 10]])
theorem r_blc_l_ok : ruOk r_blc_l := by
  intro ρ hl0 hp
  obtain ⟨zt, t0, rfl, hl1⟩ := len_inv hl0
  obtain ⟨l, t1, rfl, hl2⟩ := len_inv hl1
  obtain ⟨h, t2, rfl, hl3⟩ := len_inv hl2
  obtain ⟨r, t3, rfl, hl4⟩ := len_inv hl3
  obtain ⟨b, t4, rfl, hl5⟩ := len_inv hl4
  obtain ⟨q, t5, rfl, hl6⟩ := len_inv hl5
  obtain ⟨f, t6, rfl, hl7⟩ := len_inv hl6
  obtain ⟨m, t7, rfl, hl8⟩ := len_inv hl7
  obtain ⟨w, t8, rfl, hl9⟩ := len_inv hl8
  obtain ⟨x, t9, rfl, hl10⟩ := len_inv hl9
  obtain ⟨y, t10, rfl, hl11⟩ := len_inv hl10
  have hl := List.eq_nil_of_length_eq_zero hl11
  subst hl
  have p1 := p_get3 (by decide) (fOk_hd hp)
  have p2 := p_get (fOk_hd (fOk_tl hp))
  have p3 := p_get3 (by decide) (fOk_hd (fOk_tl (fOk_tl hp)))
  have p4 := p_get3 (by decide) (fOk_hd (fOk_tl (fOk_tl (fOk_tl hp))))
  have p5 := p_get3 (by decide) (fOk_hd (fOk_tl (fOk_tl (fOk_tl (fOk_tl hp)))))
  have p6 := gg_get (fOk_hd (fOk_tl (fOk_tl (fOk_tl (fOk_tl (fOk_tl hp))))))
  have p7 := gg_get (fOk_hd (fOk_tl (fOk_tl (fOk_tl (fOk_tl (fOk_tl (fOk_tl hp)))))))
  have p8 := gg_get (fOk_hd (fOk_tl (fOk_tl (fOk_tl (fOk_tl (fOk_tl (fOk_tl (fOk_tl hp))))))))
  have p9 := gg_get (fOk_hd (fOk_tl (fOk_tl (fOk_tl (fOk_tl (fOk_tl (fOk_tl (fOk_tl (fOk_tl hp)))))))))
  have p10 := gg_get (fOk_hd (fOk_tl (fOk_tl (fOk_tl (fOk_tl (fOk_tl (fOk_tl (fOk_tl (fOk_tl (fOk_tl hp))))))))))
  have p11 := p_get3 (by decide) (fOk_hd (fOk_tl (fOk_tl (fOk_tl (fOk_tl (fOk_tl (fOk_tl (fOk_tl (fOk_tl (fOk_tl (fOk_tl hp)))))))))))
  simp only [List.map, xv, fev, fvl, gtI, Int.one_mul, Int.add_zero, Int.zero_add, PR] at p1 p2 p3 p4 p5 p6 p7 p8 p9 p10 p11
  have q := k_blc_l (zt := zt) (l := l) (h := h) (r := r) (b := b) (q := q) (f := f) (m := m) (w := w) (x := x) (y := y) p1 p2 p3 p4 p5 p6 p7 p8 p9 p10 p11
  refine ⟨[], rfl, fOk_cons (p_put3 rfl (by decide) ?_) fOk_nil⟩ <;> simp only [List.map, xv, fev, fvl, gtI, Int.one_mul, Int.add_zero, Int.zero_add, List.append_nil]
  exact q
def r_blc_g : eRul := (10, [xP 109 [xv 0, xv 1, xv 2, xv 3, xv 4, xv 5], xP 1 [xv 6, xv 0, xv 3], xP 98 [xv 7, ([(1, 1)], -1), xv 6], xP 98 [xv 8, ([], 0), ([(2, 1), (7, -1)], 0)], xP 98 [xv 9, xv 8, ([(1, -1), (2, 1), (8, -1)], 1)], xG (([(1, -1)], 0)), xG (([(1, 1), (2, -1)], 0)), xG (([(2, 1)], -99)), xG (([(3, -1)], 0)), xG (([(5, 1), (9, -1)], 0))], 0, [xP 109 [xv 0, xv 1, xv 2, ([(3, 1)], 1), xv 4, xv 5]])
theorem r_blc_g_ok : ruOk r_blc_g := by
  intro ρ hl0 hp
  obtain ⟨zt, t0, rfl, hl1⟩ := len_inv hl0
  obtain ⟨l, t1, rfl, hl2⟩ := len_inv hl1
  obtain ⟨h, t2, rfl, hl3⟩ := len_inv hl2
  obtain ⟨r, t3, rfl, hl4⟩ := len_inv hl3
  obtain ⟨b, t4, rfl, hl5⟩ := len_inv hl4
  obtain ⟨q, t5, rfl, hl6⟩ := len_inv hl5
  obtain ⟨f, t6, rfl, hl7⟩ := len_inv hl6
  obtain ⟨m, t7, rfl, hl8⟩ := len_inv hl7
  obtain ⟨w, t8, rfl, hl9⟩ := len_inv hl8
  obtain ⟨x, t9, rfl, hl10⟩ := len_inv hl9
  have hl := List.eq_nil_of_length_eq_zero hl10
  subst hl
  have p1 := p_get3 (by decide) (fOk_hd hp)
  have p2 := p_get (fOk_hd (fOk_tl hp))
  have p3 := p_get3 (by decide) (fOk_hd (fOk_tl (fOk_tl hp)))
  have p4 := p_get3 (by decide) (fOk_hd (fOk_tl (fOk_tl (fOk_tl hp))))
  have p5 := p_get3 (by decide) (fOk_hd (fOk_tl (fOk_tl (fOk_tl (fOk_tl hp)))))
  have p6 := gg_get (fOk_hd (fOk_tl (fOk_tl (fOk_tl (fOk_tl (fOk_tl hp))))))
  have p7 := gg_get (fOk_hd (fOk_tl (fOk_tl (fOk_tl (fOk_tl (fOk_tl (fOk_tl hp)))))))
  have p8 := gg_get (fOk_hd (fOk_tl (fOk_tl (fOk_tl (fOk_tl (fOk_tl (fOk_tl (fOk_tl hp))))))))
  have p9 := gg_get (fOk_hd (fOk_tl (fOk_tl (fOk_tl (fOk_tl (fOk_tl (fOk_tl (fOk_tl (fOk_tl hp)))))))))
  have p10 := gg_get (fOk_hd (fOk_tl (fOk_tl (fOk_tl (fOk_tl (fOk_tl (fOk_tl (fOk_tl (fOk_tl (fOk_tl hp))))))))))
  simp only [List.map, xv, fev, fvl, gtI, Int.one_mul, Int.add_zero, Int.zero_add, PR] at p1 p2 p3 p4 p5 p6 p7 p8 p9 p10
  have q := k_blc_g (zt := zt) (l := l) (h := h) (r := r) (b := b) (q := q) (f := f) (m := m) (w := w) (x := x) p1 p2 p3 p4 p5 p6 p7 p8 p9 p10
  refine ⟨[], rfl, fOk_cons (p_put3 rfl (by decide) ?_) fOk_nil⟩ <;> simp only [List.map, xv, fev, fvl, gtI, Int.one_mul, Int.add_zero, Int.zero_add, List.append_nil]
  exact q
def r_bel : eRul := (7, [xP 109 [xv 0, xv 1, xv 2, xv 3, xv 4, xv 5], xG (([(3, -1), (6, 1)], 0)), xG (([(3, 1), (6, -1)], 0))], 0, [xP 110 [xv 0, xv 6, xv 1, xv 2, xv 4]])
theorem r_bel_ok : ruOk r_bel := by
  intro ρ hl0 hp
  obtain ⟨zt, t0, rfl, hl1⟩ := len_inv hl0
  obtain ⟨l, t1, rfl, hl2⟩ := len_inv hl1
  obtain ⟨h, t2, rfl, hl3⟩ := len_inv hl2
  obtain ⟨r, t3, rfl, hl4⟩ := len_inv hl3
  obtain ⟨b, t4, rfl, hl5⟩ := len_inv hl4
  obtain ⟨q, t5, rfl, hl6⟩ := len_inv hl5
  obtain ⟨R, t6, rfl, hl7⟩ := len_inv hl6
  have hl := List.eq_nil_of_length_eq_zero hl7
  subst hl
  have p1 := p_get3 (by decide) (fOk_hd hp)
  have p2 := gg_get (fOk_hd (fOk_tl hp))
  have p3 := gg_get (fOk_hd (fOk_tl (fOk_tl hp)))
  simp only [List.map, xv, fev, fvl, gtI, Int.one_mul, Int.add_zero, Int.zero_add] at p1 p2 p3
  have q := k_bel (zt := zt) (l := l) (h := h) (r := r) (b := b) (q := q) (R := R) p1 p2 p3
  refine ⟨[], rfl, fOk_cons (p_put3 rfl (by decide) ?_) fOk_nil⟩ <;> simp only [List.map, xv, fev, fvl, gtI, Int.one_mul, Int.add_zero, Int.zero_add, List.append_nil]
  exact q
def r_hln_1 : eRul := (1, [(.inl [[(2, 2)]], [xv 0])], 0, [xP 120 [xv 0]])
theorem r_hln_1_ok : ruOk r_hln_1 := by
  intro ρ hl0 hp
  obtain ⟨n, t0, rfl, hl1⟩ := len_inv hl0
  have hl := List.eq_nil_of_length_eq_zero hl1
  subst hl
  have p1 := i_get (fOk_hd hp)
  simp only [List.map, xv, fev, fvl, gtI, Int.one_mul, Int.add_zero, Int.zero_add] at p1
  have q := k_hln_1 (n := n) p1
  refine ⟨[], rfl, fOk_cons (p_put3 rfl (by decide) ?_) fOk_nil⟩ <;> simp only [List.map, xv, fev, fvl, gtI, Int.one_mul, Int.add_zero, Int.zero_add, List.append_nil]
  exact q
def r_hln_2 : eRul := (1, [(.inl [[(4, 4)]], [xv 0])], 0, [xP 120 [xv 0]])
theorem r_hln_2_ok : ruOk r_hln_2 := by
  intro ρ hl0 hp
  obtain ⟨n, t0, rfl, hl1⟩ := len_inv hl0
  have hl := List.eq_nil_of_length_eq_zero hl1
  subst hl
  have p1 := i_get (fOk_hd hp)
  simp only [List.map, xv, fev, fvl, gtI, Int.one_mul, Int.add_zero, Int.zero_add] at p1
  have q := k_hln_2 (n := n) p1
  refine ⟨[], rfl, fOk_cons (p_put3 rfl (by decide) ?_) fOk_nil⟩ <;> simp only [List.map, xv, fev, fvl, gtI, Int.one_mul, Int.add_zero, Int.zero_add, List.append_nil]
  exact q
def r_hln_3 : eRul := (1, [(.inl [[(6, 6)]], [xv 0])], 0, [xP 120 [xv 0]])
theorem r_hln_3_ok : ruOk r_hln_3 := by
  intro ρ hl0 hp
  obtain ⟨n, t0, rfl, hl1⟩ := len_inv hl0
  have hl := List.eq_nil_of_length_eq_zero hl1
  subst hl
  have p1 := i_get (fOk_hd hp)
  simp only [List.map, xv, fev, fvl, gtI, Int.one_mul, Int.add_zero, Int.zero_add] at p1
  have q := k_hln_3 (n := n) p1
  refine ⟨[], rfl, fOk_cons (p_put3 rfl (by decide) ?_) fOk_nil⟩ <;> simp only [List.map, xv, fev, fvl, gtI, Int.one_mul, Int.add_zero, Int.zero_add, List.append_nil]
  exact q
def r_hln_4 : eRul := (1, [(.inl [[(8, 8)]], [xv 0])], 0, [xP 120 [xv 0]])
theorem r_hln_4_ok : ruOk r_hln_4 := by
  intro ρ hl0 hp
  obtain ⟨n, t0, rfl, hl1⟩ := len_inv hl0
  have hl := List.eq_nil_of_length_eq_zero hl1
  subst hl
  have p1 := i_get (fOk_hd hp)
  simp only [List.map, xv, fev, fvl, gtI, Int.one_mul, Int.add_zero, Int.zero_add] at p1
  have q := k_hln_4 (n := n) p1
  refine ⟨[], rfl, fOk_cons (p_put3 rfl (by decide) ?_) fOk_nil⟩ <;> simp only [List.map, xv, fev, fvl, gtI, Int.one_mul, Int.add_zero, Int.zero_add, List.append_nil]
  exact q
def r_hln_5 : eRul := (1, [(.inl [[(10, 10)]], [xv 0])], 0, [xP 120 [xv 0]])
theorem r_hln_5_ok : ruOk r_hln_5 := by
  intro ρ hl0 hp
  obtain ⟨n, t0, rfl, hl1⟩ := len_inv hl0
  have hl := List.eq_nil_of_length_eq_zero hl1
  subst hl
  have p1 := i_get (fOk_hd hp)
  simp only [List.map, xv, fev, fvl, gtI, Int.one_mul, Int.add_zero, Int.zero_add] at p1
  have q := k_hln_5 (n := n) p1
  refine ⟨[], rfl, fOk_cons (p_put3 rfl (by decide) ?_) fOk_nil⟩ <;> simp only [List.map, xv, fev, fvl, gtI, Int.one_mul, Int.add_zero, Int.zero_add, List.append_nil]
  exact q
def r_hln_6 : eRul := (1, [(.inl [[(12, 12)]], [xv 0])], 0, [xP 120 [xv 0]])
theorem r_hln_6_ok : ruOk r_hln_6 := by
  intro ρ hl0 hp
  obtain ⟨n, t0, rfl, hl1⟩ := len_inv hl0
  have hl := List.eq_nil_of_length_eq_zero hl1
  subst hl
  have p1 := i_get (fOk_hd hp)
  simp only [List.map, xv, fev, fvl, gtI, Int.one_mul, Int.add_zero, Int.zero_add] at p1
  have q := k_hln_6 (n := n) p1
  refine ⟨[], rfl, fOk_cons (p_put3 rfl (by decide) ?_) fOk_nil⟩ <;> simp only [List.map, xv, fev, fvl, gtI, Int.one_mul, Int.add_zero, Int.zero_add, List.append_nil]
  exact q
def r_hln_7 : eRul := (1, [(.inl [[(14, 14)]], [xv 0])], 0, [xP 120 [xv 0]])
theorem r_hln_7_ok : ruOk r_hln_7 := by
  intro ρ hl0 hp
  obtain ⟨n, t0, rfl, hl1⟩ := len_inv hl0
  have hl := List.eq_nil_of_length_eq_zero hl1
  subst hl
  have p1 := i_get (fOk_hd hp)
  simp only [List.map, xv, fev, fvl, gtI, Int.one_mul, Int.add_zero, Int.zero_add] at p1
  have q := k_hln_7 (n := n) p1
  refine ⟨[], rfl, fOk_cons (p_put3 rfl (by decide) ?_) fOk_nil⟩ <;> simp only [List.map, xv, fev, fvl, gtI, Int.one_mul, Int.add_zero, Int.zero_add, List.append_nil]
  exact q
def r_hln_8 : eRul := (1, [(.inl [[(16, 16)]], [xv 0])], 0, [xP 120 [xv 0]])
theorem r_hln_8_ok : ruOk r_hln_8 := by
  intro ρ hl0 hp
  obtain ⟨n, t0, rfl, hl1⟩ := len_inv hl0
  have hl := List.eq_nil_of_length_eq_zero hl1
  subst hl
  have p1 := i_get (fOk_hd hp)
  simp only [List.map, xv, fev, fvl, gtI, Int.one_mul, Int.add_zero, Int.zero_add] at p1
  have q := k_hln_8 (n := n) p1
  refine ⟨[], rfl, fOk_cons (p_put3 rfl (by decide) ?_) fOk_nil⟩ <;> simp only [List.map, xv, fev, fvl, gtI, Int.one_mul, Int.add_zero, Int.zero_add, List.append_nil]
  exact q
def r_room : eRul := (4, [xP 58 [xv 0, ([], 0), ([(1, 1)], -1), xv 2], xP 1 [xv 1, xv 3, ([], 1)]], 0, [xP 118 [xv 3, xv 0, xv 2]])
theorem r_room_ok : ruOk r_room := by
  intro ρ hl0 hp
  obtain ⟨r, t0, rfl, hl1⟩ := len_inv hl0
  obtain ⟨m, t1, rfl, hl2⟩ := len_inv hl1
  obtain ⟨v, t2, rfl, hl3⟩ := len_inv hl2
  obtain ⟨zr, t3, rfl, hl4⟩ := len_inv hl3
  have hl := List.eq_nil_of_length_eq_zero hl4
  subst hl
  have p1 := p_get3 (by decide) (fOk_hd hp)
  have p2 := p_get (fOk_hd (fOk_tl hp))
  simp only [List.map, xv, fev, fvl, gtI, Int.one_mul, Int.add_zero, Int.zero_add, PR] at p1 p2
  have q := k_room (r := r) (m := m) (v := v) (zr := zr) p1 p2
  refine ⟨[], rfl, fOk_cons (p_put3 rfl (by decide) ?_) fOk_nil⟩ <;> simp only [List.map, xv, fev, fvl, gtI, Int.one_mul, Int.add_zero, Int.zero_add, List.append_nil]
  exact q
def r_mkv_0 : eRul := (2, [], 0, [xP 113 [xv 0, xv 1, ([], 0)]])
theorem r_mkv_0_ok : ruOk r_mkv_0 := by
  intro ρ hl0 hp
  obtain ⟨z, t0, rfl, hl1⟩ := len_inv hl0
  obtain ⟨zr, t1, rfl, hl2⟩ := len_inv hl1
  have hl := List.eq_nil_of_length_eq_zero hl2
  subst hl
  have q := k_mkv_0 (z := z) (zr := zr)
  refine ⟨[], rfl, fOk_cons (p_put3 rfl (by decide) ?_) fOk_nil⟩ <;> simp only [List.map, xv, fev, fvl, gtI, Int.one_mul, Int.add_zero, Int.zero_add, List.append_nil]
  exact q
def r_mkv_1 : eRul := (5, [xP 113 [xv 0, xv 1, xv 2], xP 1 [xv 3, xv 0, xv 2], (.inl [[(0, 255)]], [xv 3]), xP 1 [xv 4, xv 0, ([(2, 1)], 1)], (.inl [[(0, 255)]], [xv 4]), xP 118 [xv 1, xv 3, ([], 1)], xG (([(4, 1)], -1))], 0, [xP 113 [xv 0, xv 1, ([(2, 1)], 2)]])
theorem r_mkv_1_ok : ruOk r_mkv_1 := by
  intro ρ hl0 hp
  obtain ⟨z, t0, rfl, hl1⟩ := len_inv hl0
  obtain ⟨zr, t1, rfl, hl2⟩ := len_inv hl1
  obtain ⟨k, t2, rfl, hl3⟩ := len_inv hl2
  obtain ⟨m, t3, rfl, hl4⟩ := len_inv hl3
  obtain ⟨w, t4, rfl, hl5⟩ := len_inv hl4
  have hl := List.eq_nil_of_length_eq_zero hl5
  subst hl
  have p1 := p_get3 (by decide) (fOk_hd hp)
  have p2 := p_get (fOk_hd (fOk_tl hp))
  have p3 := i_get (fOk_hd (fOk_tl (fOk_tl hp)))
  have p4 := p_get (fOk_hd (fOk_tl (fOk_tl (fOk_tl hp))))
  have p5 := i_get (fOk_hd (fOk_tl (fOk_tl (fOk_tl (fOk_tl hp)))))
  have p6 := p_get3 (by decide) (fOk_hd (fOk_tl (fOk_tl (fOk_tl (fOk_tl (fOk_tl hp))))))
  have p7 := gg_get (fOk_hd (fOk_tl (fOk_tl (fOk_tl (fOk_tl (fOk_tl (fOk_tl hp)))))))
  simp only [List.map, xv, fev, fvl, gtI, Int.one_mul, Int.add_zero, Int.zero_add, PR] at p1 p2 p3 p4 p5 p6 p7
  have q := k_mkv_1 (z := z) (zr := zr) (k := k) (m := m) (w := w) p1 p2 p3 p4 p5 p6 p7
  refine ⟨[], rfl, fOk_cons (p_put3 rfl (by decide) ?_) fOk_nil⟩ <;> simp only [List.map, xv, fev, fvl, gtI, Int.one_mul, Int.add_zero, Int.zero_add, List.append_nil]
  exact q
def r_mkr_r : eRul := (8, [xP 113 [xv 0, xv 1, xv 2], xP 1 [xv 3, xv 0, xv 2], (.inl [[(0, 255)]], [xv 3]), xP 118 [xv 1, xv 3, ([], 0)], xP 120 [xv 4], xG (([(2, 1), (4, -1)], 1))], 0, [xP 106 [xv 0, xv 4, xv 1, ([], -1), xv 5, xv 6, xv 7]])
theorem r_mkr_r_ok : ruOk r_mkr_r := by
  intro ρ hl0 hp
  obtain ⟨z, t0, rfl, hl1⟩ := len_inv hl0
  obtain ⟨zr, t1, rfl, hl2⟩ := len_inv hl1
  obtain ⟨k, t2, rfl, hl3⟩ := len_inv hl2
  obtain ⟨m, t3, rfl, hl4⟩ := len_inv hl3
  obtain ⟨n, t4, rfl, hl5⟩ := len_inv hl4
  obtain ⟨x, t5, rfl, hl6⟩ := len_inv hl5
  obtain ⟨y, t6, rfl, hl7⟩ := len_inv hl6
  obtain ⟨b, t7, rfl, hl8⟩ := len_inv hl7
  have hl := List.eq_nil_of_length_eq_zero hl8
  subst hl
  have p1 := p_get3 (by decide) (fOk_hd hp)
  have p2 := p_get (fOk_hd (fOk_tl hp))
  have p3 := i_get (fOk_hd (fOk_tl (fOk_tl hp)))
  have p4 := p_get3 (by decide) (fOk_hd (fOk_tl (fOk_tl (fOk_tl hp))))
  have p5 := p_get3 (by decide) (fOk_hd (fOk_tl (fOk_tl (fOk_tl (fOk_tl hp)))))
  have p6 := gg_get (fOk_hd (fOk_tl (fOk_tl (fOk_tl (fOk_tl (fOk_tl hp))))))
  simp only [List.map, xv, fev, fvl, gtI, Int.one_mul, Int.add_zero, Int.zero_add, PR] at p1 p2 p3 p4 p5 p6
  have q := k_mkr_r (z := z) (zr := zr) (k := k) (m := m) (n := n) (x := x) (y := y) (b := b) p1 p2 p3 p4 p5 p6
  refine ⟨[], rfl, fOk_cons (p_put3 rfl (by decide) ?_) fOk_nil⟩ <;> simp only [List.map, xv, fev, fvl, gtI, Int.one_mul, Int.add_zero, Int.zero_add, List.append_nil]
  exact q
def r_mkr_w : eRul := (8, [xP 113 [xv 0, xv 1, xv 2], xP 1 [xv 3, xv 0, ([(2, 1)], 1)], (.inl [[(0, 255)]], [xv 3]), xG (([(3, -1)], 2)), xP 120 [xv 4], xG (([(2, 1), (4, -1)], 1))], 0, [xP 106 [xv 0, xv 4, xv 1, ([], -1), xv 5, xv 6, xv 7]])
theorem r_mkr_w_ok : ruOk r_mkr_w := by
  intro ρ hl0 hp
  obtain ⟨z, t0, rfl, hl1⟩ := len_inv hl0
  obtain ⟨zr, t1, rfl, hl2⟩ := len_inv hl1
  obtain ⟨k, t2, rfl, hl3⟩ := len_inv hl2
  obtain ⟨w, t3, rfl, hl4⟩ := len_inv hl3
  obtain ⟨n, t4, rfl, hl5⟩ := len_inv hl4
  obtain ⟨x, t5, rfl, hl6⟩ := len_inv hl5
  obtain ⟨y, t6, rfl, hl7⟩ := len_inv hl6
  obtain ⟨b, t7, rfl, hl8⟩ := len_inv hl7
  have hl := List.eq_nil_of_length_eq_zero hl8
  subst hl
  have p1 := p_get3 (by decide) (fOk_hd hp)
  have p2 := p_get (fOk_hd (fOk_tl hp))
  have p3 := i_get (fOk_hd (fOk_tl (fOk_tl hp)))
  have p4 := gg_get (fOk_hd (fOk_tl (fOk_tl (fOk_tl hp))))
  have p5 := p_get3 (by decide) (fOk_hd (fOk_tl (fOk_tl (fOk_tl (fOk_tl hp)))))
  have p6 := gg_get (fOk_hd (fOk_tl (fOk_tl (fOk_tl (fOk_tl (fOk_tl hp))))))
  simp only [List.map, xv, fev, fvl, gtI, Int.one_mul, Int.add_zero, Int.zero_add, PR] at p1 p2 p3 p4 p5 p6
  have q := k_mkr_w (z := z) (zr := zr) (k := k) (w := w) (n := n) (x := x) (y := y) (b := b) p1 p2 p3 p4 p5 p6
  refine ⟨[], rfl, fOk_cons (p_put3 rfl (by decide) ?_) fOk_nil⟩ <;> simp only [List.map, xv, fev, fvl, gtI, Int.one_mul, Int.add_zero, Int.zero_add, List.append_nil]
  exact q
def r_isl_0 : eRul := (3, [], 0, [xP 112 [xv 0, xv 1, xv 2, ([], 0)]])
theorem r_isl_0_ok : ruOk r_isl_0 := by
  intro ρ hl0 hp
  obtain ⟨z, t0, rfl, hl1⟩ := len_inv hl0
  obtain ⟨zr, t1, rfl, hl2⟩ := len_inv hl1
  obtain ⟨v, t2, rfl, hl3⟩ := len_inv hl2
  have hl := List.eq_nil_of_length_eq_zero hl3
  subst hl
  have q := k_isl_0 (z := z) (zr := zr) (v := v)
  refine ⟨[], rfl, fOk_cons (p_put3 rfl (by decide) ?_) fOk_nil⟩ <;> simp only [List.map, xv, fev, fvl, gtI, Int.one_mul, Int.add_zero, Int.zero_add, List.append_nil]
  exact q
def r_isl_1 : eRul := (7, [xP 112 [xv 0, xv 1, xv 2, xv 3], xP 1 [xv 4, xv 0, xv 3], (.inl [[(0, 255)]], [xv 4]), xP 1 [xv 5, xv 0, ([(3, 1)], 1)], (.inl [[(0, 255)]], [xv 5]), xP 1 [xv 6, xv 1, ([(4, 1)], 26)], xG (([(2, -1), (6, 1)], 1)), (.inl [[(1, 1)]], [xv 5]), xG (([(4, -1)], 0))], 0, [xP 112 [xv 0, xv 1, xv 2, ([(3, 1)], 2)]])
theorem r_isl_1_ok : ruOk r_isl_1 := by
  intro ρ hl0 hp
  obtain ⟨z, t0, rfl, hl1⟩ := len_inv hl0
  obtain ⟨zr, t1, rfl, hl2⟩ := len_inv hl1
  obtain ⟨v, t2, rfl, hl3⟩ := len_inv hl2
  obtain ⟨k, t3, rfl, hl4⟩ := len_inv hl3
  obtain ⟨m, t4, rfl, hl5⟩ := len_inv hl4
  obtain ⟨w, t5, rfl, hl6⟩ := len_inv hl5
  obtain ⟨f, t6, rfl, hl7⟩ := len_inv hl6
  have hl := List.eq_nil_of_length_eq_zero hl7
  subst hl
  have p1 := p_get3 (by decide) (fOk_hd hp)
  have p2 := p_get (fOk_hd (fOk_tl hp))
  have p3 := i_get (fOk_hd (fOk_tl (fOk_tl hp)))
  have p4 := p_get (fOk_hd (fOk_tl (fOk_tl (fOk_tl hp))))
  have p5 := i_get (fOk_hd (fOk_tl (fOk_tl (fOk_tl (fOk_tl hp)))))
  have p6 := p_get (fOk_hd (fOk_tl (fOk_tl (fOk_tl (fOk_tl (fOk_tl hp))))))
  have p7 := gg_get (fOk_hd (fOk_tl (fOk_tl (fOk_tl (fOk_tl (fOk_tl (fOk_tl hp)))))))
  have p8 := i_get (fOk_hd (fOk_tl (fOk_tl (fOk_tl (fOk_tl (fOk_tl (fOk_tl (fOk_tl hp))))))))
  have p9 := gg_get (fOk_hd (fOk_tl (fOk_tl (fOk_tl (fOk_tl (fOk_tl (fOk_tl (fOk_tl (fOk_tl hp)))))))))
  simp only [List.map, xv, fev, fvl, gtI, Int.one_mul, Int.add_zero, Int.zero_add, PR] at p1 p2 p3 p4 p5 p6 p7 p8 p9
  have q := k_isl_1 (z := z) (zr := zr) (v := v) (k := k) (m := m) (w := w) (f := f) p1 p2 p3 p4 p5 p6 p7 p8 p9
  refine ⟨[], rfl, fOk_cons (p_put3 rfl (by decide) ?_) fOk_nil⟩ <;> simp only [List.map, xv, fev, fvl, gtI, Int.one_mul, Int.add_zero, Int.zero_add, List.append_nil]
  exact q
def r_isl_2a : eRul := (7, [xP 112 [xv 0, xv 1, xv 2, xv 3], xP 1 [xv 4, xv 0, xv 3], (.inl [[(0, 255)]], [xv 4]), xP 1 [xv 5, xv 0, ([(3, 1)], 1)], (.inl [[(0, 255)]], [xv 5]), xP 1 [xv 6, xv 1, ([(4, 1)], 26)], xG (([(2, 1), (6, -1)], 0)), xG (xv 5), xG (([(4, -1)], 0))], 0, [xP 112 [xv 0, xv 1, xv 2, ([(3, 1)], 2)]])
theorem r_isl_2a_ok : ruOk r_isl_2a := by
  intro ρ hl0 hp
  obtain ⟨z, t0, rfl, hl1⟩ := len_inv hl0
  obtain ⟨zr, t1, rfl, hl2⟩ := len_inv hl1
  obtain ⟨v, t2, rfl, hl3⟩ := len_inv hl2
  obtain ⟨k, t3, rfl, hl4⟩ := len_inv hl3
  obtain ⟨m, t4, rfl, hl5⟩ := len_inv hl4
  obtain ⟨w, t5, rfl, hl6⟩ := len_inv hl5
  obtain ⟨f, t6, rfl, hl7⟩ := len_inv hl6
  have hl := List.eq_nil_of_length_eq_zero hl7
  subst hl
  have p1 := p_get3 (by decide) (fOk_hd hp)
  have p2 := p_get (fOk_hd (fOk_tl hp))
  have p3 := i_get (fOk_hd (fOk_tl (fOk_tl hp)))
  have p4 := p_get (fOk_hd (fOk_tl (fOk_tl (fOk_tl hp))))
  have p5 := i_get (fOk_hd (fOk_tl (fOk_tl (fOk_tl (fOk_tl hp)))))
  have p6 := p_get (fOk_hd (fOk_tl (fOk_tl (fOk_tl (fOk_tl (fOk_tl hp))))))
  have p7 := gg_get (fOk_hd (fOk_tl (fOk_tl (fOk_tl (fOk_tl (fOk_tl (fOk_tl hp)))))))
  have p8 := gg_get (fOk_hd (fOk_tl (fOk_tl (fOk_tl (fOk_tl (fOk_tl (fOk_tl (fOk_tl hp))))))))
  have p9 := gg_get (fOk_hd (fOk_tl (fOk_tl (fOk_tl (fOk_tl (fOk_tl (fOk_tl (fOk_tl (fOk_tl hp)))))))))
  simp only [List.map, xv, fev, fvl, gtI, Int.one_mul, Int.add_zero, Int.zero_add, PR] at p1 p2 p3 p4 p5 p6 p7 p8 p9
  have q := k_isl_2a (z := z) (zr := zr) (v := v) (k := k) (m := m) (w := w) (f := f) p1 p2 p3 p4 p5 p6 p7 p8 p9
  refine ⟨[], rfl, fOk_cons (p_put3 rfl (by decide) ?_) fOk_nil⟩ <;> simp only [List.map, xv, fev, fvl, gtI, Int.one_mul, Int.add_zero, Int.zero_add, List.append_nil]
  exact q
def r_ism_xa : eRul := (9, [xP 112 [xv 0, xv 1, xv 2, xv 3], xP 1 [xv 4, xv 0, xv 3], (.inl [[(0, 255)]], [xv 4]), xP 1 [xv 5, xv 0, ([(3, 1)], 1)], (.inl [[(0, 255)]], [xv 5]), xP 1 [xv 6, xv 1, ([(4, 1)], 26)], xG (([(2, -1), (6, 1)], 1)), xG (xv 5), xG (([(4, -1)], 0)), xG (([(3, 1), (7, -1)], 1)), (.inl [[(0, 0)]], [xv 8])], 0, [xP 111 [xv 0, xv 7, xv 1, xv 2, xv 8]])
theorem r_ism_xa_ok : ruOk r_ism_xa := by
  intro ρ hl0 hp
  obtain ⟨z, t0, rfl, hl1⟩ := len_inv hl0
  obtain ⟨zr, t1, rfl, hl2⟩ := len_inv hl1
  obtain ⟨v, t2, rfl, hl3⟩ := len_inv hl2
  obtain ⟨k, t3, rfl, hl4⟩ := len_inv hl3
  obtain ⟨m, t4, rfl, hl5⟩ := len_inv hl4
  obtain ⟨w, t5, rfl, hl6⟩ := len_inv hl5
  obtain ⟨f, t6, rfl, hl7⟩ := len_inv hl6
  obtain ⟨n, t7, rfl, hl8⟩ := len_inv hl7
  obtain ⟨r, t8, rfl, hl9⟩ := len_inv hl8
  have hl := List.eq_nil_of_length_eq_zero hl9
  subst hl
  have p1 := p_get3 (by decide) (fOk_hd hp)
  have p2 := p_get (fOk_hd (fOk_tl hp))
  have p3 := i_get (fOk_hd (fOk_tl (fOk_tl hp)))
  have p4 := p_get (fOk_hd (fOk_tl (fOk_tl (fOk_tl hp))))
  have p5 := i_get (fOk_hd (fOk_tl (fOk_tl (fOk_tl (fOk_tl hp)))))
  have p6 := p_get (fOk_hd (fOk_tl (fOk_tl (fOk_tl (fOk_tl (fOk_tl hp))))))
  have p7 := gg_get (fOk_hd (fOk_tl (fOk_tl (fOk_tl (fOk_tl (fOk_tl (fOk_tl hp)))))))
  have p8 := gg_get (fOk_hd (fOk_tl (fOk_tl (fOk_tl (fOk_tl (fOk_tl (fOk_tl (fOk_tl hp))))))))
  have p9 := gg_get (fOk_hd (fOk_tl (fOk_tl (fOk_tl (fOk_tl (fOk_tl (fOk_tl (fOk_tl (fOk_tl hp)))))))))
  have p10 := gg_get (fOk_hd (fOk_tl (fOk_tl (fOk_tl (fOk_tl (fOk_tl (fOk_tl (fOk_tl (fOk_tl (fOk_tl hp))))))))))
  have p11 := i_get (fOk_hd (fOk_tl (fOk_tl (fOk_tl (fOk_tl (fOk_tl (fOk_tl (fOk_tl (fOk_tl (fOk_tl (fOk_tl hp)))))))))))
  simp only [List.map, xv, fev, fvl, gtI, Int.one_mul, Int.add_zero, Int.zero_add, PR] at p1 p2 p3 p4 p5 p6 p7 p8 p9 p10 p11
  have q := k_ism_xa (z := z) (zr := zr) (v := v) (k := k) (m := m) (w := w) (f := f) (n := n) (r := r) p1 p2 p3 p4 p5 p6 p7 p8 p9 p10 p11
  refine ⟨[], rfl, fOk_cons (p_put3 rfl (by decide) ?_) fOk_nil⟩ <;> simp only [List.map, xv, fev, fvl, gtI, Int.one_mul, Int.add_zero, Int.zero_add, List.append_nil]
  exact q
def r_isl_2b : eRul := (7, [xP 112 [xv 0, xv 1, xv 2, xv 3], xP 1 [xv 4, xv 0, xv 3], (.inl [[(0, 255)]], [xv 4]), xP 1 [xv 5, xv 0, ([(3, 1)], 1)], (.inl [[(0, 255)]], [xv 5]), xP 1 [xv 6, xv 1, ([(4, 1)], 26)], xG (([(2, 1), (6, -1)], 0)), xG (([(5, -1)], 2)), xG (([(4, -1)], 0))], 0, [xP 112 [xv 0, xv 1, xv 2, ([(3, 1)], 2)]])
theorem r_isl_2b_ok : ruOk r_isl_2b := by
  intro ρ hl0 hp
  obtain ⟨z, t0, rfl, hl1⟩ := len_inv hl0
  obtain ⟨zr, t1, rfl, hl2⟩ := len_inv hl1
  obtain ⟨v, t2, rfl, hl3⟩ := len_inv hl2
  obtain ⟨k, t3, rfl, hl4⟩ := len_inv hl3
  obtain ⟨m, t4, rfl, hl5⟩ := len_inv hl4
  obtain ⟨w, t5, rfl, hl6⟩ := len_inv hl5
  obtain ⟨f, t6, rfl, hl7⟩ := len_inv hl6
  have hl := List.eq_nil_of_length_eq_zero hl7
  subst hl
  have p1 := p_get3 (by decide) (fOk_hd hp)
  have p2 := p_get (fOk_hd (fOk_tl hp))
  have p3 := i_get (fOk_hd (fOk_tl (fOk_tl hp)))
  have p4 := p_get (fOk_hd (fOk_tl (fOk_tl (fOk_tl hp))))
  have p5 := i_get (fOk_hd (fOk_tl (fOk_tl (fOk_tl (fOk_tl hp)))))
  have p6 := p_get (fOk_hd (fOk_tl (fOk_tl (fOk_tl (fOk_tl (fOk_tl hp))))))
  have p7 := gg_get (fOk_hd (fOk_tl (fOk_tl (fOk_tl (fOk_tl (fOk_tl (fOk_tl hp)))))))
  have p8 := gg_get (fOk_hd (fOk_tl (fOk_tl (fOk_tl (fOk_tl (fOk_tl (fOk_tl (fOk_tl hp))))))))
  have p9 := gg_get (fOk_hd (fOk_tl (fOk_tl (fOk_tl (fOk_tl (fOk_tl (fOk_tl (fOk_tl (fOk_tl hp)))))))))
  simp only [List.map, xv, fev, fvl, gtI, Int.one_mul, Int.add_zero, Int.zero_add, PR] at p1 p2 p3 p4 p5 p6 p7 p8 p9
  have q := k_isl_2b (z := z) (zr := zr) (v := v) (k := k) (m := m) (w := w) (f := f) p1 p2 p3 p4 p5 p6 p7 p8 p9
  refine ⟨[], rfl, fOk_cons (p_put3 rfl (by decide) ?_) fOk_nil⟩ <;> simp only [List.map, xv, fev, fvl, gtI, Int.one_mul, Int.add_zero, Int.zero_add, List.append_nil]
  exact q
def r_ism_xb : eRul := (9, [xP 112 [xv 0, xv 1, xv 2, xv 3], xP 1 [xv 4, xv 0, xv 3], (.inl [[(0, 255)]], [xv 4]), xP 1 [xv 5, xv 0, ([(3, 1)], 1)], (.inl [[(0, 255)]], [xv 5]), xP 1 [xv 6, xv 1, ([(4, 1)], 26)], xG (([(2, -1), (6, 1)], 1)), xG (([(5, -1)], 2)), xG (([(4, -1)], 0)), xG (([(3, 1), (7, -1)], 1)), (.inl [[(0, 0)]], [xv 8])], 0, [xP 111 [xv 0, xv 7, xv 1, xv 2, xv 8]])
theorem r_ism_xb_ok : ruOk r_ism_xb := by
  intro ρ hl0 hp
  obtain ⟨z, t0, rfl, hl1⟩ := len_inv hl0
  obtain ⟨zr, t1, rfl, hl2⟩ := len_inv hl1
  obtain ⟨v, t2, rfl, hl3⟩ := len_inv hl2
  obtain ⟨k, t3, rfl, hl4⟩ := len_inv hl3
  obtain ⟨m, t4, rfl, hl5⟩ := len_inv hl4
  obtain ⟨w, t5, rfl, hl6⟩ := len_inv hl5
  obtain ⟨f, t6, rfl, hl7⟩ := len_inv hl6
  obtain ⟨n, t7, rfl, hl8⟩ := len_inv hl7
  obtain ⟨r, t8, rfl, hl9⟩ := len_inv hl8
  have hl := List.eq_nil_of_length_eq_zero hl9
  subst hl
  have p1 := p_get3 (by decide) (fOk_hd hp)
  have p2 := p_get (fOk_hd (fOk_tl hp))
  have p3 := i_get (fOk_hd (fOk_tl (fOk_tl hp)))
  have p4 := p_get (fOk_hd (fOk_tl (fOk_tl (fOk_tl hp))))
  have p5 := i_get (fOk_hd (fOk_tl (fOk_tl (fOk_tl (fOk_tl hp)))))
  have p6 := p_get (fOk_hd (fOk_tl (fOk_tl (fOk_tl (fOk_tl (fOk_tl hp))))))
  have p7 := gg_get (fOk_hd (fOk_tl (fOk_tl (fOk_tl (fOk_tl (fOk_tl (fOk_tl hp)))))))
  have p8 := gg_get (fOk_hd (fOk_tl (fOk_tl (fOk_tl (fOk_tl (fOk_tl (fOk_tl (fOk_tl hp))))))))
  have p9 := gg_get (fOk_hd (fOk_tl (fOk_tl (fOk_tl (fOk_tl (fOk_tl (fOk_tl (fOk_tl (fOk_tl hp)))))))))
  have p10 := gg_get (fOk_hd (fOk_tl (fOk_tl (fOk_tl (fOk_tl (fOk_tl (fOk_tl (fOk_tl (fOk_tl (fOk_tl hp))))))))))
  have p11 := i_get (fOk_hd (fOk_tl (fOk_tl (fOk_tl (fOk_tl (fOk_tl (fOk_tl (fOk_tl (fOk_tl (fOk_tl (fOk_tl hp)))))))))))
  simp only [List.map, xv, fev, fvl, gtI, Int.one_mul, Int.add_zero, Int.zero_add, PR] at p1 p2 p3 p4 p5 p6 p7 p8 p9 p10 p11
  have q := k_ism_xb (z := z) (zr := zr) (v := v) (k := k) (m := m) (w := w) (f := f) (n := n) (r := r) p1 p2 p3 p4 p5 p6 p7 p8 p9 p10 p11
  refine ⟨[], rfl, fOk_cons (p_put3 rfl (by decide) ?_) fOk_nil⟩ <;> simp only [List.map, xv, fev, fvl, gtI, Int.one_mul, Int.add_zero, Int.zero_add, List.append_nil]
  exact q
def r_ism_y : eRul := (9, [xP 112 [xv 0, xv 1, xv 2, xv 3], xP 1 [xv 4, xv 0, xv 3], (.inl [[(0, 255)]], [xv 4]), xP 1 [xv 5, xv 0, ([(3, 1)], 1)], (.inl [[(0, 255)]], [xv 5]), xP 1 [xv 6, xv 1, ([(4, 1)], 26)], xG (([(2, 1), (6, -1)], 0)), (.inl [[(1, 1)]], [xv 5]), xG (([(4, -1)], 0)), xG (([(3, 1), (7, -1)], 1)), (.inl [[(0, 0)]], [xv 8])], 0, [xP 111 [xv 0, xv 7, xv 1, xv 2, xv 8]])
theorem r_ism_y_ok : ruOk r_ism_y := by
  intro ρ hl0 hp
  obtain ⟨z, t0, rfl, hl1⟩ := len_inv hl0
  obtain ⟨zr, t1, rfl, hl2⟩ := len_inv hl1
  obtain ⟨v, t2, rfl, hl3⟩ := len_inv hl2
  obtain ⟨k, t3, rfl, hl4⟩ := len_inv hl3
  obtain ⟨m, t4, rfl, hl5⟩ := len_inv hl4
  obtain ⟨w, t5, rfl, hl6⟩ := len_inv hl5
  obtain ⟨f, t6, rfl, hl7⟩ := len_inv hl6
  obtain ⟨n, t7, rfl, hl8⟩ := len_inv hl7
  obtain ⟨r, t8, rfl, hl9⟩ := len_inv hl8
  have hl := List.eq_nil_of_length_eq_zero hl9
  subst hl
  have p1 := p_get3 (by decide) (fOk_hd hp)
  have p2 := p_get (fOk_hd (fOk_tl hp))
  have p3 := i_get (fOk_hd (fOk_tl (fOk_tl hp)))
  have p4 := p_get (fOk_hd (fOk_tl (fOk_tl (fOk_tl hp))))
  have p5 := i_get (fOk_hd (fOk_tl (fOk_tl (fOk_tl (fOk_tl hp)))))
  have p6 := p_get (fOk_hd (fOk_tl (fOk_tl (fOk_tl (fOk_tl (fOk_tl hp))))))
  have p7 := gg_get (fOk_hd (fOk_tl (fOk_tl (fOk_tl (fOk_tl (fOk_tl (fOk_tl hp)))))))
  have p8 := i_get (fOk_hd (fOk_tl (fOk_tl (fOk_tl (fOk_tl (fOk_tl (fOk_tl (fOk_tl hp))))))))
  have p9 := gg_get (fOk_hd (fOk_tl (fOk_tl (fOk_tl (fOk_tl (fOk_tl (fOk_tl (fOk_tl (fOk_tl hp)))))))))
  have p10 := gg_get (fOk_hd (fOk_tl (fOk_tl (fOk_tl (fOk_tl (fOk_tl (fOk_tl (fOk_tl (fOk_tl (fOk_tl hp))))))))))
  have p11 := i_get (fOk_hd (fOk_tl (fOk_tl (fOk_tl (fOk_tl (fOk_tl (fOk_tl (fOk_tl (fOk_tl (fOk_tl (fOk_tl hp)))))))))))
  simp only [List.map, xv, fev, fvl, gtI, Int.one_mul, Int.add_zero, Int.zero_add, PR] at p1 p2 p3 p4 p5 p6 p7 p8 p9 p10 p11
  have q := k_ism_y (z := z) (zr := zr) (v := v) (k := k) (m := m) (w := w) (f := f) (n := n) (r := r) p1 p2 p3 p4 p5 p6 p7 p8 p9 p10 p11
  refine ⟨[], rfl, fOk_cons (p_put3 rfl (by decide) ?_) fOk_nil⟩ <;> simp only [List.map, xv, fev, fvl, gtI, Int.one_mul, Int.add_zero, Int.zero_add, List.append_nil]
  exact q
def r_ism_1 : eRul := (6, [xP 112 [xv 0, xv 1, xv 2, xv 3], xG (([(3, -1), (4, 1)], 0)), xG (([(3, 1), (4, -1)], -1)), (.inl [[(1, 1)]], [xv 5])], 0, [xP 111 [xv 0, xv 4, xv 1, xv 2, xv 5]])
theorem r_ism_1_ok : ruOk r_ism_1 := by
  intro ρ hl0 hp
  obtain ⟨z, t0, rfl, hl1⟩ := len_inv hl0
  obtain ⟨zr, t1, rfl, hl2⟩ := len_inv hl1
  obtain ⟨v, t2, rfl, hl3⟩ := len_inv hl2
  obtain ⟨k, t3, rfl, hl4⟩ := len_inv hl3
  obtain ⟨n, t4, rfl, hl5⟩ := len_inv hl4
  obtain ⟨r, t5, rfl, hl6⟩ := len_inv hl5
  have hl := List.eq_nil_of_length_eq_zero hl6
  subst hl
  have p1 := p_get3 (by decide) (fOk_hd hp)
  have p2 := gg_get (fOk_hd (fOk_tl hp))
  have p3 := gg_get (fOk_hd (fOk_tl (fOk_tl hp)))
  have p4 := i_get (fOk_hd (fOk_tl (fOk_tl (fOk_tl hp))))
  simp only [List.map, xv, fev, fvl, gtI, Int.one_mul, Int.add_zero, Int.zero_add] at p1 p2 p3 p4
  have q := k_ism_1 (z := z) (zr := zr) (v := v) (k := k) (n := n) (r := r) p1 p2 p3 p4
  refine ⟨[], rfl, fOk_cons (p_put3 rfl (by decide) ?_) fOk_nil⟩ <;> simp only [List.map, xv, fev, fvl, gtI, Int.one_mul, Int.add_zero, Int.zero_add, List.append_nil]
  exact q
def r_mkl_0 : eRul := (5, [xP 113 [xv 0, xv 1, xv 2], xP 120 [xv 3], xG (([(2, -1), (3, 1)], 0)), xG (([(2, 1), (3, -1)], -1))], 0, [xP 114 [xv 0, xv 3, xv 1, xv 4, ([], 0), ([], 0)]])
theorem r_mkl_0_ok : ruOk r_mkl_0 := by
  intro ρ hl0 hp
  obtain ⟨z, t0, rfl, hl1⟩ := len_inv hl0
  obtain ⟨zr, t1, rfl, hl2⟩ := len_inv hl1
  obtain ⟨k, t2, rfl, hl3⟩ := len_inv hl2
  obtain ⟨n, t3, rfl, hl4⟩ := len_inv hl3
  obtain ⟨zm, t4, rfl, hl5⟩ := len_inv hl4
  have hl := List.eq_nil_of_length_eq_zero hl5
  subst hl
  have p1 := p_get3 (by decide) (fOk_hd hp)
  have p2 := p_get3 (by decide) (fOk_hd (fOk_tl hp))
  have p3 := gg_get (fOk_hd (fOk_tl (fOk_tl hp)))
  have p4 := gg_get (fOk_hd (fOk_tl (fOk_tl (fOk_tl hp))))
  simp only [List.map, xv, fev, fvl, gtI, Int.one_mul, Int.add_zero, Int.zero_add] at p1 p2 p3 p4
  have q := k_mkl_0 (z := z) (zr := zr) (k := k) (n := n) (zm := zm) p1 p2 p3 p4
  refine ⟨[], rfl, fOk_cons (p_put3 rfl (by decide) ?_) fOk_nil⟩ <;> simp only [List.map, xv, fev, fvl, gtI, Int.one_mul, Int.add_zero, Int.zero_add, List.append_nil]
  exact q
def r_mkl_1 : eRul := (7, [xP 114 [xv 0, xv 1, xv 2, xv 3, xv 4, xv 5], xP 111 [xv 0, xv 1, xv 2, xv 4, ([], 1)], xP 2 [xv 6, xv 3, xv 5, xv 4], xG (([(4, -1)], 0)), xG (([(4, 1)], -99))], 0, [xP 114 [xv 0, xv 1, xv 2, xv 6, ([(4, 1)], 1), ([(5, 1)], 1)]])
theorem r_mkl_1_ok : ruOk r_mkl_1 := by
  intro ρ hl0 hp
  obtain ⟨z, t0, rfl, hl1⟩ := len_inv hl0
  obtain ⟨n, t1, rfl, hl2⟩ := len_inv hl1
  obtain ⟨zr, t2, rfl, hl3⟩ := len_inv hl2
  obtain ⟨zm, t3, rfl, hl4⟩ := len_inv hl3
  obtain ⟨v, t4, rfl, hl5⟩ := len_inv hl4
  obtain ⟨c, t5, rfl, hl6⟩ := len_inv hl5
  obtain ⟨y, t6, rfl, hl7⟩ := len_inv hl6
  have hl := List.eq_nil_of_length_eq_zero hl7
  subst hl
  have p1 := p_get3 (by decide) (fOk_hd hp)
  have p2 := p_get3 (by decide) (fOk_hd (fOk_tl hp))
  have p3 := p_get (fOk_hd (fOk_tl (fOk_tl hp)))
  have p4 := gg_get (fOk_hd (fOk_tl (fOk_tl (fOk_tl hp))))
  have p5 := gg_get (fOk_hd (fOk_tl (fOk_tl (fOk_tl (fOk_tl hp)))))
  simp only [List.map, xv, fev, fvl, gtI, Int.one_mul, Int.add_zero, Int.zero_add, PR] at p1 p2 p3 p4 p5
  have q := k_mkl_1 (z := z) (n := n) (zr := zr) (zm := zm) (v := v) (c := c) (y := y) p1 p2 p3 p4 p5
  refine ⟨[], rfl, fOk_cons (p_put3 rfl (by decide) ?_) fOk_nil⟩ <;> simp only [List.map, xv, fev, fvl, gtI, Int.one_mul, Int.add_zero, Int.zero_add, List.append_nil]
  exact q
def r_mkl_2 : eRul := (6, [xP 114 [xv 0, xv 1, xv 2, xv 3, xv 4, xv 5], xP 111 [xv 0, xv 1, xv 2, xv 4, ([], 0)], xG (([(4, -1)], 0)), xG (([(4, 1)], -99))], 0, [xP 114 [xv 0, xv 1, xv 2, xv 3, ([(4, 1)], 1), xv 5]])
theorem r_mkl_2_ok : ruOk r_mkl_2 := by
  intro ρ hl0 hp
  obtain ⟨z, t0, rfl, hl1⟩ := len_inv hl0
  obtain ⟨n, t1, rfl, hl2⟩ := len_inv hl1
  obtain ⟨zr, t2, rfl, hl3⟩ := len_inv hl2
  obtain ⟨zm, t3, rfl, hl4⟩ := len_inv hl3
  obtain ⟨v, t4, rfl, hl5⟩ := len_inv hl4
  obtain ⟨c, t5, rfl, hl6⟩ := len_inv hl5
  have hl := List.eq_nil_of_length_eq_zero hl6
  subst hl
  have p1 := p_get3 (by decide) (fOk_hd hp)
  have p2 := p_get3 (by decide) (fOk_hd (fOk_tl hp))
  have p3 := gg_get (fOk_hd (fOk_tl (fOk_tl hp)))
  have p4 := gg_get (fOk_hd (fOk_tl (fOk_tl (fOk_tl hp))))
  simp only [List.map, xv, fev, fvl, gtI, Int.one_mul, Int.add_zero, Int.zero_add] at p1 p2 p3 p4
  have q := k_mkl_2 (z := z) (n := n) (zr := zr) (zm := zm) (v := v) (c := c) p1 p2 p3 p4
  refine ⟨[], rfl, fOk_cons (p_put3 rfl (by decide) ?_) fOk_nil⟩ <;> simp only [List.map, xv, fev, fvl, gtI, Int.one_mul, Int.add_zero, Int.zero_add, List.append_nil]
  exact q
def r_mkl_u : eRul := (6, [xP 114 [xv 0, xv 1, xv 2, xv 3, xv 4, xv 5], xG (([(4, -1)], 0)), xG (([(4, 1)], -100)), (.inl [[(-2147483648, 2147483647)]], [xv 5])], 0, [(.inl [[(0, 100)]], [xv 5])])
theorem r_mkl_u_ok : ruOk r_mkl_u := by
  intro ρ hl0 hp
  obtain ⟨z, t0, rfl, hl1⟩ := len_inv hl0
  obtain ⟨n, t1, rfl, hl2⟩ := len_inv hl1
  obtain ⟨zr, t2, rfl, hl3⟩ := len_inv hl2
  obtain ⟨zm, t3, rfl, hl4⟩ := len_inv hl3
  obtain ⟨v, t4, rfl, hl5⟩ := len_inv hl4
  obtain ⟨c, t5, rfl, hl6⟩ := len_inv hl5
  have hl := List.eq_nil_of_length_eq_zero hl6
  subst hl
  have p1 := p_get3 (by decide) (fOk_hd hp)
  have p2 := gg_get (fOk_hd (fOk_tl hp))
  have p3 := gg_get (fOk_hd (fOk_tl (fOk_tl hp)))
  have p4 := i_get (fOk_hd (fOk_tl (fOk_tl (fOk_tl hp))))
  simp only [List.map, xv, fev, fvl, gtI, Int.one_mul, Int.add_zero, Int.zero_add] at p1 p2 p3 p4
  have q := k_mkl_u (z := z) (n := n) (zr := zr) (zm := zm) (v := v) (c := c) p1 p2 p3 p4
  refine ⟨[], rfl, fOk_cons (i_put rfl ?_ ?_) fOk_nil⟩ <;> simp only [List.map, xv, fev, fvl, gtI, Int.one_mul, Int.add_zero, Int.zero_add, List.append_nil]
  · exact q.1
  · exact q.2
def r_mkl_s : eRul := (6, [xP 114 [xv 0, xv 1, xv 2, xv 3, xv 4, xv 5], xG (([(4, -1)], 0)), xG (([(4, 1)], -100)), (.inl [[(-2147483648, 2147483647)]], [xv 5])], 0, [xG (([(4, -1), (5, 1)], 0))])
theorem r_mkl_s_ok : ruOk r_mkl_s := by
  intro ρ hl0 hp
  obtain ⟨z, t0, rfl, hl1⟩ := len_inv hl0
  obtain ⟨n, t1, rfl, hl2⟩ := len_inv hl1
  obtain ⟨zr, t2, rfl, hl3⟩ := len_inv hl2
  obtain ⟨zm, t3, rfl, hl4⟩ := len_inv hl3
  obtain ⟨v, t4, rfl, hl5⟩ := len_inv hl4
  obtain ⟨c, t5, rfl, hl6⟩ := len_inv hl5
  have hl := List.eq_nil_of_length_eq_zero hl6
  subst hl
  have p1 := p_get3 (by decide) (fOk_hd hp)
  have p2 := gg_get (fOk_hd (fOk_tl hp))
  have p3 := gg_get (fOk_hd (fOk_tl (fOk_tl hp)))
  have p4 := i_get (fOk_hd (fOk_tl (fOk_tl (fOk_tl hp))))
  simp only [List.map, xv, fev, fvl, gtI, Int.one_mul, Int.add_zero, Int.zero_add] at p1 p2 p3 p4
  have q := k_mkl_s (z := z) (n := n) (zr := zr) (zm := zm) (v := v) (c := c) p1 p2 p3 p4
  refine ⟨[], rfl, fOk_cons (gg_put rfl ?_ ?_) fOk_nil⟩ <;> simp only [List.map, xv, fev, fvl, gtI, Int.one_mul, Int.add_zero, Int.zero_add, List.append_nil]
  · exact q.1
  · exact q.2
def r_mkr_0 : eRul := (9, [xP 114 [xv 0, xv 1, xv 2, xv 3, xv 4, xv 5], xG (([(4, -1)], 100)), xG (([(4, 1)], -100)), (.inl [[(0, 0)]], [xv 5])], 0, [xP 106 [xv 0, xv 1, xv 2, ([], 0), xv 6, xv 7, xv 8]])
theorem r_mkr_0_ok : ruOk r_mkr_0 := by
  intro ρ hl0 hp
  obtain ⟨z, t0, rfl, hl1⟩ := len_inv hl0
  obtain ⟨n, t1, rfl, hl2⟩ := len_inv hl1
  obtain ⟨zr, t2, rfl, hl3⟩ := len_inv hl2
  obtain ⟨zm, t3, rfl, hl4⟩ := len_inv hl3
  obtain ⟨v, t4, rfl, hl5⟩ := len_inv hl4
  obtain ⟨c, t5, rfl, hl6⟩ := len_inv hl5
  obtain ⟨x, t6, rfl, hl7⟩ := len_inv hl6
  obtain ⟨y, t7, rfl, hl8⟩ := len_inv hl7
  obtain ⟨b, t8, rfl, hl9⟩ := len_inv hl8
  have hl := List.eq_nil_of_length_eq_zero hl9
  subst hl
  have p1 := p_get3 (by decide) (fOk_hd hp)
  have p2 := gg_get (fOk_hd (fOk_tl hp))
  have p3 := gg_get (fOk_hd (fOk_tl (fOk_tl hp)))
  have p4 := i_get (fOk_hd (fOk_tl (fOk_tl (fOk_tl hp))))
  simp only [List.map, xv, fev, fvl, gtI, Int.one_mul, Int.add_zero, Int.zero_add] at p1 p2 p3 p4
  have q := k_mkr_0 (z := z) (n := n) (zr := zr) (zm := zm) (v := v) (c := c) (x := x) (y := y) (b := b) p1 p2 p3 p4
  refine ⟨[], rfl, fOk_cons (p_put3 rfl (by decide) ?_) fOk_nil⟩ <;> simp only [List.map, xv, fev, fvl, gtI, Int.one_mul, Int.add_zero, Int.zero_add, List.append_nil]
  exact q
def r_cnw_0 : eRul := (3, [], 0, [xP 115 [xv 0, xv 1, xv 2, ([], 0), ([], 0)]])
theorem r_cnw_0_ok : ruOk r_cnw_0 := by
  intro ρ hl0 hp
  obtain ⟨zm, t0, rfl, hl1⟩ := len_inv hl0
  obtain ⟨zr, t1, rfl, hl2⟩ := len_inv hl1
  obtain ⟨r, t2, rfl, hl3⟩ := len_inv hl2
  have hl := List.eq_nil_of_length_eq_zero hl3
  subst hl
  have q := k_cnw_0 (zm := zm) (zr := zr) (r := r)
  refine ⟨[], rfl, fOk_cons (p_put3 rfl (by decide) ?_) fOk_nil⟩ <;> simp only [List.map, xv, fev, fvl, gtI, Int.one_mul, Int.add_zero, Int.zero_add, List.append_nil]
  exact q
def r_cnw_1 : eRul := (7, [xP 115 [xv 0, xv 1, xv 2, xv 3, xv 4], xP 1 [xv 5, xv 0, xv 3], xP 1 [xv 6, xv 1, ([(2, 1)], 26)], xG (([(5, -1), (6, 1)], 1))], 0, [xP 115 [xv 0, xv 1, xv 2, ([(3, 1)], 1), ([(4, 1)], 1)]])
theorem r_cnw_1_ok : ruOk r_cnw_1 := by
  intro ρ hl0 hp
  obtain ⟨zm, t0, rfl, hl1⟩ := len_inv hl0
  obtain ⟨zr, t1, rfl, hl2⟩ := len_inv hl1
  obtain ⟨r, t2, rfl, hl3⟩ := len_inv hl2
  obtain ⟨k, t3, rfl, hl4⟩ := len_inv hl3
  obtain ⟨w, t4, rfl, hl5⟩ := len_inv hl4
  obtain ⟨x, t5, rfl, hl6⟩ := len_inv hl5
  obtain ⟨f, t6, rfl, hl7⟩ := len_inv hl6
  have hl := List.eq_nil_of_length_eq_zero hl7
  subst hl
  have p1 := p_get3 (by decide) (fOk_hd hp)
  have p2 := p_get (fOk_hd (fOk_tl hp))
  have p3 := p_get (fOk_hd (fOk_tl (fOk_tl hp)))
  have p4 := gg_get (fOk_hd (fOk_tl (fOk_tl (fOk_tl hp))))
  simp only [List.map, xv, fev, fvl, gtI, Int.one_mul, Int.add_zero, Int.zero_add, PR] at p1 p2 p3 p4
  have q := k_cnw_1 (zm := zm) (zr := zr) (r := r) (k := k) (w := w) (x := x) (f := f) p1 p2 p3 p4
  refine ⟨[], rfl, fOk_cons (p_put3 rfl (by decide) ?_) fOk_nil⟩ <;> simp only [List.map, xv, fev, fvl, gtI, Int.one_mul, Int.add_zero, Int.zero_add, List.append_nil]
  exact q
def r_cnw_2 : eRul := (7, [xP 115 [xv 0, xv 1, xv 2, xv 3, xv 4], xP 1 [xv 5, xv 0, xv 3], xP 1 [xv 6, xv 1, ([(2, 1)], 26)], xG (([(5, 1), (6, -1)], 0))], 0, [xP 115 [xv 0, xv 1, xv 2, ([(3, 1)], 1), xv 4]])
theorem r_cnw_2_ok : ruOk r_cnw_2 := by
  intro ρ hl0 hp
  obtain ⟨zm, t0, rfl, hl1⟩ := len_inv hl0
  obtain ⟨zr, t1, rfl, hl2⟩ := len_inv hl1
  obtain ⟨r, t2, rfl, hl3⟩ := len_inv hl2
  obtain ⟨k, t3, rfl, hl4⟩ := len_inv hl3
  obtain ⟨w, t4, rfl, hl5⟩ := len_inv hl4
  obtain ⟨x, t5, rfl, hl6⟩ := len_inv hl5
  obtain ⟨f, t6, rfl, hl7⟩ := len_inv hl6
  have hl := List.eq_nil_of_length_eq_zero hl7
  subst hl
  have p1 := p_get3 (by decide) (fOk_hd hp)
  have p2 := p_get (fOk_hd (fOk_tl hp))
  have p3 := p_get (fOk_hd (fOk_tl (fOk_tl hp)))
  have p4 := gg_get (fOk_hd (fOk_tl (fOk_tl (fOk_tl hp))))
  simp only [List.map, xv, fev, fvl, gtI, Int.one_mul, Int.add_zero, Int.zero_add, PR] at p1 p2 p3 p4
  have q := k_cnw_2 (zm := zm) (zr := zr) (r := r) (k := k) (w := w) (x := x) (f := f) p1 p2 p3 p4
  refine ⟨[], rfl, fOk_cons (p_put3 rfl (by decide) ?_) fOk_nil⟩ <;> simp only [List.map, xv, fev, fvl, gtI, Int.one_mul, Int.add_zero, Int.zero_add, List.append_nil]
  exact q
def r_cnw_u : eRul := (5, [xP 115 [xv 0, xv 1, xv 2, xv 3, xv 4], xG (([(3, -1)], 0)), xG (([(3, 1)], -100)), (.inl [[(-2147483648, 2147483647)]], [xv 4])], 0, [(.inl [[(0, 100)]], [xv 4])])
theorem r_cnw_u_ok : ruOk r_cnw_u := by
  intro ρ hl0 hp
  obtain ⟨zm, t0, rfl, hl1⟩ := len_inv hl0
  obtain ⟨zr, t1, rfl, hl2⟩ := len_inv hl1
  obtain ⟨r, t2, rfl, hl3⟩ := len_inv hl2
  obtain ⟨k, t3, rfl, hl4⟩ := len_inv hl3
  obtain ⟨w, t4, rfl, hl5⟩ := len_inv hl4
  have hl := List.eq_nil_of_length_eq_zero hl5
  subst hl
  have p1 := p_get3 (by decide) (fOk_hd hp)
  have p2 := gg_get (fOk_hd (fOk_tl hp))
  have p3 := gg_get (fOk_hd (fOk_tl (fOk_tl hp)))
  have p4 := i_get (fOk_hd (fOk_tl (fOk_tl (fOk_tl hp))))
  simp only [List.map, xv, fev, fvl, gtI, Int.one_mul, Int.add_zero, Int.zero_add] at p1 p2 p3 p4
  have q := k_cnw_u (zm := zm) (zr := zr) (r := r) (k := k) (w := w) p1 p2 p3 p4
  refine ⟨[], rfl, fOk_cons (i_put rfl ?_ ?_) fOk_nil⟩ <;> simp only [List.map, xv, fev, fvl, gtI, Int.one_mul, Int.add_zero, Int.zero_add, List.append_nil]
  · exact q.1
  · exact q.2
def r_lft_1 : eRul := (6, [xP 115 [xv 0, xv 1, xv 2, xv 3, xv 4], xG (([(3, -1), (5, 1)], 0)), xG (([(3, 1), (5, -1)], 0)), xG (([(4, -2), (5, 1)], 1))], 0, [xP 116 [xv 0, xv 1, xv 5, xv 2, xv 4]])
theorem r_lft_1_ok : ruOk r_lft_1 := by
  intro ρ hl0 hp
  obtain ⟨zm, t0, rfl, hl1⟩ := len_inv hl0
  obtain ⟨zr, t1, rfl, hl2⟩ := len_inv hl1
  obtain ⟨r, t2, rfl, hl3⟩ := len_inv hl2
  obtain ⟨k, t3, rfl, hl4⟩ := len_inv hl3
  obtain ⟨w, t4, rfl, hl5⟩ := len_inv hl4
  obtain ⟨c, t5, rfl, hl6⟩ := len_inv hl5
  have hl := List.eq_nil_of_length_eq_zero hl6
  subst hl
  have p1 := p_get3 (by decide) (fOk_hd hp)
  have p2 := gg_get (fOk_hd (fOk_tl hp))
  have p3 := gg_get (fOk_hd (fOk_tl (fOk_tl hp)))
  have p4 := gg_get (fOk_hd (fOk_tl (fOk_tl (fOk_tl hp))))
  simp only [List.map, xv, fev, fvl, gtI, Int.one_mul, Int.add_zero, Int.zero_add] at p1 p2 p3 p4
  have q := k_lft_1 (zm := zm) (zr := zr) (r := r) (k := k) (w := w) (c := c) p1 p2 p3 p4
  refine ⟨[], rfl, fOk_cons (p_put3 rfl (by decide) ?_) fOk_nil⟩ <;> simp only [List.map, xv, fev, fvl, gtI, Int.one_mul, Int.add_zero, Int.zero_add, List.append_nil]
  exact q
def r_lft_2 : eRul := (6, [xP 115 [xv 0, xv 1, xv 2, xv 3, xv 4], xG (([(3, -1), (5, 1)], 0)), xG (([(3, 1), (5, -1)], 0)), xG (([(4, 2), (5, -1)], 0))], 0, [xP 116 [xv 0, xv 1, xv 5, xv 2, ([(4, -1), (5, 1)], 0)]])
theorem r_lft_2_ok : ruOk r_lft_2 := by
  intro ρ hl0 hp
  obtain ⟨zm, t0, rfl, hl1⟩ := len_inv hl0
  obtain ⟨zr, t1, rfl, hl2⟩ := len_inv hl1
  obtain ⟨r, t2, rfl, hl3⟩ := len_inv hl2
  obtain ⟨k, t3, rfl, hl4⟩ := len_inv hl3
  obtain ⟨w, t4, rfl, hl5⟩ := len_inv hl4
  obtain ⟨c, t5, rfl, hl6⟩ := len_inv hl5
  have hl := List.eq_nil_of_length_eq_zero hl6
  subst hl
  have p1 := p_get3 (by decide) (fOk_hd hp)
  have p2 := gg_get (fOk_hd (fOk_tl hp))
  have p3 := gg_get (fOk_hd (fOk_tl (fOk_tl hp)))
  have p4 := gg_get (fOk_hd (fOk_tl (fOk_tl (fOk_tl hp))))
  simp only [List.map, xv, fev, fvl, gtI, Int.one_mul, Int.add_zero, Int.zero_add] at p1 p2 p3 p4
  have q := k_lft_2 (zm := zm) (zr := zr) (r := r) (k := k) (w := w) (c := c) p1 p2 p3 p4
  refine ⟨[], rfl, fOk_cons (p_put3 rfl (by decide) ?_) fOk_nil⟩ <;> simp only [List.map, xv, fev, fvl, gtI, Int.one_mul, Int.add_zero, Int.zero_add, List.append_nil]
  exact q
def r_blr_0 : eRul := (3, [], 0, [xP 117 [xv 0, xv 1, xv 2, ([], 1), ([], 0)]])
theorem r_blr_0_ok : ruOk r_blr_0 := by
  intro ρ hl0 hp
  obtain ⟨zm, t0, rfl, hl1⟩ := len_inv hl0
  obtain ⟨zr, t1, rfl, hl2⟩ := len_inv hl1
  obtain ⟨c, t2, rfl, hl3⟩ := len_inv hl2
  have hl := List.eq_nil_of_length_eq_zero hl3
  subst hl
  have q := k_blr_0 (zm := zm) (zr := zr) (c := c)
  refine ⟨[], rfl, fOk_cons (p_put3 rfl (by decide) ?_) fOk_nil⟩ <;> simp only [List.map, xv, fev, fvl, gtI, Int.one_mul, Int.add_zero, Int.zero_add, List.append_nil]
  exact q
def r_blr_1 : eRul := (8, [xP 117 [xv 0, xv 1, xv 2, xv 3, xv 4], xP 116 [xv 0, xv 1, xv 2, xv 3, xv 5], xP 116 [xv 0, xv 1, xv 2, xv 4, xv 6], xP 1 [xv 7, xv 1, ([], 1)], xG (([(3, 1), (7, -1)], 1)), xG (([(5, 1), (6, -1)], 1))], 0, [xP 117 [xv 0, xv 1, xv 2, ([(3, 1)], 1), xv 3]])
theorem r_blr_1_ok : ruOk r_blr_1 := by
  intro ρ hl0 hp
  obtain ⟨zm, t0, rfl, hl1⟩ := len_inv hl0
  obtain ⟨zr, t1, rfl, hl2⟩ := len_inv hl1
  obtain ⟨c, t2, rfl, hl3⟩ := len_inv hl2
  obtain ⟨r, t3, rfl, hl4⟩ := len_inv hl3
  obtain ⟨b, t4, rfl, hl5⟩ := len_inv hl4
  obtain ⟨x, t5, rfl, hl6⟩ := len_inv hl5
  obtain ⟨y, t6, rfl, hl7⟩ := len_inv hl6
  obtain ⟨m, t7, rfl, hl8⟩ := len_inv hl7
  have hl := List.eq_nil_of_length_eq_zero hl8
  subst hl
  have p1 := p_get3 (by decide) (fOk_hd hp)
  have p2 := p_get3 (by decide) (fOk_hd (fOk_tl hp))
  have p3 := p_get3 (by decide) (fOk_hd (fOk_tl (fOk_tl hp)))
  have p4 := p_get (fOk_hd (fOk_tl (fOk_tl (fOk_tl hp))))
  have p5 := gg_get (fOk_hd (fOk_tl (fOk_tl (fOk_tl (fOk_tl hp)))))
  have p6 := gg_get (fOk_hd (fOk_tl (fOk_tl (fOk_tl (fOk_tl (fOk_tl hp))))))
  simp only [List.map, xv, fev, fvl, gtI, Int.one_mul, Int.add_zero, Int.zero_add, PR] at p1 p2 p3 p4 p5 p6
  have q := k_blr_1 (zm := zm) (zr := zr) (c := c) (r := r) (b := b) (x := x) (y := y) (m := m) p1 p2 p3 p4 p5 p6
  refine ⟨[], rfl, fOk_cons (p_put3 rfl (by decide) ?_) fOk_nil⟩ <;> simp only [List.map, xv, fev, fvl, gtI, Int.one_mul, Int.add_zero, Int.zero_add, List.append_nil]
  exact q
def r_blr_2 : eRul := (8, [xP 117 [xv 0, xv 1, xv 2, xv 3, xv 4], xP 116 [xv 0, xv 1, xv 2, xv 3, xv 5], xP 116 [xv 0, xv 1, xv 2, xv 4, xv 6], xP 1 [xv 7, xv 1, ([], 1)], xG (([(3, 1), (7, -1)], 1)), xG (([(5, -1), (6, 1)], 0))], 0, [xP 117 [xv 0, xv 1, xv 2, ([(3, 1)], 1), xv 4]])
theorem r_blr_2_ok : ruOk r_blr_2 := by
  intro ρ hl0 hp
  obtain ⟨zm, t0, rfl, hl1⟩ := len_inv hl0
  obtain ⟨zr, t1, rfl, hl2⟩ := len_inv hl1
  obtain ⟨c, t2, rfl, hl3⟩ := len_inv hl2
  obtain ⟨r, t3, rfl, hl4⟩ := len_inv hl3
  obtain ⟨b, t4, rfl, hl5⟩ := len_inv hl4
  obtain ⟨x, t5, rfl, hl6⟩ := len_inv hl5
  obtain ⟨y, t6, rfl, hl7⟩ := len_inv hl6
  obtain ⟨m, t7, rfl, hl8⟩ := len_inv hl7
  have hl := List.eq_nil_of_length_eq_zero hl8
  subst hl
  have p1 := p_get3 (by decide) (fOk_hd hp)
  have p2 := p_get3 (by decide) (fOk_hd (fOk_tl hp))
  have p3 := p_get3 (by decide) (fOk_hd (fOk_tl (fOk_tl hp)))
  have p4 := p_get (fOk_hd (fOk_tl (fOk_tl (fOk_tl hp))))
  have p5 := gg_get (fOk_hd (fOk_tl (fOk_tl (fOk_tl (fOk_tl hp)))))
  have p6 := gg_get (fOk_hd (fOk_tl (fOk_tl (fOk_tl (fOk_tl (fOk_tl hp))))))
  simp only [List.map, xv, fev, fvl, gtI, Int.one_mul, Int.add_zero, Int.zero_add, PR] at p1 p2 p3 p4 p5 p6
  have q := k_blr_2 (zm := zm) (zr := zr) (c := c) (r := r) (b := b) (x := x) (y := y) (m := m) p1 p2 p3 p4 p5 p6
  refine ⟨[], rfl, fOk_cons (p_put3 rfl (by decide) ?_) fOk_nil⟩ <;> simp only [List.map, xv, fev, fvl, gtI, Int.one_mul, Int.add_zero, Int.zero_add, List.append_nil]
  exact q
def r_mke : eRul := (6, [xP 114 [xv 0, xv 1, xv 2, xv 3, xv 4, xv 5], xG (([(4, -1)], 100)), xG (([(4, 1)], -100))], 0, [xP 121 [xv 0, xv 1, xv 2, xv 3, xv 5]])
theorem r_mke_ok : ruOk r_mke := by
  intro ρ hl0 hp
  obtain ⟨z, t0, rfl, hl1⟩ := len_inv hl0
  obtain ⟨n, t1, rfl, hl2⟩ := len_inv hl1
  obtain ⟨zr, t2, rfl, hl3⟩ := len_inv hl2
  obtain ⟨zm, t3, rfl, hl4⟩ := len_inv hl3
  obtain ⟨v, t4, rfl, hl5⟩ := len_inv hl4
  obtain ⟨c, t5, rfl, hl6⟩ := len_inv hl5
  have hl := List.eq_nil_of_length_eq_zero hl6
  subst hl
  have p1 := p_get3 (by decide) (fOk_hd hp)
  have p2 := gg_get (fOk_hd (fOk_tl hp))
  have p3 := gg_get (fOk_hd (fOk_tl (fOk_tl hp)))
  simp only [List.map, xv, fev, fvl, gtI, Int.one_mul, Int.add_zero, Int.zero_add] at p1 p2 p3
  have q := k_mke (z := z) (n := n) (zr := zr) (zm := zm) (v := v) (c := c) p1 p2 p3
  refine ⟨[], rfl, fOk_cons (p_put3 rfl (by decide) ?_) fOk_nil⟩ <;> simp only [List.map, xv, fev, fvl, gtI, Int.one_mul, Int.add_zero, Int.zero_add, List.append_nil]
  exact q
def r_mkr_1 : eRul := (10, [xP 121 [xv 0, xv 1, xv 2, xv 3, xv 4], xG (([(4, -1)], 1)), xP 1 [xv 5, xv 3, ([], 0)], xP 1 [xv 6, xv 3, ([(4, 1)], -1)], xP 117 [xv 3, xv 2, xv 4, xv 7, xv 8], xP 1 [xv 9, xv 2, ([], 1)], xG (([(7, -1), (9, 1)], 0)), xG (([(7, -1)], 1)), xG (([(7, 1)], -8))], 0, [xP 106 [xv 0, xv 1, xv 2, xv 4, xv 5, xv 6, xv 8]])
theorem r_mkr_1_ok : ruOk r_mkr_1 := by
  intro ρ hl0 hp
  obtain ⟨z, t0, rfl, hl1⟩ := len_inv hl0
  obtain ⟨n, t1, rfl, hl2⟩ := len_inv hl1
  obtain ⟨zr, t2, rfl, hl3⟩ := len_inv hl2
  obtain ⟨zm, t3, rfl, hl4⟩ := len_inv hl3
  obtain ⟨c, t4, rfl, hl5⟩ := len_inv hl4
  obtain ⟨x, t5, rfl, hl6⟩ := len_inv hl5
  obtain ⟨y, t6, rfl, hl7⟩ := len_inv hl6
  obtain ⟨r, t7, rfl, hl8⟩ := len_inv hl7
  obtain ⟨b, t8, rfl, hl9⟩ := len_inv hl8
  obtain ⟨m, t9, rfl, hl10⟩ := len_inv hl9
  have hl := List.eq_nil_of_length_eq_zero hl10
  subst hl
  have p1 := p_get3 (by decide) (fOk_hd hp)
  have p2 := gg_get (fOk_hd (fOk_tl hp))
  have p3 := p_get (fOk_hd (fOk_tl (fOk_tl hp)))
  have p4 := p_get (fOk_hd (fOk_tl (fOk_tl (fOk_tl hp))))
  have p5 := p_get3 (by decide) (fOk_hd (fOk_tl (fOk_tl (fOk_tl (fOk_tl hp)))))
  have p6 := p_get (fOk_hd (fOk_tl (fOk_tl (fOk_tl (fOk_tl (fOk_tl hp))))))
  have p7 := gg_get (fOk_hd (fOk_tl (fOk_tl (fOk_tl (fOk_tl (fOk_tl (fOk_tl hp)))))))
  have p8 := gg_get (fOk_hd (fOk_tl (fOk_tl (fOk_tl (fOk_tl (fOk_tl (fOk_tl (fOk_tl hp))))))))
  have p9 := gg_get (fOk_hd (fOk_tl (fOk_tl (fOk_tl (fOk_tl (fOk_tl (fOk_tl (fOk_tl (fOk_tl hp)))))))))
  simp only [List.map, xv, fev, fvl, gtI, Int.one_mul, Int.add_zero, Int.zero_add, PR] at p1 p2 p3 p4 p5 p6 p7 p8 p9
  have q := k_mkr_1 (z := z) (n := n) (zr := zr) (zm := zm) (c := c) (x := x) (y := y) (r := r) (b := b) (m := m) p1 p2 p3 p4 p5 p6 p7 p8 p9
  refine ⟨[], rfl, fOk_cons (p_put3 rfl (by decide) ?_) fOk_nil⟩ <;> simp only [List.map, xv, fev, fvl, gtI, Int.one_mul, Int.add_zero, Int.zero_add, List.append_nil]
  exact q
def r_mk_a : eRul := (22, [xP 105 [xv 0, xv 1, xv 2, xv 3, xv 4, xv 5, xv 6, xv 7], xP 106 [xv 8, xv 1, xv 9, xv 10, xv 11, xv 12, xv 13], xP 71 [xv 0, xv 8, xv 1], xP 102 [xv 9, xv 14, xv 15, xv 2, xv 16, xv 3, xv 17, xv 18, xv 19, xv 20, xv 21], xG (([(1, 1)], -940))], 0, [(.inl [[(0, 0)]], [([(4, 1), (10, -1)], 0)]), (.inl [[(0, 0)]], [([(4, -1), (10, 1)], 0)])])
theorem r_mk_a_ok : ruOk r_mk_a := by
  intro ρ hl0 hp
  obtain ⟨c, t0, rfl, hl1⟩ := len_inv hl0
  obtain ⟨n, t1, rfl, hl2⟩ := len_inv hl1
  obtain ⟨zt, t2, rfl, hl3⟩ := len_inv hl2
  obtain ⟨r, t3, rfl, hl4⟩ := len_inv hl3
  obtain ⟨a, t4, rfl, hl5⟩ := len_inv hl4
  obtain ⟨x, t5, rfl, hl6⟩ := len_inv hl5
  obtain ⟨y, t6, rfl, hl7⟩ := len_inv hl6
  obtain ⟨b, t7, rfl, hl8⟩ := len_inv hl7
  obtain ⟨z, t8, rfl, hl9⟩ := len_inv hl8
  obtain ⟨zr, t9, rfl, hl10⟩ := len_inv hl9
  obtain ⟨d, t10, rfl, hl11⟩ := len_inv hl10
  obtain ⟨u, t11, rfl, hl12⟩ := len_inv hl11
  obtain ⟨v, t12, rfl, hl13⟩ := len_inv hl12
  obtain ⟨e, t13, rfl, hl14⟩ := len_inv hl13
  obtain ⟨zm, t14, rfl, hl15⟩ := len_inv hl14
  obtain ⟨zn, t15, rfl, hl16⟩ := len_inv hl15
  obtain ⟨h, t16, rfl, hl17⟩ := len_inv hl16
  obtain ⟨g, t17, rfl, hl18⟩ := len_inv hl17
  obtain ⟨ev, t18, rfl, hl19⟩ := len_inv hl18
  obtain ⟨ri, t19, rfl, hl20⟩ := len_inv hl19
  obtain ⟨ml, t20, rfl, hl21⟩ := len_inv hl20
  obtain ⟨so, t21, rfl, hl22⟩ := len_inv hl21
  have hl := List.eq_nil_of_length_eq_zero hl22
  subst hl
  have p1 := p_get3 (by decide) (fOk_hd hp)
  have p2 := p_get3 (by decide) (fOk_hd (fOk_tl hp))
  have p3 := p_get3 (by decide) (fOk_hd (fOk_tl (fOk_tl hp)))
  have p4 := p_get3 (by decide) (fOk_hd (fOk_tl (fOk_tl (fOk_tl hp))))
  have p5 := gg_get (fOk_hd (fOk_tl (fOk_tl (fOk_tl (fOk_tl hp)))))
  simp only [List.map, xv, fev, fvl, gtI, Int.one_mul, Int.add_zero, Int.zero_add] at p1 p2 p3 p4 p5
  have q := k_mk_a (c := c) (n := n) (zt := zt) (r := r) (a := a) (x := x) (y := y) (b := b) (z := z) (zr := zr) (d := d) (u := u) (v := v) (e := e) (zm := zm) (zn := zn) (h := h) (g := g) (ev := ev) (ri := ri) (ml := ml) (so := so) p1 p2 p3 p4 p5
  refine ⟨[], rfl, fOk_cons (i_put rfl ?_ ?_) (fOk_cons (i_put rfl ?_ ?_) fOk_nil)⟩ <;> simp only [List.map, xv, fev, fvl, gtI, Int.one_mul, Int.add_zero, Int.zero_add, List.append_nil]
  · exact q.1
  · exact q.2.1
  · exact q.2.2.1
  · exact q.2.2.2
def r_mk_x : eRul := (22, [xP 105 [xv 0, xv 1, xv 2, xv 3, xv 4, xv 5, xv 6, xv 7], xP 106 [xv 8, xv 1, xv 9, xv 10, xv 11, xv 12, xv 13], xP 71 [xv 0, xv 8, xv 1], xP 102 [xv 9, xv 14, xv 15, xv 2, xv 16, xv 3, xv 17, xv 18, xv 19, xv 20, xv 21], xG (([(1, 1)], -940)), xG (([(4, -1)], 1))], 0, [xP 104 [xv 5, xv 11]])
theorem r_mk_x_ok : ruOk r_mk_x := by
  intro ρ hl0 hp
  obtain ⟨c, t0, rfl, hl1⟩ := len_inv hl0
  obtain ⟨n, t1, rfl, hl2⟩ := len_inv hl1
  obtain ⟨zt, t2, rfl, hl3⟩ := len_inv hl2
  obtain ⟨r, t3, rfl, hl4⟩ := len_inv hl3
  obtain ⟨a, t4, rfl, hl5⟩ := len_inv hl4
  obtain ⟨x, t5, rfl, hl6⟩ := len_inv hl5
  obtain ⟨y, t6, rfl, hl7⟩ := len_inv hl6
  obtain ⟨b, t7, rfl, hl8⟩ := len_inv hl7
  obtain ⟨z, t8, rfl, hl9⟩ := len_inv hl8
  obtain ⟨zr, t9, rfl, hl10⟩ := len_inv hl9
  obtain ⟨d, t10, rfl, hl11⟩ := len_inv hl10
  obtain ⟨u, t11, rfl, hl12⟩ := len_inv hl11
  obtain ⟨v, t12, rfl, hl13⟩ := len_inv hl12
  obtain ⟨e, t13, rfl, hl14⟩ := len_inv hl13
  obtain ⟨zm, t14, rfl, hl15⟩ := len_inv hl14
  obtain ⟨zn, t15, rfl, hl16⟩ := len_inv hl15
  obtain ⟨h, t16, rfl, hl17⟩ := len_inv hl16
  obtain ⟨g, t17, rfl, hl18⟩ := len_inv hl17
  obtain ⟨ev, t18, rfl, hl19⟩ := len_inv hl18
  obtain ⟨ri, t19, rfl, hl20⟩ := len_inv hl19
  obtain ⟨ml, t20, rfl, hl21⟩ := len_inv hl20
  obtain ⟨so, t21, rfl, hl22⟩ := len_inv hl21
  have hl := List.eq_nil_of_length_eq_zero hl22
  subst hl
  have p1 := p_get3 (by decide) (fOk_hd hp)
  have p2 := p_get3 (by decide) (fOk_hd (fOk_tl hp))
  have p3 := p_get3 (by decide) (fOk_hd (fOk_tl (fOk_tl hp)))
  have p4 := p_get3 (by decide) (fOk_hd (fOk_tl (fOk_tl (fOk_tl hp))))
  have p5 := gg_get (fOk_hd (fOk_tl (fOk_tl (fOk_tl (fOk_tl hp)))))
  have p6 := gg_get (fOk_hd (fOk_tl (fOk_tl (fOk_tl (fOk_tl (fOk_tl hp))))))
  simp only [List.map, xv, fev, fvl, gtI, Int.one_mul, Int.add_zero, Int.zero_add] at p1 p2 p3 p4 p5 p6
  have q := k_mk_x (c := c) (n := n) (zt := zt) (r := r) (a := a) (x := x) (y := y) (b := b) (z := z) (zr := zr) (d := d) (u := u) (v := v) (e := e) (zm := zm) (zn := zn) (h := h) (g := g) (ev := ev) (ri := ri) (ml := ml) (so := so) p1 p2 p3 p4 p5 p6
  refine ⟨[], rfl, fOk_cons (p_put3 rfl (by decide) ?_) fOk_nil⟩ <;> simp only [List.map, xv, fev, fvl, gtI, Int.one_mul, Int.add_zero, Int.zero_add, List.append_nil]
  exact q
def r_mk_y : eRul := (22, [xP 105 [xv 0, xv 1, xv 2, xv 3, xv 4, xv 5, xv 6, xv 7], xP 106 [xv 8, xv 1, xv 9, xv 10, xv 11, xv 12, xv 13], xP 71 [xv 0, xv 8, xv 1], xP 102 [xv 9, xv 14, xv 15, xv 2, xv 16, xv 3, xv 17, xv 18, xv 19, xv 20, xv 21], xG (([(1, 1)], -940)), xG (([(4, -1)], 1))], 0, [xP 104 [xv 6, xv 12]])
theorem r_mk_y_ok : ruOk r_mk_y := by
  intro ρ hl0 hp
  obtain ⟨c, t0, rfl, hl1⟩ := len_inv hl0
  obtain ⟨n, t1, rfl, hl2⟩ := len_inv hl1
  obtain ⟨zt, t2, rfl, hl3⟩ := len_inv hl2
  obtain ⟨r, t3, rfl, hl4⟩ := len_inv hl3
  obtain ⟨a, t4, rfl, hl5⟩ := len_inv hl4
  obtain ⟨x, t5, rfl, hl6⟩ := len_inv hl5
  obtain ⟨y, t6, rfl, hl7⟩ := len_inv hl6
  obtain ⟨b, t7, rfl, hl8⟩ := len_inv hl7
  obtain ⟨z, t8, rfl, hl9⟩ := len_inv hl8
  obtain ⟨zr, t9, rfl, hl10⟩ := len_inv hl9
  obtain ⟨d, t10, rfl, hl11⟩ := len_inv hl10
  obtain ⟨u, t11, rfl, hl12⟩ := len_inv hl11
  obtain ⟨v, t12, rfl, hl13⟩ := len_inv hl12
  obtain ⟨e, t13, rfl, hl14⟩ := len_inv hl13
  obtain ⟨zm, t14, rfl, hl15⟩ := len_inv hl14
  obtain ⟨zn, t15, rfl, hl16⟩ := len_inv hl15
  obtain ⟨h, t16, rfl, hl17⟩ := len_inv hl16
  obtain ⟨g, t17, rfl, hl18⟩ := len_inv hl17
  obtain ⟨ev, t18, rfl, hl19⟩ := len_inv hl18
  obtain ⟨ri, t19, rfl, hl20⟩ := len_inv hl19
  obtain ⟨ml, t20, rfl, hl21⟩ := len_inv hl20
  obtain ⟨so, t21, rfl, hl22⟩ := len_inv hl21
  have hl := List.eq_nil_of_length_eq_zero hl22
  subst hl
  have p1 := p_get3 (by decide) (fOk_hd hp)
  have p2 := p_get3 (by decide) (fOk_hd (fOk_tl hp))
  have p3 := p_get3 (by decide) (fOk_hd (fOk_tl (fOk_tl hp)))
  have p4 := p_get3 (by decide) (fOk_hd (fOk_tl (fOk_tl (fOk_tl hp))))
  have p5 := gg_get (fOk_hd (fOk_tl (fOk_tl (fOk_tl (fOk_tl hp)))))
  have p6 := gg_get (fOk_hd (fOk_tl (fOk_tl (fOk_tl (fOk_tl (fOk_tl hp))))))
  simp only [List.map, xv, fev, fvl, gtI, Int.one_mul, Int.add_zero, Int.zero_add] at p1 p2 p3 p4 p5 p6
  have q := k_mk_y (c := c) (n := n) (zt := zt) (r := r) (a := a) (x := x) (y := y) (b := b) (z := z) (zr := zr) (d := d) (u := u) (v := v) (e := e) (zm := zm) (zn := zn) (h := h) (g := g) (ev := ev) (ri := ri) (ml := ml) (so := so) p1 p2 p3 p4 p5 p6
  refine ⟨[], rfl, fOk_cons (p_put3 rfl (by decide) ?_) fOk_nil⟩ <;> simp only [List.map, xv, fev, fvl, gtI, Int.one_mul, Int.add_zero, Int.zero_add, List.append_nil]
  exact q
def r_mk_b : eRul := (22, [xP 105 [xv 0, xv 1, xv 2, xv 3, xv 4, xv 5, xv 6, xv 7], xP 106 [xv 8, xv 1, xv 9, xv 10, xv 11, xv 12, xv 13], xP 71 [xv 0, xv 8, xv 1], xP 102 [xv 9, xv 14, xv 15, xv 2, xv 16, xv 3, xv 17, xv 18, xv 19, xv 20, xv 21], xG (([(1, 1)], -940)), xG (([(4, -1)], 1))], 0, [xP 104 [xv 7, xv 13]])
theorem r_mk_b_ok : ruOk r_mk_b := by
  intro ρ hl0 hp
  obtain ⟨c, t0, rfl, hl1⟩ := len_inv hl0
  obtain ⟨n, t1, rfl, hl2⟩ := len_inv hl1
  obtain ⟨zt, t2, rfl, hl3⟩ := len_inv hl2
  obtain ⟨r, t3, rfl, hl4⟩ := len_inv hl3
  obtain ⟨a, t4, rfl, hl5⟩ := len_inv hl4
  obtain ⟨x, t5, rfl, hl6⟩ := len_inv hl5
  obtain ⟨y, t6, rfl, hl7⟩ := len_inv hl6
  obtain ⟨b, t7, rfl, hl8⟩ := len_inv hl7
  obtain ⟨z, t8, rfl, hl9⟩ := len_inv hl8
  obtain ⟨zr, t9, rfl, hl10⟩ := len_inv hl9
  obtain ⟨d, t10, rfl, hl11⟩ := len_inv hl10
  obtain ⟨u, t11, rfl, hl12⟩ := len_inv hl11
  obtain ⟨v, t12, rfl, hl13⟩ := len_inv hl12
  obtain ⟨e, t13, rfl, hl14⟩ := len_inv hl13
  obtain ⟨zm, t14, rfl, hl15⟩ := len_inv hl14
  obtain ⟨zn, t15, rfl, hl16⟩ := len_inv hl15
  obtain ⟨h, t16, rfl, hl17⟩ := len_inv hl16
  obtain ⟨g, t17, rfl, hl18⟩ := len_inv hl17
  obtain ⟨ev, t18, rfl, hl19⟩ := len_inv hl18
  obtain ⟨ri, t19, rfl, hl20⟩ := len_inv hl19
  obtain ⟨ml, t20, rfl, hl21⟩ := len_inv hl20
  obtain ⟨so, t21, rfl, hl22⟩ := len_inv hl21
  have hl := List.eq_nil_of_length_eq_zero hl22
  subst hl
  have p1 := p_get3 (by decide) (fOk_hd hp)
  have p2 := p_get3 (by decide) (fOk_hd (fOk_tl hp))
  have p3 := p_get3 (by decide) (fOk_hd (fOk_tl (fOk_tl hp)))
  have p4 := p_get3 (by decide) (fOk_hd (fOk_tl (fOk_tl (fOk_tl hp))))
  have p5 := gg_get (fOk_hd (fOk_tl (fOk_tl (fOk_tl (fOk_tl hp)))))
  have p6 := gg_get (fOk_hd (fOk_tl (fOk_tl (fOk_tl (fOk_tl (fOk_tl hp))))))
  simp only [List.map, xv, fev, fvl, gtI, Int.one_mul, Int.add_zero, Int.zero_add] at p1 p2 p3 p4 p5 p6
  have q := k_mk_b (c := c) (n := n) (zt := zt) (r := r) (a := a) (x := x) (y := y) (b := b) (z := z) (zr := zr) (d := d) (u := u) (v := v) (e := e) (zm := zm) (zn := zn) (h := h) (g := g) (ev := ev) (ri := ri) (ml := ml) (so := so) p1 p2 p3 p4 p5 p6
  refine ⟨[], rfl, fOk_cons (p_put3 rfl (by decide) ?_) fOk_nil⟩ <;> simp only [List.map, xv, fev, fvl, gtI, Int.one_mul, Int.add_zero, Int.zero_add, List.append_nil]
  exact q
def r_mk_n1 : eRul := (22, [xP 105 [xv 0, xv 1, xv 2, xv 3, xv 4, xv 5, xv 6, xv 7], xP 106 [xv 8, xv 1, xv 9, xv 10, xv 11, xv 12, xv 13], xP 71 [xv 0, xv 8, xv 1], xP 102 [xv 9, xv 14, xv 15, xv 2, xv 16, xv 3, xv 17, xv 18, xv 19, xv 20, xv 21], xG (([(1, 1)], -940)), xG (xv 4), xG (([(10, -1)], 1))], 0, [xG (([], 1))])
theorem r_mk_n1_ok : ruOk r_mk_n1 := by
  intro ρ hl0 hp
  obtain ⟨c, t0, rfl, hl1⟩ := len_inv hl0
  obtain ⟨n, t1, rfl, hl2⟩ := len_inv hl1
  obtain ⟨zt, t2, rfl, hl3⟩ := len_inv hl2
  obtain ⟨r, t3, rfl, hl4⟩ := len_inv hl3
  obtain ⟨a, t4, rfl, hl5⟩ := len_inv hl4
  obtain ⟨x, t5, rfl, hl6⟩ := len_inv hl5
  obtain ⟨y, t6, rfl, hl7⟩ := len_inv hl6
  obtain ⟨b, t7, rfl, hl8⟩ := len_inv hl7
  obtain ⟨z, t8, rfl, hl9⟩ := len_inv hl8
  obtain ⟨zr, t9, rfl, hl10⟩ := len_inv hl9
  obtain ⟨d, t10, rfl, hl11⟩ := len_inv hl10
  obtain ⟨u, t11, rfl, hl12⟩ := len_inv hl11
  obtain ⟨v, t12, rfl, hl13⟩ := len_inv hl12
  obtain ⟨e, t13, rfl, hl14⟩ := len_inv hl13
  obtain ⟨zm, t14, rfl, hl15⟩ := len_inv hl14
  obtain ⟨zn, t15, rfl, hl16⟩ := len_inv hl15
  obtain ⟨h, t16, rfl, hl17⟩ := len_inv hl16
  obtain ⟨g, t17, rfl, hl18⟩ := len_inv hl17
  obtain ⟨ev, t18, rfl, hl19⟩ := len_inv hl18
  obtain ⟨ri, t19, rfl, hl20⟩ := len_inv hl19
  obtain ⟨ml, t20, rfl, hl21⟩ := len_inv hl20
  obtain ⟨so, t21, rfl, hl22⟩ := len_inv hl21
  have hl := List.eq_nil_of_length_eq_zero hl22
  subst hl
  have p1 := p_get3 (by decide) (fOk_hd hp)
  have p2 := p_get3 (by decide) (fOk_hd (fOk_tl hp))
  have p3 := p_get3 (by decide) (fOk_hd (fOk_tl (fOk_tl hp)))
  have p4 := p_get3 (by decide) (fOk_hd (fOk_tl (fOk_tl (fOk_tl hp))))
  have p5 := gg_get (fOk_hd (fOk_tl (fOk_tl (fOk_tl (fOk_tl hp)))))
  have p6 := gg_get (fOk_hd (fOk_tl (fOk_tl (fOk_tl (fOk_tl (fOk_tl hp))))))
  have p7 := gg_get (fOk_hd (fOk_tl (fOk_tl (fOk_tl (fOk_tl (fOk_tl (fOk_tl hp)))))))
  simp only [List.map, xv, fev, fvl, gtI, Int.one_mul, Int.add_zero, Int.zero_add] at p1 p2 p3 p4 p5 p6 p7
  exact (k_mk_n1 p1 p2 p3 p4 p5 p6 p7).elim
def r_mk_n2 : eRul := (22, [xP 105 [xv 0, xv 1, xv 2, xv 3, xv 4, xv 5, xv 6, xv 7], xP 106 [xv 8, xv 1, xv 9, xv 10, xv 11, xv 12, xv 13], xP 71 [xv 0, xv 8, xv 1], xP 102 [xv 9, xv 14, xv 15, xv 2, xv 16, xv 3, xv 17, xv 18, xv 19, xv 20, xv 21], xG (([(1, 1)], -940)), xG (([(4, -1)], 1)), xG (xv 10)], 0, [xG (([], 1))])
theorem r_mk_n2_ok : ruOk r_mk_n2 := by
  intro ρ hl0 hp
  obtain ⟨c, t0, rfl, hl1⟩ := len_inv hl0
  obtain ⟨n, t1, rfl, hl2⟩ := len_inv hl1
  obtain ⟨zt, t2, rfl, hl3⟩ := len_inv hl2
  obtain ⟨r, t3, rfl, hl4⟩ := len_inv hl3
  obtain ⟨a, t4, rfl, hl5⟩ := len_inv hl4
  obtain ⟨x, t5, rfl, hl6⟩ := len_inv hl5
  obtain ⟨y, t6, rfl, hl7⟩ := len_inv hl6
  obtain ⟨b, t7, rfl, hl8⟩ := len_inv hl7
  obtain ⟨z, t8, rfl, hl9⟩ := len_inv hl8
  obtain ⟨zr, t9, rfl, hl10⟩ := len_inv hl9
  obtain ⟨d, t10, rfl, hl11⟩ := len_inv hl10
  obtain ⟨u, t11, rfl, hl12⟩ := len_inv hl11
  obtain ⟨v, t12, rfl, hl13⟩ := len_inv hl12
  obtain ⟨e, t13, rfl, hl14⟩ := len_inv hl13
  obtain ⟨zm, t14, rfl, hl15⟩ := len_inv hl14
  obtain ⟨zn, t15, rfl, hl16⟩ := len_inv hl15
  obtain ⟨h, t16, rfl, hl17⟩ := len_inv hl16
  obtain ⟨g, t17, rfl, hl18⟩ := len_inv hl17
  obtain ⟨ev, t18, rfl, hl19⟩ := len_inv hl18
  obtain ⟨ri, t19, rfl, hl20⟩ := len_inv hl19
  obtain ⟨ml, t20, rfl, hl21⟩ := len_inv hl20
  obtain ⟨so, t21, rfl, hl22⟩ := len_inv hl21
  have hl := List.eq_nil_of_length_eq_zero hl22
  subst hl
  have p1 := p_get3 (by decide) (fOk_hd hp)
  have p2 := p_get3 (by decide) (fOk_hd (fOk_tl hp))
  have p3 := p_get3 (by decide) (fOk_hd (fOk_tl (fOk_tl hp)))
  have p4 := p_get3 (by decide) (fOk_hd (fOk_tl (fOk_tl (fOk_tl hp))))
  have p5 := gg_get (fOk_hd (fOk_tl (fOk_tl (fOk_tl (fOk_tl hp)))))
  have p6 := gg_get (fOk_hd (fOk_tl (fOk_tl (fOk_tl (fOk_tl (fOk_tl hp))))))
  have p7 := gg_get (fOk_hd (fOk_tl (fOk_tl (fOk_tl (fOk_tl (fOk_tl (fOk_tl hp)))))))
  simp only [List.map, xv, fev, fvl, gtI, Int.one_mul, Int.add_zero, Int.zero_add] at p1 p2 p3 p4 p5 p6 p7
  exact (k_mk_n2 p1 p2 p3 p4 p5 p6 p7).elim
def r_eq_u : eRul := (2, [xP 104 [xv 0, xv 1]], 0, [(.inl [[(0, 0)]], [([(0, 1), (1, -1)], 0)]), (.inl [[(0, 0)]], [([(0, -1), (1, 1)], 0)])])
theorem r_eq_u_ok : ruOk r_eq_u := by
  intro ρ hl0 hp
  obtain ⟨x, t0, rfl, hl1⟩ := len_inv hl0
  obtain ⟨y, t1, rfl, hl2⟩ := len_inv hl1
  have hl := List.eq_nil_of_length_eq_zero hl2
  subst hl
  have p1 := p_get3 (by decide) (fOk_hd hp)
  simp only [List.map, xv, fev, fvl, gtI, Int.one_mul, Int.add_zero, Int.zero_add] at p1
  have q := k_eq_u (x := x) (y := y) p1
  refine ⟨[], rfl, fOk_cons (i_put rfl ?_ ?_) (fOk_cons (i_put rfl ?_ ?_) fOk_nil)⟩ <;> simp only [List.map, xv, fev, fvl, gtI, Int.one_mul, Int.add_zero, Int.zero_add, List.append_nil]
  · exact q.1
  · exact q.2.1
  · exact q.2.2.1
  · exact q.2.2.2
end
